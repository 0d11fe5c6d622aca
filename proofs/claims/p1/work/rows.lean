section
-- ===== PART A: goes FIRST, ahead of the names: the tables' words, and 'selects' of the private methods out of them =====
/-- a private method of a class that the tables say can be made, by its rows of tables_1 -/
def lw_okq (q : MethodName × Nat) : Prop := (q.1.cls ≠ "java/lang/invoke/MethodHandle" ∧ q.1.cls ≠ "java/lang/invoke/VarHandle") ∧ Cond.instantiable q.1.cls q.2 ∈ tables_1 ∧ Cond.privateMethod q.1 ∈ tables_1 ∧ Cond.instanceMethod q.1 ∈ tables_1
theorem lw_p0 : lw_okq (⟨"CloneVolumes", "refuse", "(I)I"⟩, 13) := ⟨⟨by decide +kernel, by decide +kernel⟩, List.mem_of_getElem? (i := 22) (by decide +kernel), List.mem_of_getElem? (i := 552) (by decide +kernel), List.mem_of_getElem? (i := 553) (by decide +kernel)⟩
theorem lw_p1 : lw_okq (⟨"CloneVolumes$Reader", "begin", "(LCloneVolumes$Code;)V"⟩, 12) := ⟨⟨by decide +kernel, by decide +kernel⟩, List.mem_of_getElem? (i := 50) (by decide +kernel), List.mem_of_getElem? (i := 573) (by decide +kernel), List.mem_of_getElem? (i := 574) (by decide +kernel)⟩
theorem lw_p2 : lw_okq (⟨"CloneVolumes$Reader", "advance", "()V"⟩, 12) := ⟨⟨by decide +kernel, by decide +kernel⟩, List.mem_of_getElem? (i := 50) (by decide +kernel), List.mem_of_getElem? (i := 577) (by decide +kernel), List.mem_of_getElem? (i := 578) (by decide +kernel)⟩
theorem lw_p3 : lw_okq (⟨"CloneVolumes$Reader", "wordNumber", "()I"⟩, 12) := ⟨⟨by decide +kernel, by decide +kernel⟩, List.mem_of_getElem? (i := 50) (by decide +kernel), List.mem_of_getElem? (i := 591) (by decide +kernel), List.mem_of_getElem? (i := 592) (by decide +kernel)⟩
theorem lw_p4 : lw_okq (⟨"CloneVolumes$Reader", "readStatement", "(LCloneVolumes$Plan;)V"⟩, 12) := ⟨⟨by decide +kernel, by decide +kernel⟩, List.mem_of_getElem? (i := 50) (by decide +kernel), List.mem_of_getElem? (i := 598) (by decide +kernel), List.mem_of_getElem? (i := 599) (by decide +kernel)⟩
theorem lw_p5 : lw_okq (⟨"CloneVolumes$Reader", "fail", "(II)Z"⟩, 12) := ⟨⟨by decide +kernel, by decide +kernel⟩, List.mem_of_getElem? (i := 50) (by decide +kernel), List.mem_of_getElem? (i := 602) (by decide +kernel), List.mem_of_getElem? (i := 603) (by decide +kernel)⟩
theorem lw_p6 : lw_okq (⟨"CloneVolumes$Reader", "readBlocks", "(LCloneVolumes$Plan;)V"⟩, 12) := ⟨⟨by decide +kernel, by decide +kernel⟩, List.mem_of_getElem? (i := 50) (by decide +kernel), List.mem_of_getElem? (i := 606) (by decide +kernel), List.mem_of_getElem? (i := 607) (by decide +kernel)⟩
theorem lw_p7 : lw_okq (⟨"CloneVolumes$Reader", "expectNumber", "(II)I"⟩, 12) := ⟨⟨by decide +kernel, by decide +kernel⟩, List.mem_of_getElem? (i := 50) (by decide +kernel), List.mem_of_getElem? (i := 610) (by decide +kernel), List.mem_of_getElem? (i := 611) (by decide +kernel)⟩
theorem lw_p8 : lw_okq (⟨"CloneVolumes$Reader", "expectWord", "(I)V"⟩, 12) := ⟨⟨by decide +kernel, by decide +kernel⟩, List.mem_of_getElem? (i := 50) (by decide +kernel), List.mem_of_getElem? (i := 614) (by decide +kernel), List.mem_of_getElem? (i := 615) (by decide +kernel)⟩
theorem lw_p9 : lw_okq (⟨"CloneVolumes$Reader", "isWord", "(I)Z"⟩, 12) := ⟨⟨by decide +kernel, by decide +kernel⟩, List.mem_of_getElem? (i := 50) (by decide +kernel), List.mem_of_getElem? (i := 618) (by decide +kernel), List.mem_of_getElem? (i := 619) (by decide +kernel)⟩
theorem lw_p10 : lw_okq (⟨"CloneVolumes$Reader", "readVolume", "(LCloneVolumes$Plan;I)V"⟩, 12) := ⟨⟨by decide +kernel, by decide +kernel⟩, List.mem_of_getElem? (i := 50) (by decide +kernel), List.mem_of_getElem? (i := 622) (by decide +kernel), List.mem_of_getElem? (i := 623) (by decide +kernel)⟩
theorem lw_p11 : lw_okq (⟨"CloneVolumes$Reader", "isName", "()Z"⟩, 12) := ⟨⟨by decide +kernel, by decide +kernel⟩, List.mem_of_getElem? (i := 50) (by decide +kernel), List.mem_of_getElem? (i := 626) (by decide +kernel), List.mem_of_getElem? (i := 627) (by decide +kernel)⟩
theorem lw_p12 : lw_okq (⟨"CloneVolumes$Reader", "expectVolume", "(LCloneVolumes$Plan;)I"⟩, 12) := ⟨⟨by decide +kernel, by decide +kernel⟩, List.mem_of_getElem? (i := 50) (by decide +kernel), List.mem_of_getElem? (i := 638) (by decide +kernel), List.mem_of_getElem? (i := 639) (by decide +kernel)⟩
theorem lw_p13 : lw_okq (⟨"CloneVolumes$Reader", "readChange", "(LCloneVolumes$Plan;I)V"⟩, 12) := ⟨⟨by decide +kernel, by decide +kernel⟩, List.mem_of_getElem? (i := 50) (by decide +kernel), List.mem_of_getElem? (i := 650) (by decide +kernel), List.mem_of_getElem? (i := 651) (by decide +kernel)⟩
theorem lw_p14 : lw_okq (⟨"CloneVolumes$Reader", "beginFormula", "(LCloneVolumes$Plan;I)V"⟩, 12) := ⟨⟨by decide +kernel, by decide +kernel⟩, List.mem_of_getElem? (i := 50) (by decide +kernel), List.mem_of_getElem? (i := 654) (by decide +kernel), List.mem_of_getElem? (i := 655) (by decide +kernel)⟩
theorem lw_p15 : lw_okq (⟨"CloneVolumes$Reader", "readSum", "()V"⟩, 12) := ⟨⟨by decide +kernel, by decide +kernel⟩, List.mem_of_getElem? (i := 50) (by decide +kernel), List.mem_of_getElem? (i := 658) (by decide +kernel), List.mem_of_getElem? (i := 659) (by decide +kernel)⟩
def lw_privs_1 : List (MethodName × Nat) := [(⟨"CloneVolumes", "refuse", "(I)I"⟩, 13), (⟨"CloneVolumes$Reader", "begin", "(LCloneVolumes$Code;)V"⟩, 12), (⟨"CloneVolumes$Reader", "advance", "()V"⟩, 12), (⟨"CloneVolumes$Reader", "wordNumber", "()I"⟩, 12), (⟨"CloneVolumes$Reader", "readStatement", "(LCloneVolumes$Plan;)V"⟩, 12), (⟨"CloneVolumes$Reader", "fail", "(II)Z"⟩, 12), (⟨"CloneVolumes$Reader", "readBlocks", "(LCloneVolumes$Plan;)V"⟩, 12), (⟨"CloneVolumes$Reader", "expectNumber", "(II)I"⟩, 12), (⟨"CloneVolumes$Reader", "expectWord", "(I)V"⟩, 12), (⟨"CloneVolumes$Reader", "isWord", "(I)Z"⟩, 12), (⟨"CloneVolumes$Reader", "readVolume", "(LCloneVolumes$Plan;I)V"⟩, 12), (⟨"CloneVolumes$Reader", "isName", "()Z"⟩, 12), (⟨"CloneVolumes$Reader", "expectVolume", "(LCloneVolumes$Plan;)I"⟩, 12), (⟨"CloneVolumes$Reader", "readChange", "(LCloneVolumes$Plan;I)V"⟩, 12), (⟨"CloneVolumes$Reader", "beginFormula", "(LCloneVolumes$Plan;I)V"⟩, 12), (⟨"CloneVolumes$Reader", "readSum", "()V"⟩, 12)]
theorem lw_r1 : ∀ q ∈ lw_privs_1, lw_okq q := List.forall_mem_cons.mpr ⟨lw_p0, List.forall_mem_cons.mpr ⟨lw_p1, List.forall_mem_cons.mpr ⟨lw_p2, List.forall_mem_cons.mpr ⟨lw_p3, List.forall_mem_cons.mpr ⟨lw_p4, List.forall_mem_cons.mpr ⟨lw_p5, List.forall_mem_cons.mpr ⟨lw_p6, List.forall_mem_cons.mpr ⟨lw_p7, List.forall_mem_cons.mpr ⟨lw_p8, List.forall_mem_cons.mpr ⟨lw_p9, List.forall_mem_cons.mpr ⟨lw_p10, List.forall_mem_cons.mpr ⟨lw_p11, List.forall_mem_cons.mpr ⟨lw_p12, List.forall_mem_cons.mpr ⟨lw_p13, List.forall_mem_cons.mpr ⟨lw_p14, List.forall_mem_cons.mpr ⟨lw_p15, fun _ h => absurd h List.not_mem_nil⟩⟩⟩⟩⟩⟩⟩⟩⟩⟩⟩⟩⟩⟩⟩⟩
theorem lw_p16 : lw_okq (⟨"CloneVolumes$Reader", "readProduct", "()V"⟩, 12) := ⟨⟨by decide +kernel, by decide +kernel⟩, List.mem_of_getElem? (i := 50) (by decide +kernel), List.mem_of_getElem? (i := 662) (by decide +kernel), List.mem_of_getElem? (i := 663) (by decide +kernel)⟩
theorem lw_p17 : lw_okq (⟨"CloneVolumes$Reader", "readPart", "()V"⟩, 12) := ⟨⟨by decide +kernel, by decide +kernel⟩, List.mem_of_getElem? (i := 50) (by decide +kernel), List.mem_of_getElem? (i := 666) (by decide +kernel), List.mem_of_getElem? (i := 667) (by decide +kernel)⟩
theorem lw_p18 : lw_okq (⟨"CloneVolumes$Reader", "isSign", "(I)Z"⟩, 12) := ⟨⟨by decide +kernel, by decide +kernel⟩, List.mem_of_getElem? (i := 50) (by decide +kernel), List.mem_of_getElem? (i := 675) (by decide +kernel), List.mem_of_getElem? (i := 676) (by decide +kernel)⟩
theorem lw_p19 : lw_okq (⟨"CloneVolumes$Reader", "opens", "()Z"⟩, 12) := ⟨⟨by decide +kernel, by decide +kernel⟩, List.mem_of_getElem? (i := 50) (by decide +kernel), List.mem_of_getElem? (i := 679) (by decide +kernel), List.mem_of_getElem? (i := 680) (by decide +kernel)⟩
theorem lw_p20 : lw_okq (⟨"CloneVolumes$Reader", "expectSign", "(I)V"⟩, 12) := ⟨⟨by decide +kernel, by decide +kernel⟩, List.mem_of_getElem? (i := 50) (by decide +kernel), List.mem_of_getElem? (i := 683) (by decide +kernel), List.mem_of_getElem? (i := 684) (by decide +kernel)⟩
theorem lw_p21 : lw_okq (⟨"CloneVolumes$Reader", "readChoice", "(I)V"⟩, 12) := ⟨⟨by decide +kernel, by decide +kernel⟩, List.mem_of_getElem? (i := 50) (by decide +kernel), List.mem_of_getElem? (i := 687) (by decide +kernel), List.mem_of_getElem? (i := 688) (by decide +kernel)⟩
theorem lw_p22 : lw_okq (⟨"CloneVolumes$Reader", "readOther", "(I)V"⟩, 12) := ⟨⟨by decide +kernel, by decide +kernel⟩, List.mem_of_getElem? (i := 50) (by decide +kernel), List.mem_of_getElem? (i := 691) (by decide +kernel), List.mem_of_getElem? (i := 692) (by decide +kernel)⟩
theorem lw_p23 : lw_okq (⟨"CloneVolumes$Reader", "isFact", "()Z"⟩, 12) := ⟨⟨by decide +kernel, by decide +kernel⟩, List.mem_of_getElem? (i := 50) (by decide +kernel), List.mem_of_getElem? (i := 695) (by decide +kernel), List.mem_of_getElem? (i := 696) (by decide +kernel)⟩
theorem lw_p24 : lw_okq (⟨"CloneVolumes$Reader", "readTest", "()V"⟩, 12) := ⟨⟨by decide +kernel, by decide +kernel⟩, List.mem_of_getElem? (i := 50) (by decide +kernel), List.mem_of_getElem? (i := 699) (by decide +kernel), List.mem_of_getElem? (i := 700) (by decide +kernel)⟩
theorem lw_p25 : lw_okq (⟨"CloneVolumes$Reader", "readBoth", "()V"⟩, 12) := ⟨⟨by decide +kernel, by decide +kernel⟩, List.mem_of_getElem? (i := 50) (by decide +kernel), List.mem_of_getElem? (i := 703) (by decide +kernel), List.mem_of_getElem? (i := 704) (by decide +kernel)⟩
theorem lw_p26 : lw_okq (⟨"CloneVolumes$Reader", "readFact", "()V"⟩, 12) := ⟨⟨by decide +kernel, by decide +kernel⟩, List.mem_of_getElem? (i := 50) (by decide +kernel), List.mem_of_getElem? (i := 707) (by decide +kernel), List.mem_of_getElem? (i := 708) (by decide +kernel)⟩
theorem lw_p27 : lw_okq (⟨"CloneVolumes$Reader", "comparison", "()I"⟩, 12) := ⟨⟨by decide +kernel, by decide +kernel⟩, List.mem_of_getElem? (i := 50) (by decide +kernel), List.mem_of_getElem? (i := 711) (by decide +kernel), List.mem_of_getElem? (i := 712) (by decide +kernel)⟩
theorem lw_p28 : lw_okq (⟨"CloneVolumes$Forest", "plant", "(III)Z"⟩, 9) := ⟨⟨by decide +kernel, by decide +kernel⟩, List.mem_of_getElem? (i := 341) (by decide +kernel), List.mem_of_getElem? (i := 735) (by decide +kernel), List.mem_of_getElem? (i := 736) (by decide +kernel)⟩
theorem lw_p29 : lw_okq (⟨"CloneVolumes$Forest", "take", "(II)I"⟩, 9) := ⟨⟨by decide +kernel, by decide +kernel⟩, List.mem_of_getElem? (i := 341) (by decide +kernel), List.mem_of_getElem? (i := 739) (by decide +kernel), List.mem_of_getElem? (i := 740) (by decide +kernel)⟩
theorem lw_p30 : lw_okq (⟨"CloneVolumes$Machine", "push", "(I)V"⟩, 10) := ⟨⟨by decide +kernel, by decide +kernel⟩, List.mem_of_getElem? (i := 428) (by decide +kernel), List.mem_of_getElem? (i := 755) (by decide +kernel), List.mem_of_getElem? (i := 756) (by decide +kernel)⟩
theorem lw_p31 : lw_okq (⟨"CloneVolumes$Machine", "fact", "(I)I"⟩, 10) := ⟨⟨by decide +kernel, by decide +kernel⟩, List.mem_of_getElem? (i := 428) (by decide +kernel), List.mem_of_getElem? (i := 759) (by decide +kernel), List.mem_of_getElem? (i := 760) (by decide +kernel)⟩
def lw_privs_2 : List (MethodName × Nat) := [(⟨"CloneVolumes$Reader", "readProduct", "()V"⟩, 12), (⟨"CloneVolumes$Reader", "readPart", "()V"⟩, 12), (⟨"CloneVolumes$Reader", "isSign", "(I)Z"⟩, 12), (⟨"CloneVolumes$Reader", "opens", "()Z"⟩, 12), (⟨"CloneVolumes$Reader", "expectSign", "(I)V"⟩, 12), (⟨"CloneVolumes$Reader", "readChoice", "(I)V"⟩, 12), (⟨"CloneVolumes$Reader", "readOther", "(I)V"⟩, 12), (⟨"CloneVolumes$Reader", "isFact", "()Z"⟩, 12), (⟨"CloneVolumes$Reader", "readTest", "()V"⟩, 12), (⟨"CloneVolumes$Reader", "readBoth", "()V"⟩, 12), (⟨"CloneVolumes$Reader", "readFact", "()V"⟩, 12), (⟨"CloneVolumes$Reader", "comparison", "()I"⟩, 12), (⟨"CloneVolumes$Forest", "plant", "(III)Z"⟩, 9), (⟨"CloneVolumes$Forest", "take", "(II)I"⟩, 9), (⟨"CloneVolumes$Machine", "push", "(I)V"⟩, 10), (⟨"CloneVolumes$Machine", "fact", "(I)I"⟩, 10)]
theorem lw_r2 : ∀ q ∈ lw_privs_2, lw_okq q := List.forall_mem_cons.mpr ⟨lw_p16, List.forall_mem_cons.mpr ⟨lw_p17, List.forall_mem_cons.mpr ⟨lw_p18, List.forall_mem_cons.mpr ⟨lw_p19, List.forall_mem_cons.mpr ⟨lw_p20, List.forall_mem_cons.mpr ⟨lw_p21, List.forall_mem_cons.mpr ⟨lw_p22, List.forall_mem_cons.mpr ⟨lw_p23, List.forall_mem_cons.mpr ⟨lw_p24, List.forall_mem_cons.mpr ⟨lw_p25, List.forall_mem_cons.mpr ⟨lw_p26, List.forall_mem_cons.mpr ⟨lw_p27, List.forall_mem_cons.mpr ⟨lw_p28, List.forall_mem_cons.mpr ⟨lw_p29, List.forall_mem_cons.mpr ⟨lw_p30, List.forall_mem_cons.mpr ⟨lw_p31, fun _ h => absurd h List.not_mem_nil⟩⟩⟩⟩⟩⟩⟩⟩⟩⟩⟩⟩⟩⟩⟩⟩
theorem lw_p32 : lw_okq (⟨"CloneVolumes$Machine", "pop", "()I"⟩, 10) := ⟨⟨by decide +kernel, by decide +kernel⟩, List.mem_of_getElem? (i := 428) (by decide +kernel), List.mem_of_getElem? (i := 763) (by decide +kernel), List.mem_of_getElem? (i := 764) (by decide +kernel)⟩
theorem lw_p33 : lw_okq (⟨"CloneVolumes$Machine", "changed", "(II)I"⟩, 10) := ⟨⟨by decide +kernel, by decide +kernel⟩, List.mem_of_getElem? (i := 428) (by decide +kernel), List.mem_of_getElem? (i := 767) (by decide +kernel), List.mem_of_getElem? (i := 768) (by decide +kernel)⟩
theorem lw_p34 : lw_okq (⟨"CloneVolumes$Forest", "owned", "(I)I"⟩, 9) := ⟨⟨by decide +kernel, by decide +kernel⟩, List.mem_of_getElem? (i := 341) (by decide +kernel), List.mem_of_getElem? (i := 782) (by decide +kernel), List.mem_of_getElem? (i := 783) (by decide +kernel)⟩
theorem lw_p35 : lw_okq (⟨"CloneVolumes$Forest", "layEntries", "(III)V"⟩, 9) := ⟨⟨by decide +kernel, by decide +kernel⟩, List.mem_of_getElem? (i := 341) (by decide +kernel), List.mem_of_getElem? (i := 790) (by decide +kernel), List.mem_of_getElem? (i := 791) (by decide +kernel)⟩
theorem lw_p36 : lw_okq (⟨"CloneVolumes$Forest", "release", "(I[I)I"⟩, 9) := ⟨⟨by decide +kernel, by decide +kernel⟩, List.mem_of_getElem? (i := 341) (by decide +kernel), List.mem_of_getElem? (i := 799) (by decide +kernel), List.mem_of_getElem? (i := 800) (by decide +kernel)⟩
theorem lw_p37 : lw_okq (⟨"CloneVolumes$Forest", "splits", "(I)Z"⟩, 9) := ⟨⟨by decide +kernel, by decide +kernel⟩, List.mem_of_getElem? (i := 341) (by decide +kernel), List.mem_of_getElem? (i := 803) (by decide +kernel), List.mem_of_getElem? (i := 804) (by decide +kernel)⟩
theorem lw_p38 : lw_okq (⟨"CloneVolumes$Forest", "raiseRoot", "(I)I"⟩, 9) := ⟨⟨by decide +kernel, by decide +kernel⟩, List.mem_of_getElem? (i := 341) (by decide +kernel), List.mem_of_getElem? (i := 807) (by decide +kernel), List.mem_of_getElem? (i := 808) (by decide +kernel)⟩
theorem lw_p39 : lw_okq (⟨"CloneVolumes$Forest", "split", "(IIII)I"⟩, 9) := ⟨⟨by decide +kernel, by decide +kernel⟩, List.mem_of_getElem? (i := 341) (by decide +kernel), List.mem_of_getElem? (i := 817) (by decide +kernel), List.mem_of_getElem? (i := 818) (by decide +kernel)⟩
theorem lw_p40 : lw_okq (⟨"CloneVolumes$Forest", "plantLow", "(III)V"⟩, 9) := ⟨⟨by decide +kernel, by decide +kernel⟩, List.mem_of_getElem? (i := 341) (by decide +kernel), List.mem_of_getElem? (i := 829) (by decide +kernel), List.mem_of_getElem? (i := 830) (by decide +kernel)⟩
theorem lw_p41 : lw_okq (⟨"CloneVolumes$Forest", "uproot", "(II)Z"⟩, 9) := ⟨⟨by decide +kernel, by decide +kernel⟩, List.mem_of_getElem? (i := 341) (by decide +kernel), List.mem_of_getElem? (i := 851) (by decide +kernel), List.mem_of_getElem? (i := 852) (by decide +kernel)⟩
theorem lw_p42 : lw_okq (⟨"CloneVolumes$Forest", "prune", "(III)V"⟩, 9) := ⟨⟨by decide +kernel, by decide +kernel⟩, List.mem_of_getElem? (i := 341) (by decide +kernel), List.mem_of_getElem? (i := 855) (by decide +kernel), List.mem_of_getElem? (i := 856) (by decide +kernel)⟩
theorem lw_p43 : lw_okq (⟨"CloneVolumes$Forest", "lowerRoot", "(I)V"⟩, 9) := ⟨⟨by decide +kernel, by decide +kernel⟩, List.mem_of_getElem? (i := 341) (by decide +kernel), List.mem_of_getElem? (i := 863) (by decide +kernel), List.mem_of_getElem? (i := 864) (by decide +kernel)⟩
theorem lw_p44 : lw_okq (⟨"CloneVolumes", "unlike", "(III)I"⟩, 13) := ⟨⟨by decide +kernel, by decide +kernel⟩, List.mem_of_getElem? (i := 22) (by decide +kernel), List.mem_of_getElem? (i := 1001) (by decide +kernel), List.mem_of_getElem? (i := 1002) (by decide +kernel)⟩
theorem lw_p45 : lw_okq (⟨"CloneVolumes$Forest", "rehearse", "(II)Z"⟩, 9) := ⟨⟨by decide +kernel, by decide +kernel⟩, List.mem_of_getElem? (i := 341) (by decide +kernel), List.mem_of_getElem? (i := 1014) (by decide +kernel), List.mem_of_getElem? (i := 1015) (by decide +kernel)⟩
theorem lw_p46 : lw_okq (⟨"CloneVolumes$Forest", "wrote", "()I"⟩, 9) := ⟨⟨by decide +kernel, by decide +kernel⟩, List.mem_of_getElem? (i := 341) (by decide +kernel), List.mem_of_getElem? (i := 1022) (by decide +kernel), List.mem_of_getElem? (i := 1023) (by decide +kernel)⟩
theorem lw_p47 : lw_okq (⟨"CloneVolumes$Forest", "isWritten", "(I)Z"⟩, 9) := ⟨⟨by decide +kernel, by decide +kernel⟩, List.mem_of_getElem? (i := 341) (by decide +kernel), List.mem_of_getElem? (i := 1026) (by decide +kernel), List.mem_of_getElem? (i := 1027) (by decide +kernel)⟩
def lw_privs_3 : List (MethodName × Nat) := [(⟨"CloneVolumes$Machine", "pop", "()I"⟩, 10), (⟨"CloneVolumes$Machine", "changed", "(II)I"⟩, 10), (⟨"CloneVolumes$Forest", "owned", "(I)I"⟩, 9), (⟨"CloneVolumes$Forest", "layEntries", "(III)V"⟩, 9), (⟨"CloneVolumes$Forest", "release", "(I[I)I"⟩, 9), (⟨"CloneVolumes$Forest", "splits", "(I)Z"⟩, 9), (⟨"CloneVolumes$Forest", "raiseRoot", "(I)I"⟩, 9), (⟨"CloneVolumes$Forest", "split", "(IIII)I"⟩, 9), (⟨"CloneVolumes$Forest", "plantLow", "(III)V"⟩, 9), (⟨"CloneVolumes$Forest", "uproot", "(II)Z"⟩, 9), (⟨"CloneVolumes$Forest", "prune", "(III)V"⟩, 9), (⟨"CloneVolumes$Forest", "lowerRoot", "(I)V"⟩, 9), (⟨"CloneVolumes", "unlike", "(III)I"⟩, 13), (⟨"CloneVolumes$Forest", "rehearse", "(II)Z"⟩, 9), (⟨"CloneVolumes$Forest", "wrote", "()I"⟩, 9), (⟨"CloneVolumes$Forest", "isWritten", "(I)Z"⟩, 9)]
theorem lw_r3 : ∀ q ∈ lw_privs_3, lw_okq q := List.forall_mem_cons.mpr ⟨lw_p32, List.forall_mem_cons.mpr ⟨lw_p33, List.forall_mem_cons.mpr ⟨lw_p34, List.forall_mem_cons.mpr ⟨lw_p35, List.forall_mem_cons.mpr ⟨lw_p36, List.forall_mem_cons.mpr ⟨lw_p37, List.forall_mem_cons.mpr ⟨lw_p38, List.forall_mem_cons.mpr ⟨lw_p39, List.forall_mem_cons.mpr ⟨lw_p40, List.forall_mem_cons.mpr ⟨lw_p41, List.forall_mem_cons.mpr ⟨lw_p42, List.forall_mem_cons.mpr ⟨lw_p43, List.forall_mem_cons.mpr ⟨lw_p44, List.forall_mem_cons.mpr ⟨lw_p45, List.forall_mem_cons.mpr ⟨lw_p46, List.forall_mem_cons.mpr ⟨lw_p47, fun _ h => absurd h List.not_mem_nil⟩⟩⟩⟩⟩⟩⟩⟩⟩⟩⟩⟩⟩⟩⟩⟩
theorem lw_p48 : lw_okq (⟨"CloneVolumes$Forest", "price", "()I"⟩, 9) := ⟨⟨by decide +kernel, by decide +kernel⟩, List.mem_of_getElem? (i := 341) (by decide +kernel), List.mem_of_getElem? (i := 1035) (by decide +kernel), List.mem_of_getElem? (i := 1036) (by decide +kernel)⟩
theorem lw_p49 : lw_okq (⟨"CloneVolumes$Forest", "costOf", "(I)I"⟩, 9) := ⟨⟨by decide +kernel, by decide +kernel⟩, List.mem_of_getElem? (i := 341) (by decide +kernel), List.mem_of_getElem? (i := 1039) (by decide +kernel), List.mem_of_getElem? (i := 1040) (by decide +kernel)⟩
theorem lw_p50 : lw_okq (⟨"CloneVolumes", "growTrees", "()V"⟩, 13) := ⟨⟨by decide +kernel, by decide +kernel⟩, List.mem_of_getElem? (i := 22) (by decide +kernel), List.mem_of_getElem? (i := 1055) (by decide +kernel), List.mem_of_getElem? (i := 1056) (by decide +kernel)⟩
theorem lw_p51 : lw_okq (⟨"CloneVolumes", "lostWith", "(I)I"⟩, 13) := ⟨⟨by decide +kernel, by decide +kernel⟩, List.mem_of_getElem? (i := 22) (by decide +kernel), List.mem_of_getElem? (i := 1059) (by decide +kernel), List.mem_of_getElem? (i := 1060) (by decide +kernel)⟩
theorem lw_p52 : lw_okq (⟨"CloneVolumes$Sight", "agrees", "(LCloneVolumes$State;I)Z"⟩, 6) := ⟨⟨by decide +kernel, by decide +kernel⟩, List.mem_of_getElem? (i := 171) (by decide +kernel), List.mem_of_getElem? (i := 1108) (by decide +kernel), List.mem_of_getElem? (i := 1109) (by decide +kernel)⟩
theorem lw_p53 : lw_okq (⟨"CloneVolumes", "finish", "(II)I"⟩, 13) := ⟨⟨by decide +kernel, by decide +kernel⟩, List.mem_of_getElem? (i := 22) (by decide +kernel), List.mem_of_getElem? (i := 1131) (by decide +kernel), List.mem_of_getElem? (i := 1132) (by decide +kernel)⟩
theorem lw_p54 : lw_okq (⟨"CloneVolumes$Forest", "draw", "(I)I"⟩, 9) := ⟨⟨by decide +kernel, by decide +kernel⟩, List.mem_of_getElem? (i := 341) (by decide +kernel), List.mem_of_getElem? (i := 1198) (by decide +kernel), List.mem_of_getElem? (i := 1199) (by decide +kernel)⟩
theorem lw_p55 : lw_okq (⟨"CloneVolumes$Forest", "volumeAt", "(I)I"⟩, 9) := ⟨⟨by decide +kernel, by decide +kernel⟩, List.mem_of_getElem? (i := 341) (by decide +kernel), List.mem_of_getElem? (i := 1206) (by decide +kernel), List.mem_of_getElem? (i := 1207) (by decide +kernel)⟩
theorem lw_p56 : lw_okq (⟨"CloneVolumes", "answerTest", "(I)J"⟩, 13) := ⟨⟨by decide +kernel, by decide +kernel⟩, List.mem_of_getElem? (i := 22) (by decide +kernel), List.mem_of_getElem? (i := 1233) (by decide +kernel), List.mem_of_getElem? (i := 1234) (by decide +kernel)⟩
theorem lw_p57 : lw_okq (⟨"CloneVolumes", "answerSum", "(I)J"⟩, 13) := ⟨⟨by decide +kernel, by decide +kernel⟩, List.mem_of_getElem? (i := 22) (by decide +kernel), List.mem_of_getElem? (i := 1243) (by decide +kernel), List.mem_of_getElem? (i := 1244) (by decide +kernel)⟩
theorem lw_p58 : lw_okq (⟨"CloneVolumes$Picture", "add", "(I)V"⟩, 6) := ⟨⟨by decide +kernel, by decide +kernel⟩, List.mem_of_getElem? (i := 198) (by decide +kernel), List.mem_of_getElem? (i := 1258) (by decide +kernel), List.mem_of_getElem? (i := 1259) (by decide +kernel)⟩
theorem lw_p59 : lw_okq (⟨"CloneVolumes$Picture", "addPair", "(I)V"⟩, 6) := ⟨⟨by decide +kernel, by decide +kernel⟩, List.mem_of_getElem? (i := 198) (by decide +kernel), List.mem_of_getElem? (i := 1263) (by decide +kernel), List.mem_of_getElem? (i := 1264) (by decide +kernel)⟩
theorem lw_p60 : lw_okq (⟨"CloneVolumes$Picture", "drawBlock", "(LCloneVolumes$State;I)V"⟩, 6) := ⟨⟨by decide +kernel, by decide +kernel⟩, List.mem_of_getElem? (i := 198) (by decide +kernel), List.mem_of_getElem? (i := 1271) (by decide +kernel), List.mem_of_getElem? (i := 1272) (by decide +kernel)⟩
theorem lw_p61 : lw_okq (⟨"CloneVolumes$Picture", "loadHead", "(LCloneVolumes$Tape;LCloneVolumes$State;)Z"⟩, 6) := ⟨⟨by decide +kernel, by decide +kernel⟩, List.mem_of_getElem? (i := 198) (by decide +kernel), List.mem_of_getElem? (i := 1293) (by decide +kernel), List.mem_of_getElem? (i := 1294) (by decide +kernel)⟩
theorem lw_p62 : lw_okq (⟨"CloneVolumes$Picture", "next", "(LCloneVolumes$Tape;)I"⟩, 6) := ⟨⟨by decide +kernel, by decide +kernel⟩, List.mem_of_getElem? (i := 198) (by decide +kernel), List.mem_of_getElem? (i := 1297) (by decide +kernel), List.mem_of_getElem? (i := 1298) (by decide +kernel)⟩
theorem lw_p63 : lw_okq (⟨"CloneVolumes$Picture", "nextPair", "(LCloneVolumes$Tape;)I"⟩, 6) := ⟨⟨by decide +kernel, by decide +kernel⟩, List.mem_of_getElem? (i := 198) (by decide +kernel), List.mem_of_getElem? (i := 1302) (by decide +kernel), List.mem_of_getElem? (i := 1303) (by decide +kernel)⟩
def lw_privs_4 : List (MethodName × Nat) := [(⟨"CloneVolumes$Forest", "price", "()I"⟩, 9), (⟨"CloneVolumes$Forest", "costOf", "(I)I"⟩, 9), (⟨"CloneVolumes", "growTrees", "()V"⟩, 13), (⟨"CloneVolumes", "lostWith", "(I)I"⟩, 13), (⟨"CloneVolumes$Sight", "agrees", "(LCloneVolumes$State;I)Z"⟩, 6), (⟨"CloneVolumes", "finish", "(II)I"⟩, 13), (⟨"CloneVolumes$Forest", "draw", "(I)I"⟩, 9), (⟨"CloneVolumes$Forest", "volumeAt", "(I)I"⟩, 9), (⟨"CloneVolumes", "answerTest", "(I)J"⟩, 13), (⟨"CloneVolumes", "answerSum", "(I)J"⟩, 13), (⟨"CloneVolumes$Picture", "add", "(I)V"⟩, 6), (⟨"CloneVolumes$Picture", "addPair", "(I)V"⟩, 6), (⟨"CloneVolumes$Picture", "drawBlock", "(LCloneVolumes$State;I)V"⟩, 6), (⟨"CloneVolumes$Picture", "loadHead", "(LCloneVolumes$Tape;LCloneVolumes$State;)Z"⟩, 6), (⟨"CloneVolumes$Picture", "next", "(LCloneVolumes$Tape;)I"⟩, 6), (⟨"CloneVolumes$Picture", "nextPair", "(LCloneVolumes$Tape;)I"⟩, 6)]
theorem lw_r4 : ∀ q ∈ lw_privs_4, lw_okq q := List.forall_mem_cons.mpr ⟨lw_p48, List.forall_mem_cons.mpr ⟨lw_p49, List.forall_mem_cons.mpr ⟨lw_p50, List.forall_mem_cons.mpr ⟨lw_p51, List.forall_mem_cons.mpr ⟨lw_p52, List.forall_mem_cons.mpr ⟨lw_p53, List.forall_mem_cons.mpr ⟨lw_p54, List.forall_mem_cons.mpr ⟨lw_p55, List.forall_mem_cons.mpr ⟨lw_p56, List.forall_mem_cons.mpr ⟨lw_p57, List.forall_mem_cons.mpr ⟨lw_p58, List.forall_mem_cons.mpr ⟨lw_p59, List.forall_mem_cons.mpr ⟨lw_p60, List.forall_mem_cons.mpr ⟨lw_p61, List.forall_mem_cons.mpr ⟨lw_p62, List.forall_mem_cons.mpr ⟨lw_p63, fun _ h => absurd h List.not_mem_nil⟩⟩⟩⟩⟩⟩⟩⟩⟩⟩⟩⟩⟩⟩⟩⟩
theorem lw_p64 : lw_okq (⟨"CloneVolumes$Picture", "loadBlock", "(LCloneVolumes$Tape;LCloneVolumes$State;II)Z"⟩, 6) := ⟨⟨by decide +kernel, by decide +kernel⟩, List.mem_of_getElem? (i := 198) (by decide +kernel), List.mem_of_getElem? (i := 1310) (by decide +kernel), List.mem_of_getElem? (i := 1311) (by decide +kernel)⟩
theorem lw_p65 : lw_okq (⟨"CloneVolumes$Picture", "isSound", "(LCloneVolumes$State;)Z"⟩, 6) := ⟨⟨by decide +kernel, by decide +kernel⟩, List.mem_of_getElem? (i := 198) (by decide +kernel), List.mem_of_getElem? (i := 1315) (by decide +kernel), List.mem_of_getElem? (i := 1316) (by decide +kernel)⟩
theorem lw_p66 : lw_okq (⟨"CloneVolumes$Picture", "isSoundBlock", "(LCloneVolumes$State;I)Z"⟩, 6) := ⟨⟨by decide +kernel, by decide +kernel⟩, List.mem_of_getElem? (i := 198) (by decide +kernel), List.mem_of_getElem? (i := 1319) (by decide +kernel), List.mem_of_getElem? (i := 1320) (by decide +kernel)⟩
theorem lw_p67 : lw_okq (⟨"CloneVolumes$Picture", "isSoundChild", "(LCloneVolumes$State;II)Z"⟩, 6) := ⟨⟨by decide +kernel, by decide +kernel⟩, List.mem_of_getElem? (i := 198) (by decide +kernel), List.mem_of_getElem? (i := 1323) (by decide +kernel), List.mem_of_getElem? (i := 1324) (by decide +kernel)⟩
theorem lw_p68 : lw_okq (⟨"CloneVolumes$Picture", "refsAre", "(LCloneVolumes$State;[I[I)Z"⟩, 6) := ⟨⟨by decide +kernel, by decide +kernel⟩, List.mem_of_getElem? (i := 198) (by decide +kernel), List.mem_of_getElem? (i := 1328) (by decide +kernel), List.mem_of_getElem? (i := 1329) (by decide +kernel)⟩
theorem lw_p69 : lw_okq (⟨"CloneVolumesModel", "storeTold", "()V"⟩, 116) := ⟨⟨by decide +kernel, by decide +kernel⟩, List.mem_of_getElem? (i := 1336) (by decide +kernel), List.mem_of_getElem? (i := 1704) (by decide +kernel), List.mem_of_getElem? (i := 1705) (by decide +kernel)⟩
theorem lw_p70 : lw_okq (⟨"CloneVolumesModel", "asks", "([C)V"⟩, 116) := ⟨⟨by decide +kernel, by decide +kernel⟩, List.mem_of_getElem? (i := 1336) (by decide +kernel), List.mem_of_getElem? (i := 1708) (by decide +kernel), List.mem_of_getElem? (i := 1709) (by decide +kernel)⟩
theorem lw_p71 : lw_okq (⟨"CloneVolumesModel", "takes", "([C)Z"⟩, 116) := ⟨⟨by decide +kernel, by decide +kernel⟩, List.mem_of_getElem? (i := 1336) (by decide +kernel), List.mem_of_getElem? (i := 1712) (by decide +kernel), List.mem_of_getElem? (i := 1713) (by decide +kernel)⟩
theorem lw_p72 : lw_okq (⟨"CloneVolumesModel", "isHere", "([C)Z"⟩, 116) := ⟨⟨by decide +kernel, by decide +kernel⟩, List.mem_of_getElem? (i := 1336) (by decide +kernel), List.mem_of_getElem? (i := 1716) (by decide +kernel), List.mem_of_getElem? (i := 1717) (by decide +kernel)⟩
theorem lw_p73 : lw_okq (⟨"CloneVolumesModel", "look", "()I"⟩, 116) := ⟨⟨by decide +kernel, by decide +kernel⟩, List.mem_of_getElem? (i := 1336) (by decide +kernel), List.mem_of_getElem? (i := 1720) (by decide +kernel), List.mem_of_getElem? (i := 1721) (by decide +kernel)⟩
theorem lw_p74 : lw_okq (⟨"CloneVolumesModel", "fail", "(II)V"⟩, 116) := ⟨⟨by decide +kernel, by decide +kernel⟩, List.mem_of_getElem? (i := 1336) (by decide +kernel), List.mem_of_getElem? (i := 1727) (by decide +kernel), List.mem_of_getElem? (i := 1728) (by decide +kernel)⟩
theorem lw_p75 : lw_okq (⟨"CloneVolumesModel", "number", "(II)I"⟩, 116) := ⟨⟨by decide +kernel, by decide +kernel⟩, List.mem_of_getElem? (i := 1336) (by decide +kernel), List.mem_of_getElem? (i := 1731) (by decide +kernel), List.mem_of_getElem? (i := 1732) (by decide +kernel)⟩
theorem lw_p76 : lw_okq (⟨"CloneVolumesModel", "asksSign", "(I)V"⟩, 116) := ⟨⟨by decide +kernel, by decide +kernel⟩, List.mem_of_getElem? (i := 1336) (by decide +kernel), List.mem_of_getElem? (i := 1741) (by decide +kernel), List.mem_of_getElem? (i := 1742) (by decide +kernel)⟩
theorem lw_p77 : lw_okq (⟨"CloneVolumesModel", "takesSign", "(I)Z"⟩, 116) := ⟨⟨by decide +kernel, by decide +kernel⟩, List.mem_of_getElem? (i := 1336) (by decide +kernel), List.mem_of_getElem? (i := 1745) (by decide +kernel), List.mem_of_getElem? (i := 1746) (by decide +kernel)⟩
theorem lw_p78 : lw_okq (⟨"CloneVolumesModel", "statementTold", "()V"⟩, 116) := ⟨⟨by decide +kernel, by decide +kernel⟩, List.mem_of_getElem? (i := 1336) (by decide +kernel), List.mem_of_getElem? (i := 1749) (by decide +kernel), List.mem_of_getElem? (i := 1750) (by decide +kernel)⟩
theorem lw_p79 : lw_okq (⟨"CloneVolumesModel", "volumeTold", "(ZI)V"⟩, 116) := ⟨⟨by decide +kernel, by decide +kernel⟩, List.mem_of_getElem? (i := 1336) (by decide +kernel), List.mem_of_getElem? (i := 1753) (by decide +kernel), List.mem_of_getElem? (i := 1754) (by decide +kernel)⟩
def lw_privs_5 : List (MethodName × Nat) := [(⟨"CloneVolumes$Picture", "loadBlock", "(LCloneVolumes$Tape;LCloneVolumes$State;II)Z"⟩, 6), (⟨"CloneVolumes$Picture", "isSound", "(LCloneVolumes$State;)Z"⟩, 6), (⟨"CloneVolumes$Picture", "isSoundBlock", "(LCloneVolumes$State;I)Z"⟩, 6), (⟨"CloneVolumes$Picture", "isSoundChild", "(LCloneVolumes$State;II)Z"⟩, 6), (⟨"CloneVolumes$Picture", "refsAre", "(LCloneVolumes$State;[I[I)Z"⟩, 6), (⟨"CloneVolumesModel", "storeTold", "()V"⟩, 116), (⟨"CloneVolumesModel", "asks", "([C)V"⟩, 116), (⟨"CloneVolumesModel", "takes", "([C)Z"⟩, 116), (⟨"CloneVolumesModel", "isHere", "([C)Z"⟩, 116), (⟨"CloneVolumesModel", "look", "()I"⟩, 116), (⟨"CloneVolumesModel", "fail", "(II)V"⟩, 116), (⟨"CloneVolumesModel", "number", "(II)I"⟩, 116), (⟨"CloneVolumesModel", "asksSign", "(I)V"⟩, 116), (⟨"CloneVolumesModel", "takesSign", "(I)Z"⟩, 116), (⟨"CloneVolumesModel", "statementTold", "()V"⟩, 116), (⟨"CloneVolumesModel", "volumeTold", "(ZI)V"⟩, 116)]
theorem lw_r5 : ∀ q ∈ lw_privs_5, lw_okq q := List.forall_mem_cons.mpr ⟨lw_p64, List.forall_mem_cons.mpr ⟨lw_p65, List.forall_mem_cons.mpr ⟨lw_p66, List.forall_mem_cons.mpr ⟨lw_p67, List.forall_mem_cons.mpr ⟨lw_p68, List.forall_mem_cons.mpr ⟨lw_p69, List.forall_mem_cons.mpr ⟨lw_p70, List.forall_mem_cons.mpr ⟨lw_p71, List.forall_mem_cons.mpr ⟨lw_p72, List.forall_mem_cons.mpr ⟨lw_p73, List.forall_mem_cons.mpr ⟨lw_p74, List.forall_mem_cons.mpr ⟨lw_p75, List.forall_mem_cons.mpr ⟨lw_p76, List.forall_mem_cons.mpr ⟨lw_p77, List.forall_mem_cons.mpr ⟨lw_p78, List.forall_mem_cons.mpr ⟨lw_p79, fun _ h => absurd h List.not_mem_nil⟩⟩⟩⟩⟩⟩⟩⟩⟩⟩⟩⟩⟩⟩⟩⟩
theorem lw_p80 : lw_okq (⟨"CloneVolumesModel", "newName", "()J"⟩, 116) := ⟨⟨by decide +kernel, by decide +kernel⟩, List.mem_of_getElem? (i := 1336) (by decide +kernel), List.mem_of_getElem? (i := 1757) (by decide +kernel), List.mem_of_getElem? (i := 1758) (by decide +kernel)⟩
theorem lw_p81 : lw_okq (⟨"CloneVolumesModel", "name", "()J"⟩, 116) := ⟨⟨by decide +kernel, by decide +kernel⟩, List.mem_of_getElem? (i := 1336) (by decide +kernel), List.mem_of_getElem? (i := 1761) (by decide +kernel), List.mem_of_getElem? (i := 1762) (by decide +kernel)⟩
theorem lw_p82 : lw_okq (⟨"CloneVolumesModel", "isOwnHere", "()Z"⟩, 116) := ⟨⟨by decide +kernel, by decide +kernel⟩, List.mem_of_getElem? (i := 1336) (by decide +kernel), List.mem_of_getElem? (i := 1765) (by decide +kernel), List.mem_of_getElem? (i := 1766) (by decide +kernel)⟩
theorem lw_p83 : lw_okq (⟨"CloneVolumesModel", "volumeNamed", "()I"⟩, 116) := ⟨⟨by decide +kernel, by decide +kernel⟩, List.mem_of_getElem? (i := 1336) (by decide +kernel), List.mem_of_getElem? (i := 1771) (by decide +kernel), List.mem_of_getElem? (i := 1772) (by decide +kernel)⟩
theorem lw_p84 : lw_okq (⟨"CloneVolumesModel", "actTold", "(IIII)V"⟩, 116) := ⟨⟨by decide +kernel, by decide +kernel⟩, List.mem_of_getElem? (i := 1336) (by decide +kernel), List.mem_of_getElem? (i := 1775) (by decide +kernel), List.mem_of_getElem? (i := 1776) (by decide +kernel)⟩
theorem lw_p85 : lw_okq (⟨"CloneVolumesModel", "putTold", "()V"⟩, 116) := ⟨⟨by decide +kernel, by decide +kernel⟩, List.mem_of_getElem? (i := 1336) (by decide +kernel), List.mem_of_getElem? (i := 1779) (by decide +kernel), List.mem_of_getElem? (i := 1780) (by decide +kernel)⟩
theorem lw_p86 : lw_okq (⟨"CloneVolumesModel", "removeTold", "()V"⟩, 116) := ⟨⟨by decide +kernel, by decide +kernel⟩, List.mem_of_getElem? (i := 1336) (by decide +kernel), List.mem_of_getElem? (i := 1783) (by decide +kernel), List.mem_of_getElem? (i := 1784) (by decide +kernel)⟩
theorem lw_p87 : lw_okq (⟨"CloneVolumesModel", "codesTold", "(II)V"⟩, 116) := ⟨⟨by decide +kernel, by decide +kernel⟩, List.mem_of_getElem? (i := 1336) (by decide +kernel), List.mem_of_getElem? (i := 1787) (by decide +kernel), List.mem_of_getElem? (i := 1788) (by decide +kernel)⟩
theorem lw_p88 : lw_okq (⟨"CloneVolumesModel", "qTest", "()V"⟩, 116) := ⟨⟨by decide +kernel, by decide +kernel⟩, List.mem_of_getElem? (i := 1336) (by decide +kernel), List.mem_of_getElem? (i := 1791) (by decide +kernel), List.mem_of_getElem? (i := 1792) (by decide +kernel)⟩
theorem lw_p89 : lw_okq (⟨"CloneVolumesModel", "qOpens", "(II)V"⟩, 116) := ⟨⟨by decide +kernel, by decide +kernel⟩, List.mem_of_getElem? (i := 1336) (by decide +kernel), List.mem_of_getElem? (i := 1795) (by decide +kernel), List.mem_of_getElem? (i := 1796) (by decide +kernel)⟩
theorem lw_p90 : lw_okq (⟨"CloneVolumesModel", "qFact", "()V"⟩, 116) := ⟨⟨by decide +kernel, by decide +kernel⟩, List.mem_of_getElem? (i := 1336) (by decide +kernel), List.mem_of_getElem? (i := 1799) (by decide +kernel), List.mem_of_getElem? (i := 1800) (by decide +kernel)⟩
theorem lw_p91 : lw_okq (⟨"CloneVolumesModel", "qCode", "(I)V"⟩, 116) := ⟨⟨by decide +kernel, by decide +kernel⟩, List.mem_of_getElem? (i := 1336) (by decide +kernel), List.mem_of_getElem? (i := 1803) (by decide +kernel), List.mem_of_getElem? (i := 1804) (by decide +kernel)⟩
theorem lw_p92 : lw_okq (⟨"CloneVolumesModel", "qSums", "()V"⟩, 116) := ⟨⟨by decide +kernel, by decide +kernel⟩, List.mem_of_getElem? (i := 1336) (by decide +kernel), List.mem_of_getElem? (i := 1807) (by decide +kernel), List.mem_of_getElem? (i := 1808) (by decide +kernel)⟩
theorem lw_p93 : lw_okq (⟨"CloneVolumesModel", "qPartTold", "()V"⟩, 116) := ⟨⟨by decide +kernel, by decide +kernel⟩, List.mem_of_getElem? (i := 1336) (by decide +kernel), List.mem_of_getElem? (i := 1811) (by decide +kernel), List.mem_of_getElem? (i := 1812) (by decide +kernel)⟩
theorem lw_p94 : lw_okq (⟨"CloneVolumesModel", "qWordOf", "(II)I"⟩, 116) := ⟨⟨by decide +kernel, by decide +kernel⟩, List.mem_of_getElem? (i := 1336) (by decide +kernel), List.mem_of_getElem? (i := 1815) (by decide +kernel), List.mem_of_getElem? (i := 1816) (by decide +kernel)⟩
theorem lw_p95 : lw_okq (⟨"CloneVolumesModel", "qWordHere", "()I"⟩, 116) := ⟨⟨by decide +kernel, by decide +kernel⟩, List.mem_of_getElem? (i := 1336) (by decide +kernel), List.mem_of_getElem? (i := 1819) (by decide +kernel), List.mem_of_getElem? (i := 1820) (by decide +kernel)⟩
def lw_privs_6 : List (MethodName × Nat) := [(⟨"CloneVolumesModel", "newName", "()J"⟩, 116), (⟨"CloneVolumesModel", "name", "()J"⟩, 116), (⟨"CloneVolumesModel", "isOwnHere", "()Z"⟩, 116), (⟨"CloneVolumesModel", "volumeNamed", "()I"⟩, 116), (⟨"CloneVolumesModel", "actTold", "(IIII)V"⟩, 116), (⟨"CloneVolumesModel", "putTold", "()V"⟩, 116), (⟨"CloneVolumesModel", "removeTold", "()V"⟩, 116), (⟨"CloneVolumesModel", "codesTold", "(II)V"⟩, 116), (⟨"CloneVolumesModel", "qTest", "()V"⟩, 116), (⟨"CloneVolumesModel", "qOpens", "(II)V"⟩, 116), (⟨"CloneVolumesModel", "qFact", "()V"⟩, 116), (⟨"CloneVolumesModel", "qCode", "(I)V"⟩, 116), (⟨"CloneVolumesModel", "qSums", "()V"⟩, 116), (⟨"CloneVolumesModel", "qPartTold", "()V"⟩, 116), (⟨"CloneVolumesModel", "qWordOf", "(II)I"⟩, 116), (⟨"CloneVolumesModel", "qWordHere", "()I"⟩, 116)]
theorem lw_r6 : ∀ q ∈ lw_privs_6, lw_okq q := List.forall_mem_cons.mpr ⟨lw_p80, List.forall_mem_cons.mpr ⟨lw_p81, List.forall_mem_cons.mpr ⟨lw_p82, List.forall_mem_cons.mpr ⟨lw_p83, List.forall_mem_cons.mpr ⟨lw_p84, List.forall_mem_cons.mpr ⟨lw_p85, List.forall_mem_cons.mpr ⟨lw_p86, List.forall_mem_cons.mpr ⟨lw_p87, List.forall_mem_cons.mpr ⟨lw_p88, List.forall_mem_cons.mpr ⟨lw_p89, List.forall_mem_cons.mpr ⟨lw_p90, List.forall_mem_cons.mpr ⟨lw_p91, List.forall_mem_cons.mpr ⟨lw_p92, List.forall_mem_cons.mpr ⟨lw_p93, List.forall_mem_cons.mpr ⟨lw_p94, List.forall_mem_cons.mpr ⟨lw_p95, fun _ h => absurd h List.not_mem_nil⟩⟩⟩⟩⟩⟩⟩⟩⟩⟩⟩⟩⟩⟩⟩⟩
theorem lw_p96 : lw_okq (⟨"CloneVolumesModel", "isAllowed", "(I)Z"⟩, 116) := ⟨⟨by decide +kernel, by decide +kernel⟩, List.mem_of_getElem? (i := 1336) (by decide +kernel), List.mem_of_getElem? (i := 1823) (by decide +kernel), List.mem_of_getElem? (i := 1824) (by decide +kernel)⟩
theorem lw_p97 : lw_okq (⟨"CloneVolumesModel", "qAsksWord", "(I)V"⟩, 116) := ⟨⟨by decide +kernel, by decide +kernel⟩, List.mem_of_getElem? (i := 1336) (by decide +kernel), List.mem_of_getElem? (i := 1827) (by decide +kernel), List.mem_of_getElem? (i := 1828) (by decide +kernel)⟩
theorem lw_p98 : lw_okq (⟨"CloneVolumesModel", "qEndsPart", "()V"⟩, 116) := ⟨⟨by decide +kernel, by decide +kernel⟩, List.mem_of_getElem? (i := 1336) (by decide +kernel), List.mem_of_getElem? (i := 1831) (by decide +kernel), List.mem_of_getElem? (i := 1832) (by decide +kernel)⟩
theorem lw_p99 : lw_okq (⟨"CloneVolumesModel", "qDrops", "()V"⟩, 116) := ⟨⟨by decide +kernel, by decide +kernel⟩, List.mem_of_getElem? (i := 1336) (by decide +kernel), List.mem_of_getElem? (i := 1835) (by decide +kernel), List.mem_of_getElem? (i := 1836) (by decide +kernel)⟩
theorem lw_p100 : lw_okq (⟨"CloneVolumesModel", "qGoesOn", "()Z"⟩, 116) := ⟨⟨by decide +kernel, by decide +kernel⟩, List.mem_of_getElem? (i := 1336) (by decide +kernel), List.mem_of_getElem? (i := 1839) (by decide +kernel), List.mem_of_getElem? (i := 1840) (by decide +kernel)⟩
theorem lw_p101 : lw_okq (⟨"CloneVolumesModel", "qBracket", "()I"⟩, 116) := ⟨⟨by decide +kernel, by decide +kernel⟩, List.mem_of_getElem? (i := 1336) (by decide +kernel), List.mem_of_getElem? (i := 1843) (by decide +kernel), List.mem_of_getElem? (i := 1844) (by decide +kernel)⟩
theorem lw_p102 : lw_okq (⟨"CloneVolumesModel", "qDropsToBracket", "()V"⟩, 116) := ⟨⟨by decide +kernel, by decide +kernel⟩, List.mem_of_getElem? (i := 1336) (by decide +kernel), List.mem_of_getElem? (i := 1850) (by decide +kernel), List.mem_of_getElem? (i := 1851) (by decide +kernel)⟩
theorem lw_p103 : lw_okq (⟨"CloneVolumesModel", "qIsOn", "(I)Z"⟩, 116) := ⟨⟨by decide +kernel, by decide +kernel⟩, List.mem_of_getElem? (i := 1336) (by decide +kernel), List.mem_of_getElem? (i := 1854) (by decide +kernel), List.mem_of_getElem? (i := 1855) (by decide +kernel)⟩
theorem lw_p104 : lw_okq (⟨"CloneVolumesModel", "qDropsNots", "()V"⟩, 116) := ⟨⟨by decide +kernel, by decide +kernel⟩, List.mem_of_getElem? (i := 1336) (by decide +kernel), List.mem_of_getElem? (i := 1858) (by decide +kernel), List.mem_of_getElem? (i := 1859) (by decide +kernel)⟩
theorem lw_p105 : lw_okq (⟨"CloneVolumesModel", "qGoesOnTest", "()Z"⟩, 116) := ⟨⟨by decide +kernel, by decide +kernel⟩, List.mem_of_getElem? (i := 1336) (by decide +kernel), List.mem_of_getElem? (i := 1862) (by decide +kernel), List.mem_of_getElem? (i := 1863) (by decide +kernel)⟩
theorem lw_p106 : lw_okq (⟨"CloneVolumesModel", "qHasSquare", "()Z"⟩, 116) := ⟨⟨by decide +kernel, by decide +kernel⟩, List.mem_of_getElem? (i := 1336) (by decide +kernel), List.mem_of_getElem? (i := 1866) (by decide +kernel), List.mem_of_getElem? (i := 1867) (by decide +kernel)⟩
theorem lw_p107 : lw_okq (⟨"CloneVolumesModel", "refuses", "(I)I"⟩, 116) := ⟨⟨by decide +kernel, by decide +kernel⟩, List.mem_of_getElem? (i := 1336) (by decide +kernel), List.mem_of_getElem? (i := 1870) (by decide +kernel), List.mem_of_getElem? (i := 1871) (by decide +kernel)⟩
theorem lw_p108 : lw_okq (⟨"CloneVolumesModel", "stands", "()V"⟩, 116) := ⟨⟨by decide +kernel, by decide +kernel⟩, List.mem_of_getElem? (i := 1336) (by decide +kernel), List.mem_of_getElem? (i := 1874) (by decide +kernel), List.mem_of_getElem? (i := 1875) (by decide +kernel)⟩
theorem lw_p109 : lw_okq (⟨"CloneVolumesModel", "actGoes", "(IIII)V"⟩, 116) := ⟨⟨by decide +kernel, by decide +kernel⟩, List.mem_of_getElem? (i := 1336) (by decide +kernel), List.mem_of_getElem? (i := 1878) (by decide +kernel), List.mem_of_getElem? (i := 1879) (by decide +kernel)⟩
theorem lw_p110 : lw_okq (⟨"CloneVolumesModel", "copies", "(II)V"⟩, 116) := ⟨⟨by decide +kernel, by decide +kernel⟩, List.mem_of_getElem? (i := 1336) (by decide +kernel), List.mem_of_getElem? (i := 1882) (by decide +kernel), List.mem_of_getElem? (i := 1883) (by decide +kernel)⟩
theorem lw_p111 : lw_okq (⟨"CloneVolumesModel", "counts", "(II)V"⟩, 116) := ⟨⟨by decide +kernel, by decide +kernel⟩, List.mem_of_getElem? (i := 1336) (by decide +kernel), List.mem_of_getElem? (i := 1886) (by decide +kernel), List.mem_of_getElem? (i := 1887) (by decide +kernel)⟩
def lw_privs_7 : List (MethodName × Nat) := [(⟨"CloneVolumesModel", "isAllowed", "(I)Z"⟩, 116), (⟨"CloneVolumesModel", "qAsksWord", "(I)V"⟩, 116), (⟨"CloneVolumesModel", "qEndsPart", "()V"⟩, 116), (⟨"CloneVolumesModel", "qDrops", "()V"⟩, 116), (⟨"CloneVolumesModel", "qGoesOn", "()Z"⟩, 116), (⟨"CloneVolumesModel", "qBracket", "()I"⟩, 116), (⟨"CloneVolumesModel", "qDropsToBracket", "()V"⟩, 116), (⟨"CloneVolumesModel", "qIsOn", "(I)Z"⟩, 116), (⟨"CloneVolumesModel", "qDropsNots", "()V"⟩, 116), (⟨"CloneVolumesModel", "qGoesOnTest", "()Z"⟩, 116), (⟨"CloneVolumesModel", "qHasSquare", "()Z"⟩, 116), (⟨"CloneVolumesModel", "refuses", "(I)I"⟩, 116), (⟨"CloneVolumesModel", "stands", "()V"⟩, 116), (⟨"CloneVolumesModel", "actGoes", "(IIII)V"⟩, 116), (⟨"CloneVolumesModel", "copies", "(II)V"⟩, 116), (⟨"CloneVolumesModel", "counts", "(II)V"⟩, 116)]
theorem lw_r7 : ∀ q ∈ lw_privs_7, lw_okq q := List.forall_mem_cons.mpr ⟨lw_p96, List.forall_mem_cons.mpr ⟨lw_p97, List.forall_mem_cons.mpr ⟨lw_p98, List.forall_mem_cons.mpr ⟨lw_p99, List.forall_mem_cons.mpr ⟨lw_p100, List.forall_mem_cons.mpr ⟨lw_p101, List.forall_mem_cons.mpr ⟨lw_p102, List.forall_mem_cons.mpr ⟨lw_p103, List.forall_mem_cons.mpr ⟨lw_p104, List.forall_mem_cons.mpr ⟨lw_p105, List.forall_mem_cons.mpr ⟨lw_p106, List.forall_mem_cons.mpr ⟨lw_p107, List.forall_mem_cons.mpr ⟨lw_p108, List.forall_mem_cons.mpr ⟨lw_p109, List.forall_mem_cons.mpr ⟨lw_p110, List.forall_mem_cons.mpr ⟨lw_p111, fun _ h => absurd h List.not_mem_nil⟩⟩⟩⟩⟩⟩⟩⟩⟩⟩⟩⟩⟩⟩⟩⟩
theorem lw_p112 : lw_okq (⟨"CloneVolumesModel", "tries", "(IIII)Z"⟩, 116) := ⟨⟨by decide +kernel, by decide +kernel⟩, List.mem_of_getElem? (i := 1336) (by decide +kernel), List.mem_of_getElem? (i := 1890) (by decide +kernel), List.mem_of_getElem? (i := 1891) (by decide +kernel)⟩
theorem lw_p113 : lw_okq (⟨"CloneVolumesModel", "valueOf", "(II)I"⟩, 116) := ⟨⟨by decide +kernel, by decide +kernel⟩, List.mem_of_getElem? (i := 1336) (by decide +kernel), List.mem_of_getElem? (i := 1894) (by decide +kernel), List.mem_of_getElem? (i := 1895) (by decide +kernel)⟩
theorem lw_p114 : lw_okq (⟨"CloneVolumesModel", "valueFrom", "(II)I"⟩, 116) := ⟨⟨by decide +kernel, by decide +kernel⟩, List.mem_of_getElem? (i := 1336) (by decide +kernel), List.mem_of_getElem? (i := 1898) (by decide +kernel), List.mem_of_getElem? (i := 1899) (by decide +kernel)⟩
theorem lw_p115 : lw_okq (⟨"CloneVolumesModel", "levelOf", "(I)I"⟩, 116) := ⟨⟨by decide +kernel, by decide +kernel⟩, List.mem_of_getElem? (i := 1336) (by decide +kernel), List.mem_of_getElem? (i := 1902) (by decide +kernel), List.mem_of_getElem? (i := 1903) (by decide +kernel)⟩
theorem lw_p116 : lw_okq (⟨"CloneVolumesModel", "placeFor", "(II)I"⟩, 116) := ⟨⟨by decide +kernel, by decide +kernel⟩, List.mem_of_getElem? (i := 1336) (by decide +kernel), List.mem_of_getElem? (i := 1906) (by decide +kernel), List.mem_of_getElem? (i := 1907) (by decide +kernel)⟩
theorem lw_p117 : lw_okq (⟨"CloneVolumesModel", "entriesOf", "(I)I"⟩, 116) := ⟨⟨by decide +kernel, by decide +kernel⟩, List.mem_of_getElem? (i := 1336) (by decide +kernel), List.mem_of_getElem? (i := 1910) (by decide +kernel), List.mem_of_getElem? (i := 1911) (by decide +kernel)⟩
theorem lw_p118 : lw_okq (⟨"CloneVolumesModel", "keyAt", "(II)I"⟩, 116) := ⟨⟨by decide +kernel, by decide +kernel⟩, List.mem_of_getElem? (i := 1336) (by decide +kernel), List.mem_of_getElem? (i := 1914) (by decide +kernel), List.mem_of_getElem? (i := 1915) (by decide +kernel)⟩
theorem lw_p119 : lw_okq (⟨"CloneVolumesModel", "valueAt", "(II)I"⟩, 116) := ⟨⟨by decide +kernel, by decide +kernel⟩, List.mem_of_getElem? (i := 1336) (by decide +kernel), List.mem_of_getElem? (i := 1918) (by decide +kernel), List.mem_of_getElem? (i := 1919) (by decide +kernel)⟩
theorem lw_p120 : lw_okq (⟨"CloneVolumesModel", "placeIn", "(II)I"⟩, 116) := ⟨⟨by decide +kernel, by decide +kernel⟩, List.mem_of_getElem? (i := 1336) (by decide +kernel), List.mem_of_getElem? (i := 1922) (by decide +kernel), List.mem_of_getElem? (i := 1923) (by decide +kernel)⟩
theorem lw_p121 : lw_okq (⟨"CloneVolumesModel", "puts", "(III)V"⟩, 116) := ⟨⟨by decide +kernel, by decide +kernel⟩, List.mem_of_getElem? (i := 1336) (by decide +kernel), List.mem_of_getElem? (i := 1926) (by decide +kernel), List.mem_of_getElem? (i := 1927) (by decide +kernel)⟩
theorem lw_p122 : lw_okq (⟨"CloneVolumesModel", "taken", "(II)I"⟩, 116) := ⟨⟨by decide +kernel, by decide +kernel⟩, List.mem_of_getElem? (i := 1336) (by decide +kernel), List.mem_of_getElem? (i := 1930) (by decide +kernel), List.mem_of_getElem? (i := 1931) (by decide +kernel)⟩
theorem lw_p123 : lw_okq (⟨"CloneVolumesModel", "blockMany", "()I"⟩, 116) := ⟨⟨by decide +kernel, by decide +kernel⟩, List.mem_of_getElem? (i := 1336) (by decide +kernel), List.mem_of_getElem? (i := 1934) (by decide +kernel), List.mem_of_getElem? (i := 1935) (by decide +kernel)⟩
theorem lw_p124 : lw_okq (⟨"CloneVolumesModel", "isThere", "(I)Z"⟩, 116) := ⟨⟨by decide +kernel, by decide +kernel⟩, List.mem_of_getElem? (i := 1336) (by decide +kernel), List.mem_of_getElem? (i := 1938) (by decide +kernel), List.mem_of_getElem? (i := 1939) (by decide +kernel)⟩
theorem lw_p125 : lw_okq (⟨"CloneVolumesModel", "isUsed", "(I)Z"⟩, 116) := ⟨⟨by decide +kernel, by decide +kernel⟩, List.mem_of_getElem? (i := 1336) (by decide +kernel), List.mem_of_getElem? (i := 1942) (by decide +kernel), List.mem_of_getElem? (i := 1943) (by decide +kernel)⟩
theorem lw_p126 : lw_okq (⟨"CloneVolumesModel", "countOf", "(I)I"⟩, 116) := ⟨⟨by decide +kernel, by decide +kernel⟩, List.mem_of_getElem? (i := 1336) (by decide +kernel), List.mem_of_getElem? (i := 1946) (by decide +kernel), List.mem_of_getElem? (i := 1947) (by decide +kernel)⟩
theorem lw_p127 : lw_okq (⟨"CloneVolumesModel", "savedOf", "(I)I"⟩, 116) := ⟨⟨by decide +kernel, by decide +kernel⟩, List.mem_of_getElem? (i := 1336) (by decide +kernel), List.mem_of_getElem? (i := 1950) (by decide +kernel), List.mem_of_getElem? (i := 1951) (by decide +kernel)⟩
def lw_privs_8 : List (MethodName × Nat) := [(⟨"CloneVolumesModel", "tries", "(IIII)Z"⟩, 116), (⟨"CloneVolumesModel", "valueOf", "(II)I"⟩, 116), (⟨"CloneVolumesModel", "valueFrom", "(II)I"⟩, 116), (⟨"CloneVolumesModel", "levelOf", "(I)I"⟩, 116), (⟨"CloneVolumesModel", "placeFor", "(II)I"⟩, 116), (⟨"CloneVolumesModel", "entriesOf", "(I)I"⟩, 116), (⟨"CloneVolumesModel", "keyAt", "(II)I"⟩, 116), (⟨"CloneVolumesModel", "valueAt", "(II)I"⟩, 116), (⟨"CloneVolumesModel", "placeIn", "(II)I"⟩, 116), (⟨"CloneVolumesModel", "puts", "(III)V"⟩, 116), (⟨"CloneVolumesModel", "taken", "(II)I"⟩, 116), (⟨"CloneVolumesModel", "blockMany", "()I"⟩, 116), (⟨"CloneVolumesModel", "isThere", "(I)Z"⟩, 116), (⟨"CloneVolumesModel", "isUsed", "(I)Z"⟩, 116), (⟨"CloneVolumesModel", "countOf", "(I)I"⟩, 116), (⟨"CloneVolumesModel", "savedOf", "(I)I"⟩, 116)]
theorem lw_r8 : ∀ q ∈ lw_privs_8, lw_okq q := List.forall_mem_cons.mpr ⟨lw_p112, List.forall_mem_cons.mpr ⟨lw_p113, List.forall_mem_cons.mpr ⟨lw_p114, List.forall_mem_cons.mpr ⟨lw_p115, List.forall_mem_cons.mpr ⟨lw_p116, List.forall_mem_cons.mpr ⟨lw_p117, List.forall_mem_cons.mpr ⟨lw_p118, List.forall_mem_cons.mpr ⟨lw_p119, List.forall_mem_cons.mpr ⟨lw_p120, List.forall_mem_cons.mpr ⟨lw_p121, List.forall_mem_cons.mpr ⟨lw_p122, List.forall_mem_cons.mpr ⟨lw_p123, List.forall_mem_cons.mpr ⟨lw_p124, List.forall_mem_cons.mpr ⟨lw_p125, List.forall_mem_cons.mpr ⟨lw_p126, List.forall_mem_cons.mpr ⟨lw_p127, fun _ h => absurd h List.not_mem_nil⟩⟩⟩⟩⟩⟩⟩⟩⟩⟩⟩⟩⟩⟩⟩⟩
theorem lw_p128 : lw_okq (⟨"CloneVolumesModel", "isCoded", "(I)Z"⟩, 116) := ⟨⟨by decide +kernel, by decide +kernel⟩, List.mem_of_getElem? (i := 1336) (by decide +kernel), List.mem_of_getElem? (i := 1954) (by decide +kernel), List.mem_of_getElem? (i := 1955) (by decide +kernel)⟩
theorem lw_p129 : lw_okq (⟨"CloneVolumesModel", "codesTell", "(I)J"⟩, 116) := ⟨⟨by decide +kernel, by decide +kernel⟩, List.mem_of_getElem? (i := 1336) (by decide +kernel), List.mem_of_getElem? (i := 1958) (by decide +kernel), List.mem_of_getElem? (i := 1959) (by decide +kernel)⟩
theorem lw_p130 : lw_okq (⟨"CloneVolumesModel", "qPuts", "(J)V"⟩, 116) := ⟨⟨by decide +kernel, by decide +kernel⟩, List.mem_of_getElem? (i := 1336) (by decide +kernel), List.mem_of_getElem? (i := 1962) (by decide +kernel), List.mem_of_getElem? (i := 1963) (by decide +kernel)⟩
theorem lw_p131 : lw_okq (⟨"CloneVolumesModel", "qPartOf", "(II)J"⟩, 116) := ⟨⟨by decide +kernel, by decide +kernel⟩, List.mem_of_getElem? (i := 1336) (by decide +kernel), List.mem_of_getElem? (i := 1966) (by decide +kernel), List.mem_of_getElem? (i := 1967) (by decide +kernel)⟩
theorem lw_p132 : lw_okq (⟨"CloneVolumesModel", "isFresh", "(I)Z"⟩, 116) := ⟨⟨by decide +kernel, by decide +kernel⟩, List.mem_of_getElem? (i := 1336) (by decide +kernel), List.mem_of_getElem? (i := 1970) (by decide +kernel), List.mem_of_getElem? (i := 1971) (by decide +kernel)⟩
theorem lw_p133 : lw_okq (⟨"CloneVolumesModel", "qJoins", "(I)V"⟩, 116) := ⟨⟨by decide +kernel, by decide +kernel⟩, List.mem_of_getElem? (i := 1336) (by decide +kernel), List.mem_of_getElem? (i := 1974) (by decide +kernel), List.mem_of_getElem? (i := 1975) (by decide +kernel)⟩
theorem lw_p134 : lw_okq (⟨"CloneVolumesModel", "inserts", "(IIII)V"⟩, 116) := ⟨⟨by decide +kernel, by decide +kernel⟩, List.mem_of_getElem? (i := 1336) (by decide +kernel), List.mem_of_getElem? (i := 1986) (by decide +kernel), List.mem_of_getElem? (i := 1987) (by decide +kernel)⟩
theorem lw_p135 : lw_okq (⟨"CloneVolumesModel", "setsEntry", "(IIII)V"⟩, 116) := ⟨⟨by decide +kernel, by decide +kernel⟩, List.mem_of_getElem? (i := 1336) (by decide +kernel), List.mem_of_getElem? (i := 1990) (by decide +kernel), List.mem_of_getElem? (i := 1991) (by decide +kernel)⟩
theorem lw_p136 : lw_okq (⟨"CloneVolumesModel", "owned", "(I)I"⟩, 116) := ⟨⟨by decide +kernel, by decide +kernel⟩, List.mem_of_getElem? (i := 1336) (by decide +kernel), List.mem_of_getElem? (i := 1994) (by decide +kernel), List.mem_of_getElem? (i := 1995) (by decide +kernel)⟩
theorem lw_p137 : lw_okq (⟨"CloneVolumesModel", "falls", "(I)V"⟩, 116) := ⟨⟨by decide +kernel, by decide +kernel⟩, List.mem_of_getElem? (i := 1336) (by decide +kernel), List.mem_of_getElem? (i := 1998) (by decide +kernel), List.mem_of_getElem? (i := 1999) (by decide +kernel)⟩
theorem lw_p138 : lw_okq (⟨"CloneVolumesModel", "doesSplit", "(I)Z"⟩, 116) := ⟨⟨by decide +kernel, by decide +kernel⟩, List.mem_of_getElem? (i := 1336) (by decide +kernel), List.mem_of_getElem? (i := 2002) (by decide +kernel), List.mem_of_getElem? (i := 2003) (by decide +kernel)⟩
theorem lw_p139 : lw_okq (⟨"CloneVolumesModel", "roomOf", "()I"⟩, 116) := ⟨⟨by decide +kernel, by decide +kernel⟩, List.mem_of_getElem? (i := 1336) (by decide +kernel), List.mem_of_getElem? (i := 2006) (by decide +kernel), List.mem_of_getElem? (i := 2007) (by decide +kernel)⟩
theorem lw_p140 : lw_okq (⟨"CloneVolumesModel", "rootSplit", "(III)I"⟩, 116) := ⟨⟨by decide +kernel, by decide +kernel⟩, List.mem_of_getElem? (i := 1336) (by decide +kernel), List.mem_of_getElem? (i := 2010) (by decide +kernel), List.mem_of_getElem? (i := 2011) (by decide +kernel)⟩
theorem lw_p141 : lw_okq (⟨"CloneVolumesModel", "half", "(IIII)I"⟩, 116) := ⟨⟨by decide +kernel, by decide +kernel⟩, List.mem_of_getElem? (i := 1336) (by decide +kernel), List.mem_of_getElem? (i := 2014) (by decide +kernel), List.mem_of_getElem? (i := 2015) (by decide +kernel)⟩
theorem lw_p142 : lw_okq (⟨"CloneVolumesModel", "putsIn", "(III)V"⟩, 116) := ⟨⟨by decide +kernel, by decide +kernel⟩, List.mem_of_getElem? (i := 1336) (by decide +kernel), List.mem_of_getElem? (i := 2018) (by decide +kernel), List.mem_of_getElem? (i := 2019) (by decide +kernel)⟩
theorem lw_p143 : lw_okq (⟨"CloneVolumesModel", "removes", "(II)V"⟩, 116) := ⟨⟨by decide +kernel, by decide +kernel⟩, List.mem_of_getElem? (i := 1336) (by decide +kernel), List.mem_of_getElem? (i := 2022) (by decide +kernel), List.mem_of_getElem? (i := 2023) (by decide +kernel)⟩
def lw_privs_9 : List (MethodName × Nat) := [(⟨"CloneVolumesModel", "isCoded", "(I)Z"⟩, 116), (⟨"CloneVolumesModel", "codesTell", "(I)J"⟩, 116), (⟨"CloneVolumesModel", "qPuts", "(J)V"⟩, 116), (⟨"CloneVolumesModel", "qPartOf", "(II)J"⟩, 116), (⟨"CloneVolumesModel", "isFresh", "(I)Z"⟩, 116), (⟨"CloneVolumesModel", "qJoins", "(I)V"⟩, 116), (⟨"CloneVolumesModel", "inserts", "(IIII)V"⟩, 116), (⟨"CloneVolumesModel", "setsEntry", "(IIII)V"⟩, 116), (⟨"CloneVolumesModel", "owned", "(I)I"⟩, 116), (⟨"CloneVolumesModel", "falls", "(I)V"⟩, 116), (⟨"CloneVolumesModel", "doesSplit", "(I)Z"⟩, 116), (⟨"CloneVolumesModel", "roomOf", "()I"⟩, 116), (⟨"CloneVolumesModel", "rootSplit", "(III)I"⟩, 116), (⟨"CloneVolumesModel", "half", "(IIII)I"⟩, 116), (⟨"CloneVolumesModel", "putsIn", "(III)V"⟩, 116), (⟨"CloneVolumesModel", "removes", "(II)V"⟩, 116)]
theorem lw_r9 : ∀ q ∈ lw_privs_9, lw_okq q := List.forall_mem_cons.mpr ⟨lw_p128, List.forall_mem_cons.mpr ⟨lw_p129, List.forall_mem_cons.mpr ⟨lw_p130, List.forall_mem_cons.mpr ⟨lw_p131, List.forall_mem_cons.mpr ⟨lw_p132, List.forall_mem_cons.mpr ⟨lw_p133, List.forall_mem_cons.mpr ⟨lw_p134, List.forall_mem_cons.mpr ⟨lw_p135, List.forall_mem_cons.mpr ⟨lw_p136, List.forall_mem_cons.mpr ⟨lw_p137, List.forall_mem_cons.mpr ⟨lw_p138, List.forall_mem_cons.mpr ⟨lw_p139, List.forall_mem_cons.mpr ⟨lw_p140, List.forall_mem_cons.mpr ⟨lw_p141, List.forall_mem_cons.mpr ⟨lw_p142, List.forall_mem_cons.mpr ⟨lw_p143, fun _ h => absurd h List.not_mem_nil⟩⟩⟩⟩⟩⟩⟩⟩⟩⟩⟩⟩⟩⟩⟩⟩
theorem lw_p144 : lw_okq (⟨"CloneVolumesModel", "cutsEntry", "(II)V"⟩, 116) := ⟨⟨by decide +kernel, by decide +kernel⟩, List.mem_of_getElem? (i := 1336) (by decide +kernel), List.mem_of_getElem? (i := 2026) (by decide +kernel), List.mem_of_getElem? (i := 2027) (by decide +kernel)⟩
theorem lw_p145 : lw_okq (⟨"CloneVolumesModel", "lowers", "(I)V"⟩, 116) := ⟨⟨by decide +kernel, by decide +kernel⟩, List.mem_of_getElem? (i := 1336) (by decide +kernel), List.mem_of_getElem? (i := 2030) (by decide +kernel), List.mem_of_getElem? (i := 2031) (by decide +kernel)⟩
theorem lw_p146 : lw_okq (⟨"CloneVolumesModel", "checks", "()V"⟩, 116) := ⟨⟨by decide +kernel, by decide +kernel⟩, List.mem_of_getElem? (i := 1336) (by decide +kernel), List.mem_of_getElem? (i := 2034) (by decide +kernel), List.mem_of_getElem? (i := 2035) (by decide +kernel)⟩
theorem lw_p147 : lw_okq (⟨"CloneVolumesModel", "volumeMany", "()I"⟩, 116) := ⟨⟨by decide +kernel, by decide +kernel⟩, List.mem_of_getElem? (i := 1336) (by decide +kernel), List.mem_of_getElem? (i := 2046) (by decide +kernel), List.mem_of_getElem? (i := 2047) (by decide +kernel)⟩
theorem lw_p148 : lw_okq (⟨"CloneVolumesModel", "isVolume", "(J)Z"⟩, 116) := ⟨⟨by decide +kernel, by decide +kernel⟩, List.mem_of_getElem? (i := 1336) (by decide +kernel), List.mem_of_getElem? (i := 2050) (by decide +kernel), List.mem_of_getElem? (i := 2051) (by decide +kernel)⟩
theorem lw_p149 : lw_okq (⟨"CloneVolumesModel", "usedMany", "()I"⟩, 116) := ⟨⟨by decide +kernel, by decide +kernel⟩, List.mem_of_getElem? (i := 1336) (by decide +kernel), List.mem_of_getElem? (i := 2055) (by decide +kernel), List.mem_of_getElem? (i := 2056) (by decide +kernel)⟩
theorem lw_p150 : lw_okq (⟨"CloneVolumesModel", "heldMany", "()I"⟩, 116) := ⟨⟨by decide +kernel, by decide +kernel⟩, List.mem_of_getElem? (i := 1336) (by decide +kernel), List.mem_of_getElem? (i := 2059) (by decide +kernel), List.mem_of_getElem? (i := 2060) (by decide +kernel)⟩
theorem lw_p151 : lw_okq (⟨"CloneVolumesModel", "isHeld", "(I)Z"⟩, 116) := ⟨⟨by decide +kernel, by decide +kernel⟩, List.mem_of_getElem? (i := 1336) (by decide +kernel), List.mem_of_getElem? (i := 2063) (by decide +kernel), List.mem_of_getElem? (i := 2064) (by decide +kernel)⟩
theorem lw_p152 : lw_okq (⟨"CloneVolumesModel", "freeMany", "()I"⟩, 116) := ⟨⟨by decide +kernel, by decide +kernel⟩, List.mem_of_getElem? (i := 1336) (by decide +kernel), List.mem_of_getElem? (i := 2067) (by decide +kernel), List.mem_of_getElem? (i := 2068) (by decide +kernel)⟩
theorem lw_p153 : lw_okq (⟨"CloneVolumesModel", "laysTree", "(I)V"⟩, 116) := ⟨⟨by decide +kernel, by decide +kernel⟩, List.mem_of_getElem? (i := 1336) (by decide +kernel), List.mem_of_getElem? (i := 2080) (by decide +kernel), List.mem_of_getElem? (i := 2081) (by decide +kernel)⟩
theorem lw_p154 : lw_okq (⟨"CloneVolumesModel", "laysLeaf", "(I)V"⟩, 116) := ⟨⟨by decide +kernel, by decide +kernel⟩, List.mem_of_getElem? (i := 1336) (by decide +kernel), List.mem_of_getElem? (i := 2084) (by decide +kernel), List.mem_of_getElem? (i := 2085) (by decide +kernel)⟩
theorem lw_p155 : lw_okq (⟨"CloneVolumesModel", "dropsMany", "(I)I"⟩, 116) := ⟨⟨by decide +kernel, by decide +kernel⟩, List.mem_of_getElem? (i := 1336) (by decide +kernel), List.mem_of_getElem? (i := 2088) (by decide +kernel), List.mem_of_getElem? (i := 2089) (by decide +kernel)⟩
theorem lw_p156 : lw_okq (⟨"CloneVolumesModel", "putsAside", "()V"⟩, 116) := ⟨⟨by decide +kernel, by decide +kernel⟩, List.mem_of_getElem? (i := 1336) (by decide +kernel), List.mem_of_getElem? (i := 2092) (by decide +kernel), List.mem_of_getElem? (i := 2093) (by decide +kernel)⟩
theorem lw_p157 : lw_okq (⟨"CloneVolumesModel", "clearsTouched", "()V"⟩, 116) := ⟨⟨by decide +kernel, by decide +kernel⟩, List.mem_of_getElem? (i := 1336) (by decide +kernel), List.mem_of_getElem? (i := 2096) (by decide +kernel), List.mem_of_getElem? (i := 2097) (by decide +kernel)⟩
theorem lw_p158 : lw_okq (⟨"CloneVolumesModel", "drops", "(I)V"⟩, 116) := ⟨⟨by decide +kernel, by decide +kernel⟩, List.mem_of_getElem? (i := 1336) (by decide +kernel), List.mem_of_getElem? (i := 2100) (by decide +kernel), List.mem_of_getElem? (i := 2101) (by decide +kernel)⟩
theorem lw_p159 : lw_okq (⟨"CloneVolumesModel", "takesBack", "()V"⟩, 116) := ⟨⟨by decide +kernel, by decide +kernel⟩, List.mem_of_getElem? (i := 1336) (by decide +kernel), List.mem_of_getElem? (i := 2104) (by decide +kernel), List.mem_of_getElem? (i := 2105) (by decide +kernel)⟩
def lw_privs_10 : List (MethodName × Nat) := [(⟨"CloneVolumesModel", "cutsEntry", "(II)V"⟩, 116), (⟨"CloneVolumesModel", "lowers", "(I)V"⟩, 116), (⟨"CloneVolumesModel", "checks", "()V"⟩, 116), (⟨"CloneVolumesModel", "volumeMany", "()I"⟩, 116), (⟨"CloneVolumesModel", "isVolume", "(J)Z"⟩, 116), (⟨"CloneVolumesModel", "usedMany", "()I"⟩, 116), (⟨"CloneVolumesModel", "heldMany", "()I"⟩, 116), (⟨"CloneVolumesModel", "isHeld", "(I)Z"⟩, 116), (⟨"CloneVolumesModel", "freeMany", "()I"⟩, 116), (⟨"CloneVolumesModel", "laysTree", "(I)V"⟩, 116), (⟨"CloneVolumesModel", "laysLeaf", "(I)V"⟩, 116), (⟨"CloneVolumesModel", "dropsMany", "(I)I"⟩, 116), (⟨"CloneVolumesModel", "putsAside", "()V"⟩, 116), (⟨"CloneVolumesModel", "clearsTouched", "()V"⟩, 116), (⟨"CloneVolumesModel", "drops", "(I)V"⟩, 116), (⟨"CloneVolumesModel", "takesBack", "()V"⟩, 116)]
theorem lw_r10 : ∀ q ∈ lw_privs_10, lw_okq q := List.forall_mem_cons.mpr ⟨lw_p144, List.forall_mem_cons.mpr ⟨lw_p145, List.forall_mem_cons.mpr ⟨lw_p146, List.forall_mem_cons.mpr ⟨lw_p147, List.forall_mem_cons.mpr ⟨lw_p148, List.forall_mem_cons.mpr ⟨lw_p149, List.forall_mem_cons.mpr ⟨lw_p150, List.forall_mem_cons.mpr ⟨lw_p151, List.forall_mem_cons.mpr ⟨lw_p152, List.forall_mem_cons.mpr ⟨lw_p153, List.forall_mem_cons.mpr ⟨lw_p154, List.forall_mem_cons.mpr ⟨lw_p155, List.forall_mem_cons.mpr ⟨lw_p156, List.forall_mem_cons.mpr ⟨lw_p157, List.forall_mem_cons.mpr ⟨lw_p158, List.forall_mem_cons.mpr ⟨lw_p159, fun _ h => absurd h List.not_mem_nil⟩⟩⟩⟩⟩⟩⟩⟩⟩⟩⟩⟩⟩⟩⟩⟩
theorem lw_p160 : lw_okq (⟨"CloneVolumesModel", "isBlock", "(J)Z"⟩, 116) := ⟨⟨by decide +kernel, by decide +kernel⟩, List.mem_of_getElem? (i := 1336) (by decide +kernel), List.mem_of_getElem? (i := 2112) (by decide +kernel), List.mem_of_getElem? (i := 2113) (by decide +kernel)⟩
theorem lw_p161 : lw_okq (⟨"CloneVolumesModel", "unlike", "(III)I"⟩, 116) := ⟨⟨by decide +kernel, by decide +kernel⟩, List.mem_of_getElem? (i := 1336) (by decide +kernel), List.mem_of_getElem? (i := 2150) (by decide +kernel), List.mem_of_getElem? (i := 2151) (by decide +kernel)⟩
theorem lw_p162 : lw_okq (⟨"CloneVolumesModel", "laysWrites", "(II)V"⟩, 116) := ⟨⟨by decide +kernel, by decide +kernel⟩, List.mem_of_getElem? (i := 1336) (by decide +kernel), List.mem_of_getElem? (i := 2158) (by decide +kernel), List.mem_of_getElem? (i := 2159) (by decide +kernel)⟩
theorem lw_p163 : lw_okq (⟨"CloneVolumesModel", "writtenMany", "()I"⟩, 116) := ⟨⟨by decide +kernel, by decide +kernel⟩, List.mem_of_getElem? (i := 1336) (by decide +kernel), List.mem_of_getElem? (i := 2162) (by decide +kernel), List.mem_of_getElem? (i := 2163) (by decide +kernel)⟩
theorem lw_p164 : lw_okq (⟨"CloneVolumesModel", "writtenCost", "()I"⟩, 116) := ⟨⟨by decide +kernel, by decide +kernel⟩, List.mem_of_getElem? (i := 1336) (by decide +kernel), List.mem_of_getElem? (i := 2166) (by decide +kernel), List.mem_of_getElem? (i := 2167) (by decide +kernel)⟩
theorem lw_p165 : lw_okq (⟨"CloneVolumesModel", "costOf", "(I)I"⟩, 116) := ⟨⟨by decide +kernel, by decide +kernel⟩, List.mem_of_getElem? (i := 1336) (by decide +kernel), List.mem_of_getElem? (i := 2170) (by decide +kernel), List.mem_of_getElem? (i := 2171) (by decide +kernel)⟩
theorem lw_p166 : lw_okq (⟨"CloneVolumesModel", "laysLost", "()V"⟩, 116) := ⟨⟨by decide +kernel, by decide +kernel⟩, List.mem_of_getElem? (i := 1336) (by decide +kernel), List.mem_of_getElem? (i := 2186) (by decide +kernel), List.mem_of_getElem? (i := 2187) (by decide +kernel)⟩
theorem lw_p167 : lw_okq (⟨"CloneVolumesModel", "doesFit", "(I)Z"⟩, 116) := ⟨⟨by decide +kernel, by decide +kernel⟩, List.mem_of_getElem? (i := 1336) (by decide +kernel), List.mem_of_getElem? (i := 2214) (by decide +kernel), List.mem_of_getElem? (i := 2215) (by decide +kernel)⟩
theorem lw_p168 : lw_okq (⟨"CloneVolumesModel", "toldOf", "(II)I"⟩, 116) := ⟨⟨by decide +kernel, by decide +kernel⟩, List.mem_of_getElem? (i := 1336) (by decide +kernel), List.mem_of_getElem? (i := 2218) (by decide +kernel), List.mem_of_getElem? (i := 2219) (by decide +kernel)⟩
theorem lw_p169 : lw_okq (⟨"CloneVolumesModel", "mostAlike", "(I)I"⟩, 116) := ⟨⟨by decide +kernel, by decide +kernel⟩, List.mem_of_getElem? (i := 1336) (by decide +kernel), List.mem_of_getElem? (i := 2227) (by decide +kernel), List.mem_of_getElem? (i := 2228) (by decide +kernel)⟩
theorem lw_p170 : lw_okq (⟨"CloneVolumesModel", "canBe", "(IIII)Z"⟩, 116) := ⟨⟨by decide +kernel, by decide +kernel⟩, List.mem_of_getElem? (i := 1336) (by decide +kernel), List.mem_of_getElem? (i := 2239) (by decide +kernel), List.mem_of_getElem? (i := 2240) (by decide +kernel)⟩
theorem lw_p171 : lw_okq (⟨"CloneVolumesModel", "keeps", "()V"⟩, 116) := ⟨⟨by decide +kernel, by decide +kernel⟩, List.mem_of_getElem? (i := 1336) (by decide +kernel), List.mem_of_getElem? (i := 2243) (by decide +kernel), List.mem_of_getElem? (i := 2244) (by decide +kernel)⟩
theorem lw_p172 : lw_okq (⟨"CloneVolumesModel", "isKept", "(II)V"⟩, 116) := ⟨⟨by decide +kernel, by decide +kernel⟩, List.mem_of_getElem? (i := 1336) (by decide +kernel), List.mem_of_getElem? (i := 2247) (by decide +kernel), List.mem_of_getElem? (i := 2248) (by decide +kernel)⟩
theorem lw_p173 : lw_okq (⟨"CloneVolumesModel", "freeNumber", "()I"⟩, 116) := ⟨⟨by decide +kernel, by decide +kernel⟩, List.mem_of_getElem? (i := 1336) (by decide +kernel), List.mem_of_getElem? (i := 2260) (by decide +kernel), List.mem_of_getElem? (i := 2261) (by decide +kernel)⟩
theorem lw_p174 : lw_okq (⟨"CloneVolumesModel", "crashes", "()V"⟩, 116) := ⟨⟨by decide +kernel, by decide +kernel⟩, List.mem_of_getElem? (i := 1336) (by decide +kernel), List.mem_of_getElem? (i := 2276) (by decide +kernel), List.mem_of_getElem? (i := 2277) (by decide +kernel)⟩
theorem lw_p175 : lw_okq (⟨"CloneVolumesModel", "isRefused", "(I)Z"⟩, 116) := ⟨⟨by decide +kernel, by decide +kernel⟩, List.mem_of_getElem? (i := 1336) (by decide +kernel), List.mem_of_getElem? (i := 2284) (by decide +kernel), List.mem_of_getElem? (i := 2285) (by decide +kernel)⟩
def lw_privs_11 : List (MethodName × Nat) := [(⟨"CloneVolumesModel", "isBlock", "(J)Z"⟩, 116), (⟨"CloneVolumesModel", "unlike", "(III)I"⟩, 116), (⟨"CloneVolumesModel", "laysWrites", "(II)V"⟩, 116), (⟨"CloneVolumesModel", "writtenMany", "()I"⟩, 116), (⟨"CloneVolumesModel", "writtenCost", "()I"⟩, 116), (⟨"CloneVolumesModel", "costOf", "(I)I"⟩, 116), (⟨"CloneVolumesModel", "laysLost", "()V"⟩, 116), (⟨"CloneVolumesModel", "doesFit", "(I)Z"⟩, 116), (⟨"CloneVolumesModel", "toldOf", "(II)I"⟩, 116), (⟨"CloneVolumesModel", "mostAlike", "(I)I"⟩, 116), (⟨"CloneVolumesModel", "canBe", "(IIII)Z"⟩, 116), (⟨"CloneVolumesModel", "keeps", "()V"⟩, 116), (⟨"CloneVolumesModel", "isKept", "(II)V"⟩, 116), (⟨"CloneVolumesModel", "freeNumber", "()I"⟩, 116), (⟨"CloneVolumesModel", "crashes", "()V"⟩, 116), (⟨"CloneVolumesModel", "isRefused", "(I)Z"⟩, 116)]
theorem lw_r11 : ∀ q ∈ lw_privs_11, lw_okq q := List.forall_mem_cons.mpr ⟨lw_p160, List.forall_mem_cons.mpr ⟨lw_p161, List.forall_mem_cons.mpr ⟨lw_p162, List.forall_mem_cons.mpr ⟨lw_p163, List.forall_mem_cons.mpr ⟨lw_p164, List.forall_mem_cons.mpr ⟨lw_p165, List.forall_mem_cons.mpr ⟨lw_p166, List.forall_mem_cons.mpr ⟨lw_p167, List.forall_mem_cons.mpr ⟨lw_p168, List.forall_mem_cons.mpr ⟨lw_p169, List.forall_mem_cons.mpr ⟨lw_p170, List.forall_mem_cons.mpr ⟨lw_p171, List.forall_mem_cons.mpr ⟨lw_p172, List.forall_mem_cons.mpr ⟨lw_p173, List.forall_mem_cons.mpr ⟨lw_p174, List.forall_mem_cons.mpr ⟨lw_p175, fun _ h => absurd h List.not_mem_nil⟩⟩⟩⟩⟩⟩⟩⟩⟩⟩⟩⟩⟩⟩⟩⟩
theorem lw_p176 : lw_okq (⟨"CloneVolumesModel", "isDrawn", "()Z"⟩, 116) := ⟨⟨by decide +kernel, by decide +kernel⟩, List.mem_of_getElem? (i := 1336) (by decide +kernel), List.mem_of_getElem? (i := 2293) (by decide +kernel), List.mem_of_getElem? (i := 2294) (by decide +kernel)⟩
theorem lw_p177 : lw_okq (⟨"CloneVolumesModel", "drawOf", "(I)I"⟩, 116) := ⟨⟨by decide +kernel, by decide +kernel⟩, List.mem_of_getElem? (i := 1336) (by decide +kernel), List.mem_of_getElem? (i := 2297) (by decide +kernel), List.mem_of_getElem? (i := 2298) (by decide +kernel)⟩
theorem lw_p178 : lw_okq (⟨"CloneVolumesModel", "volumeAt", "(I)I"⟩, 116) := ⟨⟨by decide +kernel, by decide +kernel⟩, List.mem_of_getElem? (i := 1336) (by decide +kernel), List.mem_of_getElem? (i := 2305) (by decide +kernel), List.mem_of_getElem? (i := 2306) (by decide +kernel)⟩
theorem lw_p179 : lw_okq (⟨"CloneVolumesModel", "qKind", "()I"⟩, 116) := ⟨⟨by decide +kernel, by decide +kernel⟩, List.mem_of_getElem? (i := 1336) (by decide +kernel), List.mem_of_getElem? (i := 2314) (by decide +kernel), List.mem_of_getElem? (i := 2315) (by decide +kernel)⟩
theorem lw_p180 : lw_okq (⟨"CloneVolumesModel", "qTold", "(I)J"⟩, 116) := ⟨⟨by decide +kernel, by decide +kernel⟩, List.mem_of_getElem? (i := 1336) (by decide +kernel), List.mem_of_getElem? (i := 2319) (by decide +kernel), List.mem_of_getElem? (i := 2320) (by decide +kernel)⟩
theorem lw_p181 : lw_okq (⟨"CloneVolumesModel", "qOf", "(IJI)J"⟩, 116) := ⟨⟨by decide +kernel, by decide +kernel⟩, List.mem_of_getElem? (i := 1336) (by decide +kernel), List.mem_of_getElem? (i := 2323) (by decide +kernel), List.mem_of_getElem? (i := 2324) (by decide +kernel)⟩
theorem lw_p182 : lw_okq (⟨"CloneVolumesModel", "qTakes", "(IJI)V"⟩, 116) := ⟨⟨by decide +kernel, by decide +kernel⟩, List.mem_of_getElem? (i := 1336) (by decide +kernel), List.mem_of_getElem? (i := 2327) (by decide +kernel), List.mem_of_getElem? (i := 2328) (by decide +kernel)⟩
theorem lw_p183 : lw_okq (⟨"CloneVolumesModel", "tellsByte", "(I)V"⟩, 116) := ⟨⟨by decide +kernel, by decide +kernel⟩, List.mem_of_getElem? (i := 1336) (by decide +kernel), List.mem_of_getElem? (i := 2344) (by decide +kernel), List.mem_of_getElem? (i := 2345) (by decide +kernel)⟩
theorem lw_p184 : lw_okq (⟨"CloneVolumesModel", "tellsTwo", "(I)V"⟩, 116) := ⟨⟨by decide +kernel, by decide +kernel⟩, List.mem_of_getElem? (i := 1336) (by decide +kernel), List.mem_of_getElem? (i := 2348) (by decide +kernel), List.mem_of_getElem? (i := 2349) (by decide +kernel)⟩
theorem lw_p185 : lw_okq (⟨"CloneVolumesModel", "rootTold", "(I)I"⟩, 116) := ⟨⟨by decide +kernel, by decide +kernel⟩, List.mem_of_getElem? (i := 1336) (by decide +kernel), List.mem_of_getElem? (i := 2352) (by decide +kernel), List.mem_of_getElem? (i := 2353) (by decide +kernel)⟩
theorem lw_p186 : lw_okq (⟨"CloneVolumesModel", "writesBlock", "(I)V"⟩, 116) := ⟨⟨by decide +kernel, by decide +kernel⟩, List.mem_of_getElem? (i := 1336) (by decide +kernel), List.mem_of_getElem? (i := 2356) (by decide +kernel), List.mem_of_getElem? (i := 2357) (by decide +kernel)⟩
theorem lw_p187 : lw_okq (⟨"CloneVolumesModel", "isImage", "(I)Z"⟩, 116) := ⟨⟨by decide +kernel, by decide +kernel⟩, List.mem_of_getElem? (i := 1336) (by decide +kernel), List.mem_of_getElem? (i := 2367) (by decide +kernel), List.mem_of_getElem? (i := 2368) (by decide +kernel)⟩
theorem lw_p188 : lw_okq (⟨"CloneVolumesModel", "isLaid", "(I)Z"⟩, 116) := ⟨⟨by decide +kernel, by decide +kernel⟩, List.mem_of_getElem? (i := 1336) (by decide +kernel), List.mem_of_getElem? (i := 2371) (by decide +kernel), List.mem_of_getElem? (i := 2372) (by decide +kernel)⟩
theorem lw_p189 : lw_okq (⟨"CloneVolumesModel", "byteRead", "(I)I"⟩, 116) := ⟨⟨by decide +kernel, by decide +kernel⟩, List.mem_of_getElem? (i := 1336) (by decide +kernel), List.mem_of_getElem? (i := 2375) (by decide +kernel), List.mem_of_getElem? (i := 2376) (by decide +kernel)⟩
theorem lw_p190 : lw_okq (⟨"CloneVolumesModel", "twoRead", "(I)I"⟩, 116) := ⟨⟨by decide +kernel, by decide +kernel⟩, List.mem_of_getElem? (i := 1336) (by decide +kernel), List.mem_of_getElem? (i := 2379) (by decide +kernel), List.mem_of_getElem? (i := 2380) (by decide +kernel)⟩
theorem lw_p191 : lw_okq (⟨"CloneVolumesModel", "isLaidBlock", "(II)Z"⟩, 116) := ⟨⟨by decide +kernel, by decide +kernel⟩, List.mem_of_getElem? (i := 1336) (by decide +kernel), List.mem_of_getElem? (i := 2383) (by decide +kernel), List.mem_of_getElem? (i := 2384) (by decide +kernel)⟩
def lw_privs_12 : List (MethodName × Nat) := [(⟨"CloneVolumesModel", "isDrawn", "()Z"⟩, 116), (⟨"CloneVolumesModel", "drawOf", "(I)I"⟩, 116), (⟨"CloneVolumesModel", "volumeAt", "(I)I"⟩, 116), (⟨"CloneVolumesModel", "qKind", "()I"⟩, 116), (⟨"CloneVolumesModel", "qTold", "(I)J"⟩, 116), (⟨"CloneVolumesModel", "qOf", "(IJI)J"⟩, 116), (⟨"CloneVolumesModel", "qTakes", "(IJI)V"⟩, 116), (⟨"CloneVolumesModel", "tellsByte", "(I)V"⟩, 116), (⟨"CloneVolumesModel", "tellsTwo", "(I)V"⟩, 116), (⟨"CloneVolumesModel", "rootTold", "(I)I"⟩, 116), (⟨"CloneVolumesModel", "writesBlock", "(I)V"⟩, 116), (⟨"CloneVolumesModel", "isImage", "(I)Z"⟩, 116), (⟨"CloneVolumesModel", "isLaid", "(I)Z"⟩, 116), (⟨"CloneVolumesModel", "byteRead", "(I)I"⟩, 116), (⟨"CloneVolumesModel", "twoRead", "(I)I"⟩, 116), (⟨"CloneVolumesModel", "isLaidBlock", "(II)Z"⟩, 116)]
theorem lw_r12 : ∀ q ∈ lw_privs_12, lw_okq q := List.forall_mem_cons.mpr ⟨lw_p176, List.forall_mem_cons.mpr ⟨lw_p177, List.forall_mem_cons.mpr ⟨lw_p178, List.forall_mem_cons.mpr ⟨lw_p179, List.forall_mem_cons.mpr ⟨lw_p180, List.forall_mem_cons.mpr ⟨lw_p181, List.forall_mem_cons.mpr ⟨lw_p182, List.forall_mem_cons.mpr ⟨lw_p183, List.forall_mem_cons.mpr ⟨lw_p184, List.forall_mem_cons.mpr ⟨lw_p185, List.forall_mem_cons.mpr ⟨lw_p186, List.forall_mem_cons.mpr ⟨lw_p187, List.forall_mem_cons.mpr ⟨lw_p188, List.forall_mem_cons.mpr ⟨lw_p189, List.forall_mem_cons.mpr ⟨lw_p190, List.forall_mem_cons.mpr ⟨lw_p191, fun _ h => absurd h List.not_mem_nil⟩⟩⟩⟩⟩⟩⟩⟩⟩⟩⟩⟩⟩⟩⟩⟩
theorem lw_p192 : lw_okq (⟨"CloneVolumesModel", "areValues", "(I)Z"⟩, 116) := ⟨⟨by decide +kernel, by decide +kernel⟩, List.mem_of_getElem? (i := 1336) (by decide +kernel), List.mem_of_getElem? (i := 2387) (by decide +kernel), List.mem_of_getElem? (i := 2388) (by decide +kernel)⟩
theorem lw_p193 : lw_okq (⟨"CloneVolumesModel", "laidOf", "(II)I"⟩, 116) := ⟨⟨by decide +kernel, by decide +kernel⟩, List.mem_of_getElem? (i := 1336) (by decide +kernel), List.mem_of_getElem? (i := 2391) (by decide +kernel), List.mem_of_getElem? (i := 2392) (by decide +kernel)⟩
theorem lw_p194 : lw_okq (⟨"CloneVolumesModel", "areCounts", "(I)Z"⟩, 116) := ⟨⟨by decide +kernel, by decide +kernel⟩, List.mem_of_getElem? (i := 1336) (by decide +kernel), List.mem_of_getElem? (i := 2395) (by decide +kernel), List.mem_of_getElem? (i := 2396) (by decide +kernel)⟩
theorem lw_p195 : lw_okq (⟨"CloneVolumesModel", "areKeys", "(I)Z"⟩, 116) := ⟨⟨by decide +kernel, by decide +kernel⟩, List.mem_of_getElem? (i := 1336) (by decide +kernel), List.mem_of_getElem? (i := 2399) (by decide +kernel), List.mem_of_getElem? (i := 2400) (by decide +kernel)⟩
theorem lw_p196 : lw_okq (⟨"CloneVolumesModel", "areBetween", "(III)Z"⟩, 116) := ⟨⟨by decide +kernel, by decide +kernel⟩, List.mem_of_getElem? (i := 1336) (by decide +kernel), List.mem_of_getElem? (i := 2403) (by decide +kernel), List.mem_of_getElem? (i := 2404) (by decide +kernel)⟩
def lw_privs_13 : List (MethodName × Nat) := [(⟨"CloneVolumesModel", "areValues", "(I)Z"⟩, 116), (⟨"CloneVolumesModel", "laidOf", "(II)I"⟩, 116), (⟨"CloneVolumesModel", "areCounts", "(I)Z"⟩, 116), (⟨"CloneVolumesModel", "areKeys", "(I)Z"⟩, 116), (⟨"CloneVolumesModel", "areBetween", "(III)Z"⟩, 116)]
theorem lw_r13 : ∀ q ∈ lw_privs_13, lw_okq q := List.forall_mem_cons.mpr ⟨lw_p192, List.forall_mem_cons.mpr ⟨lw_p193, List.forall_mem_cons.mpr ⟨lw_p194, List.forall_mem_cons.mpr ⟨lw_p195, List.forall_mem_cons.mpr ⟨lw_p196, fun _ h => absurd h List.not_mem_nil⟩⟩⟩⟩⟩
def lw_privs : List (MethodName × Nat) := lw_privs_1 ++ (lw_privs_2 ++ (lw_privs_3 ++ (lw_privs_4 ++ (lw_privs_5 ++ (lw_privs_6 ++ (lw_privs_7 ++ (lw_privs_8 ++ (lw_privs_9 ++ (lw_privs_10 ++ (lw_privs_11 ++ (lw_privs_12 ++ (lw_privs_13))))))))))))
def lw_tbl : List Cond := k2_sels lw_privs ++ tables_1
theorem lw_privs_ok : ∀ q ∈ lw_privs, lw_okq q := by
  show ∀ q ∈ lw_privs_1 ++ (lw_privs_2 ++ (lw_privs_3 ++ (lw_privs_4 ++ (lw_privs_5 ++ (lw_privs_6 ++ (lw_privs_7 ++ (lw_privs_8 ++ (lw_privs_9 ++ (lw_privs_10 ++ (lw_privs_11 ++ (lw_privs_12 ++ (lw_privs_13)))))))))))), lw_okq q
  exact List.forall_mem_append.mpr ⟨lw_r1, List.forall_mem_append.mpr ⟨lw_r2, List.forall_mem_append.mpr ⟨lw_r3, List.forall_mem_append.mpr ⟨lw_r4, List.forall_mem_append.mpr ⟨lw_r5, List.forall_mem_append.mpr ⟨lw_r6, List.forall_mem_append.mpr ⟨lw_r7, List.forall_mem_append.mpr ⟨lw_r8, List.forall_mem_append.mpr ⟨lw_r9, List.forall_mem_append.mpr ⟨lw_r10, List.forall_mem_append.mpr ⟨lw_r11, List.forall_mem_append.mpr ⟨lw_r12, lw_r13⟩⟩⟩⟩⟩⟩⟩⟩⟩⟩⟩⟩
end
section
/-! ===== BEGIN words of one list among another's, by their places ===== -/
theorem goodIn_r {big : List Cond} (ws : List Cond) (ps : List Nat) (hp : ws = ps.filterMap (fun i => big[i]?)) (h : ws.all goodWord = true) : GoodIn big ws := by
  intro w hw
  have h1 := List.all_eq_true.mp h w hw
  rw [hp] at hw
  obtain ⟨i, -, hi⟩ := List.mem_filterMap.mp hw
  have hm : w ∈ big := by first | exact List.mem_of_getElem? hi | exact List.getElem?_mem hi
  exact ⟨hm, good_of_word h1⟩
theorem goodIn_app {big a b : List Cond} (ha : GoodIn big a) (hb : GoodIn big b) : GoodIn big (a ++ b) := fun w h => (List.mem_append.mp h).elim (ha w) (hb w)
theorem goodIn_ca {big a b : List Cond} {c : Cond} (ha : GoodIn big (c :: a)) (hb : GoodIn big b) : GoodIn big (c :: (a ++ b)) := fun w h => (List.mem_cons.mp h).elim (fun e => ha w (List.mem_cons.mpr (Or.inl e))) (fun h => (List.mem_append.mp h).elim (fun h => ha w (List.mem_cons.mpr (Or.inr h))) (hb w))
theorem goodIn_sub {big ws : List Cond} (hm : ∀ w ∈ ws, w ∈ big) (h : ws.all goodWord = true) : GoodIn big ws := fun w hw => ⟨hm w hw, good_of_word (List.all_eq_true.mp h w hw)⟩
/-! ===== END ===== -/

def RX0 : String := "CloneVolumes$Code"
def TX0 : u_T := fun k => match k with
  | 0 => ("CloneVolumes$Code", "steps", "[I", true)
  | _ => ("CloneVolumes$Code", "size", "I", false)
def tyX0 : Nat → FieldType := fun k => match k with
  | 0 => .array .int
  | _ => .int
abbrev wsX00 : List Cond := u_ws RX0 TX0 2
theorem nmX0 : ∀ a, a < 2 → ∀ b, b < 2 → a ≠ b → (TX0 a).2.1 ≠ (TX0 b).2.1 := by decide +kernel
theorem tyX0_ok : ∀ k, k < 2 → parseFieldDescriptor (TX0 k).2.2.1 = some (tyX0 k) := by decide +kernel
def RX1 : String := "CloneVolumes$Forest"
def TX1 : u_T := fun k => match k with
  | 0 => ("CloneVolumes$Forest", "now", "LCloneVolumes$State;", true)
  | 1 => ("CloneVolumes$Forest", "before", "LCloneVolumes$State;", false)
  | 2 => ("CloneVolumes$Forest", "inner", "LCloneVolumes$State;", true)
  | 3 => ("CloneVolumes$Forest", "seed", "I", false)
  | 4 => ("CloneVolumes$Forest", "plan", "LCloneVolumes$Plan;", false)
  | 5 => ("CloneVolumes$Forest", "machine", "LCloneVolumes$Machine;", true)
  | 6 => ("CloneVolumes$Forest", "chain", "[I", true)
  | 7 => ("CloneVolumes$Forest", "turns", "[I", true)
  | _ => ("CloneVolumes$Forest", "counts", "[I", true)
def tyX1 : Nat → FieldType := fun k => match k with
  | 0 => .object "CloneVolumes$State"
  | 1 => .object "CloneVolumes$State"
  | 2 => .object "CloneVolumes$State"
  | 3 => .int
  | 4 => .object "CloneVolumes$Plan"
  | 5 => .object "CloneVolumes$Machine"
  | 6 => .array .int
  | 7 => .array .int
  | _ => .array .int
abbrev wsX10 : List Cond := u_ws RX1 TX1 9
theorem nmX1 : ∀ a, a < 9 → ∀ b, b < 9 → a ≠ b → (TX1 a).2.1 ≠ (TX1 b).2.1 := by decide +kernel
theorem tyX1_ok : ∀ k, k < 9 → parseFieldDescriptor (TX1 k).2.2.1 = some (tyX1 k) := by decide +kernel
def RX2 : String := "CloneVolumes$History"
def TX2 : u_T := fun k => match k with
  | 0 => ("CloneVolumes$History", "acts", "[I", true)
  | 1 => ("CloneVolumes$History", "volumes", "[I", true)
  | 2 => ("CloneVolumes$History", "wrote", "[I", true)
  | 3 => ("CloneVolumes$History", "rows", "I", false)
  | 4 => ("CloneVolumes$History", "past", "[LCloneVolumes$State;", true)
  | _ => ("CloneVolumes$History", "depth", "I", false)
def tyX2 : Nat → FieldType := fun k => match k with
  | 0 => .array .int
  | 1 => .array .int
  | 2 => .array .int
  | 3 => .int
  | 4 => .array (.object "CloneVolumes$State")
  | _ => .int
abbrev wsX20 : List Cond := u_ws RX2 TX2 6
theorem nmX2 : ∀ a, a < 6 → ∀ b, b < 6 → a ≠ b → (TX2 a).2.1 ≠ (TX2 b).2.1 := by decide +kernel
theorem tyX2_ok : ∀ k, k < 6 → parseFieldDescriptor (TX2 k).2.2.1 = some (tyX2 k) := by decide +kernel
def RX3 : String := "CloneVolumes$Machine"
def TX3 : u_T := fun k => match k with
  | 0 => ("CloneVolumes$Machine", "stack", "[I", true)
  | 1 => ("CloneVolumes$Machine", "top", "I", false)
  | 2 => ("CloneVolumes$Machine", "number", "I", false)
  | 3 => ("CloneVolumes$Machine", "source", "I", false)
  | 4 => ("CloneVolumes$Machine", "level", "I", false)
  | 5 => ("CloneVolumes$Machine", "entries", "I", false)
  | 6 => ("CloneVolumes$Machine", "count", "I", false)
  | 7 => ("CloneVolumes$Machine", "fresh", "I", false)
  | 8 => ("CloneVolumes$Machine", "saved", "I", false)
  | _ => ("CloneVolumes$Machine", "state", "LCloneVolumes$State;", true)
def tyX3 : Nat → FieldType := fun k => match k with
  | 0 => .array .int
  | 1 => .int
  | 2 => .int
  | 3 => .int
  | 4 => .int
  | 5 => .int
  | 6 => .int
  | 7 => .int
  | 8 => .int
  | _ => .object "CloneVolumes$State"
abbrev wsX30 : List Cond := u_ws RX3 TX3 10
theorem nmX3 : ∀ a, a < 10 → ∀ b, b < 10 → a ≠ b → (TX3 a).2.1 ≠ (TX3 b).2.1 := by decide +kernel
theorem tyX3_ok : ∀ k, k < 10 → parseFieldDescriptor (TX3 k).2.2.1 = some (tyX3 k) := by decide +kernel
def RX4 : String := "CloneVolumes$Picture"
def TX4 : u_T := fun k => match k with
  | 0 => ("CloneVolumes$Picture", "bytes", "[I", true)
  | 1 => ("CloneVolumes$Picture", "size", "I", false)
  | 2 => ("CloneVolumes$Picture", "at", "I", false)
  | 3 => ("CloneVolumes$Picture", "lowest", "[I", true)
  | 4 => ("CloneVolumes$Picture", "highest", "[I", true)
  | _ => ("CloneVolumes$Picture", "refs", "[I", true)
def tyX4 : Nat → FieldType := fun k => match k with
  | 0 => .array .int
  | 1 => .int
  | 2 => .int
  | 3 => .array .int
  | 4 => .array .int
  | _ => .array .int
abbrev wsX40 : List Cond := u_ws RX4 TX4 6
theorem nmX4 : ∀ a, a < 6 → ∀ b, b < 6 → a ≠ b → (TX4 a).2.1 ≠ (TX4 b).2.1 := by decide +kernel
theorem tyX4_ok : ∀ k, k < 6 → parseFieldDescriptor (TX4 k).2.2.1 = some (tyX4 k) := by decide +kernel
def RX5 : String := "CloneVolumes$Plan"
def TX5 : u_T := fun k => match k with
  | 0 => ("CloneVolumes$Plan", "blocks", "I", false)
  | 1 => ("CloneVolumes$Plan", "entriesMost", "I", false)
  | 2 => ("CloneVolumes$Plan", "churn", "I", false)
  | 3 => ("CloneVolumes$Plan", "statements", "I", false)
  | 4 => ("CloneVolumes$Plan", "volumes", "I", false)
  | 5 => ("CloneVolumes$Plan", "changes", "I", false)
  | 6 => ("CloneVolumes$Plan", "names", "[I", true)
  | 7 => ("CloneVolumes$Plan", "kinds", "[I", true)
  | 8 => ("CloneVolumes$Plan", "who", "[I", true)
  | 9 => ("CloneVolumes$Plan", "first", "[I", true)
  | 10 => ("CloneVolumes$Plan", "second", "[I", true)
  | 11 => ("CloneVolumes$Plan", "code", "LCloneVolumes$Code;", true)
  | 12 => ("CloneVolumes$Plan", "begins", "[I", true)
  | _ => ("CloneVolumes$Plan", "ends", "[I", true)
def tyX5 : Nat → FieldType := fun k => match k with
  | 0 => .int
  | 1 => .int
  | 2 => .int
  | 3 => .int
  | 4 => .int
  | 5 => .int
  | 6 => .array .int
  | 7 => .array .int
  | 8 => .array .int
  | 9 => .array .int
  | 10 => .array .int
  | 11 => .object "CloneVolumes$Code"
  | 12 => .array .int
  | _ => .array .int
abbrev wsX50 : List Cond := u_ws RX5 TX5 14
theorem nmX5 : ∀ a, a < 14 → ∀ b, b < 14 → a ≠ b → (TX5 a).2.1 ≠ (TX5 b).2.1 := by decide +kernel
theorem tyX5_ok : ∀ k, k < 14 → parseFieldDescriptor (TX5 k).2.2.1 = some (tyX5 k) := by decide +kernel
def RX6 : String := "CloneVolumes$Reader"
def TX6 : u_T := fun k => match k with
  | 0 => ("CloneVolumes$Reader", "fault", "I", false)
  | 1 => ("CloneVolumes$Reader", "place", "I", false)
  | 2 => ("CloneVolumes$Reader", "tape", "LCloneVolumes$Tape;", true)
  | 3 => ("CloneVolumes$Reader", "words", "[C", true)
  | 4 => ("CloneVolumes$Reader", "code", "LCloneVolumes$Code;", false)
  | 5 => ("CloneVolumes$Reader", "mode", "I", false)
  | 6 => ("CloneVolumes$Reader", "open", "I", false)
  | 7 => ("CloneVolumes$Reader", "kind", "I", false)
  | 8 => ("CloneVolumes$Reader", "start", "I", false)
  | 9 => ("CloneVolumes$Reader", "stop", "I", false)
  | 10 => ("CloneVolumes$Reader", "word", "I", false)
  | _ => ("CloneVolumes$Reader", "sign", "I", false)
def tyX6 : Nat → FieldType := fun k => match k with
  | 0 => .int
  | 1 => .int
  | 2 => .object "CloneVolumes$Tape"
  | 3 => .array .char
  | 4 => .object "CloneVolumes$Code"
  | 5 => .int
  | 6 => .int
  | 7 => .int
  | 8 => .int
  | 9 => .int
  | 10 => .int
  | _ => .int
abbrev wsX60 : List Cond := u_ws RX6 TX6 12
theorem nmX6 : ∀ a, a < 12 → ∀ b, b < 12 → a ≠ b → (TX6 a).2.1 ≠ (TX6 b).2.1 := by decide +kernel
theorem tyX6_ok : ∀ k, k < 12 → parseFieldDescriptor (TX6 k).2.2.1 = some (tyX6 k) := by decide +kernel
def RX7 : String := "CloneVolumes$Sight"
def TX7 : u_T := fun k => match k with
  | 0 => ("CloneVolumes$Sight", "rows", "I", false)
  | 1 => ("CloneVolumes$Sight", "keys", "[I", true)
  | 2 => ("CloneVolumes$Sight", "values", "[I", true)
  | 3 => ("CloneVolumes$Sight", "fit", "[I", true)
  | 4 => ("CloneVolumes$Sight", "fits", "I", false)
  | _ => ("CloneVolumes$Sight", "readings", "[I", true)
def tyX7 : Nat → FieldType := fun k => match k with
  | 0 => .int
  | 1 => .array .int
  | 2 => .array .int
  | 3 => .array .int
  | 4 => .int
  | _ => .array .int
abbrev wsX70 : List Cond := u_ws RX7 TX7 6
theorem nmX7 : ∀ a, a < 6 → ∀ b, b < 6 → a ≠ b → (TX7 a).2.1 ≠ (TX7 b).2.1 := by decide +kernel
theorem tyX7_ok : ∀ k, k < 6 → parseFieldDescriptor (TX7 k).2.2.1 = some (tyX7 k) := by decide +kernel
def RX8 : String := "CloneVolumes$State"
def TX8 : u_T := fun k => match k with
  | 0 => ("CloneVolumes$State", "blocks", "I", false)
  | 1 => ("CloneVolumes$State", "spent", "I", false)
  | 2 => ("CloneVolumes$State", "written", "J", false)
  | 3 => ("CloneVolumes$State", "count", "[I", true)
  | 4 => ("CloneVolumes$State", "saved", "[I", true)
  | 5 => ("CloneVolumes$State", "level", "[I", true)
  | 6 => ("CloneVolumes$State", "size", "[I", true)
  | 7 => ("CloneVolumes$State", "keys", "[I", true)
  | 8 => ("CloneVolumes$State", "values", "[I", true)
  | 9 => ("CloneVolumes$State", "roots", "[I", true)
  | _ => ("CloneVolumes$State", "savedRoots", "[I", true)
def tyX8 : Nat → FieldType := fun k => match k with
  | 0 => .int
  | 1 => .int
  | 2 => .long
  | 3 => .array .int
  | 4 => .array .int
  | 5 => .array .int
  | 6 => .array .int
  | 7 => .array .int
  | 8 => .array .int
  | 9 => .array .int
  | _ => .array .int
abbrev wsX80 : List Cond := u_ws RX8 TX8 11
theorem nmX8 : ∀ a, a < 11 → ∀ b, b < 11 → a ≠ b → (TX8 a).2.1 ≠ (TX8 b).2.1 := by decide +kernel
theorem tyX8_ok : ∀ k, k < 11 → parseFieldDescriptor (TX8 k).2.2.1 = some (tyX8 k) := by decide +kernel
abbrev cX8_isVolume : ByteArray := prog_10_method_6_code
def yX8_isVolume : MethodName := ⟨RX8, "isVolume", "(I)Z"⟩
abbrev cX8_isBlock : ByteArray := prog_10_method_7_code
def yX8_isBlock : MethodName := ⟨RX8, "isBlock", "(I)Z"⟩
def RX9 : String := "CloneVolumes$Tape"
def TX9 : u_T := fun k => match k with
  | 0 => ("CloneVolumes$Tape", "bytes", "[I", true)
  | _ => ("CloneVolumes$Tape", "length", "I", false)
def tyX9 : Nat → FieldType := fun k => match k with
  | 0 => .array .int
  | _ => .int
abbrev wsX90 : List Cond := u_ws RX9 TX9 2
theorem nmX9 : ∀ a, a < 2 → ∀ b, b < 2 → a ≠ b → (TX9 a).2.1 ≠ (TX9 b).2.1 := by decide +kernel
theorem tyX9_ok : ∀ k, k < 2 → parseFieldDescriptor (TX9 k).2.2.1 = some (tyX9 k) := by decide +kernel
def RX10 : String := "CloneVolumes$Walk"
def TX10 : u_T := fun k => match k with
  | 0 => ("CloneVolumes$Walk", "row", "[I", true)
  | 1 => ("CloneVolumes$Walk", "length", "I", false)
  | 2 => ("CloneVolumes$Walk", "keys", "[I", true)
  | _ => ("CloneVolumes$Walk", "values", "[I", true)
def tyX10 : Nat → FieldType := fun k => match k with
  | 0 => .array .int
  | 1 => .int
  | 2 => .array .int
  | _ => .array .int
abbrev wsX100 : List Cond := u_ws RX10 TX10 4
theorem nmX10 : ∀ a, a < 4 → ∀ b, b < 4 → a ≠ b → (TX10 a).2.1 ≠ (TX10 b).2.1 := by decide +kernel
theorem tyX10_ok : ∀ k, k < 4 → parseFieldDescriptor (TX10 k).2.2.1 = some (tyX10 k) := by decide +kernel
def RX11 : String := "CloneVolumes"
def TX11 : u_T := fun k => match k with
  | 0 => ("CloneVolumes", "tape", "LCloneVolumes$Tape;", true)
  | 1 => ("CloneVolumes", "reader", "LCloneVolumes$Reader;", true)
  | 2 => ("CloneVolumes", "history", "LCloneVolumes$History;", true)
  | 3 => ("CloneVolumes", "sight", "LCloneVolumes$Sight;", true)
  | 4 => ("CloneVolumes", "picture", "LCloneVolumes$Picture;", true)
  | 5 => ("CloneVolumes", "walk", "LCloneVolumes$Walk;", true)
  | 6 => ("CloneVolumes", "otherWalk", "LCloneVolumes$Walk;", true)
  | 7 => ("CloneVolumes", "trees", "[J", true)
  | 8 => ("CloneVolumes", "refused", "[I", true)
  | 9 => ("CloneVolumes", "plan", "LCloneVolumes$Plan;", false)
  | 10 => ("CloneVolumes", "spare", "LCloneVolumes$Plan;", false)
  | 11 => ("CloneVolumes", "forest", "LCloneVolumes$Forest;", true)
  | _ => ("CloneVolumes", "told", "Z", false)
def tyX11 : Nat → FieldType := fun k => match k with
  | 0 => .object "CloneVolumes$Tape"
  | 1 => .object "CloneVolumes$Reader"
  | 2 => .object "CloneVolumes$History"
  | 3 => .object "CloneVolumes$Sight"
  | 4 => .object "CloneVolumes$Picture"
  | 5 => .object "CloneVolumes$Walk"
  | 6 => .object "CloneVolumes$Walk"
  | 7 => .array .long
  | 8 => .array .int
  | 9 => .object "CloneVolumes$Plan"
  | 10 => .object "CloneVolumes$Plan"
  | 11 => .object "CloneVolumes$Forest"
  | _ => .boolean
abbrev wsX110 : List Cond := u_ws RX11 TX11 13
theorem nmX11 : ∀ a, a < 13 → ∀ b, b < 13 → a ≠ b → (TX11 a).2.1 ≠ (TX11 b).2.1 := by decide +kernel
theorem tyX11_ok : ∀ k, k < 13 → parseFieldDescriptor (TX11 k).2.2.1 = some (tyX11 k) := by decide +kernel
abbrev cX11_status : ByteArray := prog_1_method_41_code
def yX11_status : MethodName := ⟨RX11, "status", "(I)I"⟩
def RX12 : String := "CloneVolumesModel"
def TX12 : u_T := fun k => match k with
  | 0 => ("CloneVolumesModel", "tape", "[I", true)
  | 1 => ("CloneVolumesModel", "taped", "I", false)
  | 2 => ("CloneVolumesModel", "at", "I", false)
  | 3 => ("CloneVolumesModel", "end", "I", false)
  | 4 => ("CloneVolumesModel", "ended", "I", false)
  | 5 => ("CloneVolumesModel", "bad", "I", false)
  | 6 => ("CloneVolumesModel", "badPlace", "I", false)
  | 7 => ("CloneVolumesModel", "fault", "I", false)
  | 8 => ("CloneVolumesModel", "faultPlace", "I", false)
  | 9 => ("CloneVolumesModel", "refused", "[I", true)
  | 10 => ("CloneVolumesModel", "numberPlace", "I", false)
  | 11 => ("CloneVolumesModel", "blocksWord", "[C", true)
  | 12 => ("CloneVolumesModel", "roomWord", "[C", true)
  | 13 => ("CloneVolumesModel", "volumeWord", "[C", true)
  | 14 => ("CloneVolumesModel", "cloneWord", "[C", true)
  | 15 => ("CloneVolumesModel", "ofWord", "[C", true)
  | 16 => ("CloneVolumesModel", "putWord", "[C", true)
  | 17 => ("CloneVolumesModel", "removeWord", "[C", true)
  | 18 => ("CloneVolumesModel", "picksWord", "[C", true)
  | 19 => ("CloneVolumesModel", "splitsWord", "[C", true)
  | 20 => ("CloneVolumesModel", "costsWord", "[C", true)
  | 21 => ("CloneVolumesModel", "churnWord", "[C", true)
  | 22 => ("CloneVolumesModel", "blockWord", "[C", true)
  | 23 => ("CloneVolumesModel", "fromWord", "[C", true)
  | 24 => ("CloneVolumesModel", "levelWord", "[C", true)
  | 25 => ("CloneVolumesModel", "entriesWord", "[C", true)
  | 26 => ("CloneVolumesModel", "numberWord", "[C", true)
  | 27 => ("CloneVolumesModel", "countWord", "[C", true)
  | 28 => ("CloneVolumesModel", "freshWord", "[C", true)
  | 29 => ("CloneVolumesModel", "savedWord", "[C", true)
  | 30 => ("CloneVolumesModel", "refsWord", "[C", true)
  | 31 => ("CloneVolumesModel", "keyWord", "[C", true)
  | 32 => ("CloneVolumesModel", "orWord", "[C", true)
  | 33 => ("CloneVolumesModel", "andWord", "[C", true)
  | 34 => ("CloneVolumesModel", "notWord", "[C", true)
  | 35 => ("CloneVolumesModel", "allWord", "[C", true)
  | 36 => ("CloneVolumesModel", "minWord", "[C", true)
  | 37 => ("CloneVolumesModel", "maxWord", "[C", true)
  | 38 => ("CloneVolumesModel", "namePlace", "I", false)
  | 39 => ("CloneVolumesModel", "many", "[I", true)
  | 40 => ("CloneVolumesModel", "names", "[J", true)
  | 41 => ("CloneVolumesModel", "acts", "[I", true)
  | 42 => ("CloneVolumesModel", "codeFrom", "[I", true)
  | 43 => ("CloneVolumesModel", "codeEnd", "[I", true)
  | 44 => ("CloneVolumesModel", "codes", "[I", true)
  | 45 => ("CloneVolumesModel", "coded", "I", false)
  | 46 => ("CloneVolumesModel", "statements", "I", false)
  | 47 => ("CloneVolumesModel", "isTold", "Z", false)
  | 48 => ("CloneVolumesModel", "textKind", "I", false)
  | 49 => ("CloneVolumesModel", "now", "[I", true)
  | 50 => ("CloneVolumesModel", "askBlock", "I", false)
  | 51 => ("CloneVolumesModel", "askFrom", "I", false)
  | 52 => ("CloneVolumesModel", "askLevel", "I", false)
  | 53 => ("CloneVolumesModel", "askEntries", "I", false)
  | 54 => ("CloneVolumesModel", "isTouched", "[Z", true)
  | 55 => ("CloneVolumesModel", "isFull", "Z", false)
  | 56 => ("CloneVolumesModel", "fallRow", "[I", true)
  | 57 => ("CloneVolumesModel", "wayBlocks", "[I", true)
  | 58 => ("CloneVolumesModel", "wayPlaces", "[I", true)
  | 59 => ("CloneVolumesModel", "tried", "[I", true)
  | 60 => ("CloneVolumesModel", "wasTouched", "[Z", true)
  | 61 => ("CloneVolumesModel", "aside", "[I", true)
  | 62 => ("CloneVolumesModel", "treeRow", "[I", true)
  | 63 => ("CloneVolumesModel", "isInTree", "[Z", true)
  | 64 => ("CloneVolumesModel", "keyRow", "[I", true)
  | 65 => ("CloneVolumesModel", "valueRow", "[I", true)
  | 66 => ("CloneVolumesModel", "leafRow", "[I", true)
  | 67 => ("CloneVolumesModel", "keyMany", "I", false)
  | 68 => ("CloneVolumesModel", "treeMany", "I", false)
  | 69 => ("CloneVolumesModel", "wasInTree", "[Z", true)
  | 70 => ("CloneVolumesModel", "writeMany", "I", false)
  | 71 => ("CloneVolumesModel", "writeCost", "I", false)
  | 72 => ("CloneVolumesModel", "lostBy", "[I", true)
  | 73 => ("CloneVolumesModel", "rowMany", "I", false)
  | 74 => ("CloneVolumesModel", "rows", "[I", true)
  | 75 => ("CloneVolumesModel", "kept0", "[I", true)
  | 76 => ("CloneVolumesModel", "undoable", "I", false)
  | 77 => ("CloneVolumesModel", "newest", "I", false)
  | 78 => ("CloneVolumesModel", "seeded", "J", false)
  | 79 => ("CloneVolumesModel", "firstAsked", "[C", true)
  | 80 => ("CloneVolumesModel", "lastAsked", "[C", true)
  | 81 => ("CloneVolumesModel", "oftenAsked", "[C", true)
  | 82 => ("CloneVolumesModel", "totalAsked", "[C", true)
  | 83 => ("CloneVolumesModel", "mostAsked", "[C", true)
  | 84 => ("CloneVolumesModel", "leastAsked", "[C", true)
  | 85 => ("CloneVolumesModel", "notAsked", "[C", true)
  | 86 => ("CloneVolumesModel", "andAsked", "[C", true)
  | 87 => ("CloneVolumesModel", "orAsked", "[C", true)
  | 88 => ("CloneVolumesModel", "allAsked", "[C", true)
  | 89 => ("CloneVolumesModel", "minAsked", "[C", true)
  | 90 => ("CloneVolumesModel", "maxAsked", "[C", true)
  | 91 => ("CloneVolumesModel", "levelAsked", "[C", true)
  | 92 => ("CloneVolumesModel", "blockAsked", "[C", true)
  | 93 => ("CloneVolumesModel", "fromAsked", "[C", true)
  | 94 => ("CloneVolumesModel", "entriesAsked", "[C", true)
  | 95 => ("CloneVolumesModel", "numberAsked", "[C", true)
  | 96 => ("CloneVolumesModel", "countAsked", "[C", true)
  | 97 => ("CloneVolumesModel", "freshAsked", "[C", true)
  | 98 => ("CloneVolumesModel", "savedAsked", "[C", true)
  | 99 => ("CloneVolumesModel", "refsAsked", "[C", true)
  | 100 => ("CloneVolumesModel", "keyAsked", "[C", true)
  | 101 => ("CloneVolumesModel", "qCodes", "[I", true)
  | 102 => ("CloneVolumesModel", "qCoded", "I", false)
  | 103 => ("CloneVolumesModel", "qWait", "[I", true)
  | 104 => ("CloneVolumesModel", "qWaits", "I", false)
  | 105 => ("CloneVolumesModel", "qOpened", "I", false)
  | 106 => ("CloneVolumesModel", "qBase", "I", false)
  | 107 => ("CloneVolumesModel", "qPile", "[J", true)
  | 108 => ("CloneVolumesModel", "qPiled", "I", false)
  | 109 => ("CloneVolumesModel", "qAnswer", "J", false)
  | 110 => ("CloneVolumesModel", "qIsNew", "Z", false)
  | 111 => ("CloneVolumesModel", "octet", "[I", true)
  | 112 => ("CloneVolumesModel", "octets", "I", false)
  | 113 => ("CloneVolumesModel", "laid", "[I", true)
  | 114 => ("CloneVolumesModel", "read0", "I", false)
  | _ => ("CloneVolumesModel", "recount", "[I", true)
def tyX12 : Nat → FieldType := fun k => match k with
  | 0 => .array .int
  | 1 => .int
  | 2 => .int
  | 3 => .int
  | 4 => .int
  | 5 => .int
  | 6 => .int
  | 7 => .int
  | 8 => .int
  | 9 => .array .int
  | 10 => .int
  | 11 => .array .char
  | 12 => .array .char
  | 13 => .array .char
  | 14 => .array .char
  | 15 => .array .char
  | 16 => .array .char
  | 17 => .array .char
  | 18 => .array .char
  | 19 => .array .char
  | 20 => .array .char
  | 21 => .array .char
  | 22 => .array .char
  | 23 => .array .char
  | 24 => .array .char
  | 25 => .array .char
  | 26 => .array .char
  | 27 => .array .char
  | 28 => .array .char
  | 29 => .array .char
  | 30 => .array .char
  | 31 => .array .char
  | 32 => .array .char
  | 33 => .array .char
  | 34 => .array .char
  | 35 => .array .char
  | 36 => .array .char
  | 37 => .array .char
  | 38 => .int
  | 39 => .array .int
  | 40 => .array .long
  | 41 => .array .int
  | 42 => .array .int
  | 43 => .array .int
  | 44 => .array .int
  | 45 => .int
  | 46 => .int
  | 47 => .boolean
  | 48 => .int
  | 49 => .array .int
  | 50 => .int
  | 51 => .int
  | 52 => .int
  | 53 => .int
  | 54 => .array .boolean
  | 55 => .boolean
  | 56 => .array .int
  | 57 => .array .int
  | 58 => .array .int
  | 59 => .array .int
  | 60 => .array .boolean
  | 61 => .array .int
  | 62 => .array .int
  | 63 => .array .boolean
  | 64 => .array .int
  | 65 => .array .int
  | 66 => .array .int
  | 67 => .int
  | 68 => .int
  | 69 => .array .boolean
  | 70 => .int
  | 71 => .int
  | 72 => .array .int
  | 73 => .int
  | 74 => .array .int
  | 75 => .array .int
  | 76 => .int
  | 77 => .int
  | 78 => .long
  | 79 => .array .char
  | 80 => .array .char
  | 81 => .array .char
  | 82 => .array .char
  | 83 => .array .char
  | 84 => .array .char
  | 85 => .array .char
  | 86 => .array .char
  | 87 => .array .char
  | 88 => .array .char
  | 89 => .array .char
  | 90 => .array .char
  | 91 => .array .char
  | 92 => .array .char
  | 93 => .array .char
  | 94 => .array .char
  | 95 => .array .char
  | 96 => .array .char
  | 97 => .array .char
  | 98 => .array .char
  | 99 => .array .char
  | 100 => .array .char
  | 101 => .array .int
  | 102 => .int
  | 103 => .array .int
  | 104 => .int
  | 105 => .int
  | 106 => .int
  | 107 => .array .long
  | 108 => .int
  | 109 => .long
  | 110 => .boolean
  | 111 => .array .int
  | 112 => .int
  | 113 => .array .int
  | 114 => .int
  | _ => .array .int
abbrev wsX120 : List Cond := u_ws RX12 TX12 116
theorem nmX12 : ∀ a, a < 116 → ∀ b, b < 116 → a ≠ b → (TX12 a).2.1 ≠ (TX12 b).2.1 := by decide +kernel
theorem tyX12_ok : ∀ k, k < 116 → parseFieldDescriptor (TX12 k).2.2.1 = some (tyX12 k) := by decide +kernel
abbrev cX12_isIn : ByteArray := prog_14_method_2_code
def yX12_isIn : MethodName := ⟨RX12, "isIn", "(JJJ)Z"⟩
abbrev cX12_isVolume : ByteArray := prog_14_method_46_code
def yX12_isVolume : MethodName := ⟨RX12, "isVolume", "(J)Z"⟩
abbrev cX12_status : ByteArray := prog_14_method_164_code
def yX12_status : MethodName := ⟨RX12, "status", "(I)I"⟩
def RJ13 : String := "java/lang/Long"
def RJ9 : String := "java/lang/Math"
def RJ0 : String := "java/lang/String"
def RJ1 : String := "java/lang/StringLatin1"
def RJ2 : String := "java/lang/StringUTF16"
def RJ10 : String := "java/lang/System"
def RJ3 : String := "jdk/internal/util/Preconditions"
def RL : String := "CloneVolumesLaw"
abbrev vwCl : List vw_C := [(RX0, TX0, 2), (RX1, TX1, 9), (RX2, TX2, 6), (RX3, TX3, 10), (RX4, TX4, 6), (RX5, TX5, 14), (RX6, TX6, 12), (RX7, TX7, 6), (RX8, TX8, 11), (RX9, TX9, 2), (RX10, TX10, 4), (RX11, TX11, 13), (RX12, TX12, 116)]
end
section
/-! ===== one list of words for all contracts: the good ones of the tables ===== -/
def lw_gd : List Cond := lw_tbl.filter goodWord
theorem zm {w : Cond} (h : w ∈ lw_tbl) (g : goodWord w = true) : w ∈ lw_gd := List.mem_filter.mpr ⟨h, g⟩
theorem lw_gd_in {w : Cond} (h : w ∈ lw_gd) : w ∈ lw_tbl := (List.mem_filter.mp h).1
theorem lw_gd_ok {w : Cond} (h : w ∈ lw_gd) : (w.onTables && w.keeps) = true ∨ ∃ ty, w = .arrayClass ty := good_of_word (List.mem_filter.mp h).2
abbrev wz (y : MethodName) (b : ByteArray) (n : Nat) (ret : Option FieldType) : List Cond := .code y b n ret :: lw_gd
theorem zG {y : MethodName} {b : ByteArray} {n : Nat} {ret : Option FieldType} (h : Cond.code y b n ret ∈ lw_gd) : GoodIn lw_gd (wz y b n ret) := fun w hw => (List.mem_cons.mp hw).elim (fun e => by rw [e]; exact ⟨h, lw_gd_ok h⟩) (fun q => ⟨q, lw_gd_ok q⟩)
theorem zgV {own C : String} {idx : Nat} {y : MethodName} {b : ByteArray} {n : Nat} {ret : Option FieldType} (h1 : Cond.methodLink own idx y ∈ lw_gd) (h2 : Cond.instanceMethod y ∈ lw_gd) (h3 : Cond.selects C y y ∈ lw_gd) (h4 : Cond.initialized C ∈ lw_gd) (h5 : Cond.code y b n ret ∈ lw_gd) : GoodIn lw_gd (wsV own idx C y (wz y b n ret)) := by
  intro w hw
  rcases List.mem_append.mp hw with hw | hw
  · simp only [List.mem_cons, List.not_mem_nil, or_false] at hw
    rcases hw with rfl | rfl | rfl | rfl
    · exact ⟨h1, lw_gd_ok h1⟩
    · exact ⟨h2, lw_gd_ok h2⟩
    · exact ⟨h3, lw_gd_ok h3⟩
    · exact ⟨h4, lw_gd_ok h4⟩
  · exact zG h5 w hw
theorem zgS {own : String} {idx : Nat} {y : MethodName} {b : ByteArray} {n : Nat} {ret : Option FieldType} (h1 : Cond.methodLink own idx y ∈ lw_gd) (h2 : Cond.static y ∈ lw_gd) (h4 : Cond.initialized own ∈ lw_gd) (h5 : Cond.code y b n ret ∈ lw_gd) : GoodIn lw_gd (wsS own idx y (wz y b n ret)) := by
  intro w hw
  rcases List.mem_append.mp hw with hw | hw
  · simp only [List.mem_cons, List.not_mem_nil, or_false] at hw
    rcases hw with rfl | rfl | rfl
    · exact ⟨h1, lw_gd_ok h1⟩
    · exact ⟨h2, lw_gd_ok h2⟩
    · exact ⟨h4, lw_gd_ok h4⟩
  · exact zG h5 w hw
theorem zgT {own : String} {idx : Nat} {y : MethodName} {b : ByteArray} {n : Nat} {ret : Option FieldType} (h1 : Cond.methodLink own idx y ∈ lw_gd) (h2 : Cond.static y ∈ lw_gd) (h4 : Cond.initialized y.cls ∈ lw_gd) (h5 : Cond.code y b n ret ∈ lw_gd) : GoodIn lw_gd (va_wsS own idx y (wz y b n ret)) := by
  intro w hw
  rcases List.mem_append.mp hw with hw | hw
  · simp only [List.mem_cons, List.not_mem_nil, or_false] at hw
    rcases hw with rfl | rfl | rfl
    · exact ⟨h1, lw_gd_ok h1⟩
    · exact ⟨h2, lw_gd_ok h2⟩
    · exact ⟨h4, lw_gd_ok h4⟩
  · exact zG h5 w hw
/-- the classes of the rows: int, char, long, boolean, State -/
abbrev TY (D : va_G) : List (ClassId × FieldType) := [(D.1 13, .int), (D.1 14, .char), (D.1 15, .long), (D.1 16, .boolean), (D.1 17, .object "CloneVolumes$State")]
/-- a world that is read alone -/
abbrev zP (D : va_G) (WS : va_W) (U : State) : Prop := va_P D vwCl WS U.heap ∧ va_K D vwCl (TY D) U
/-- a world that is written -/
abbrev zW (D : va_G) (sz : Nat) (WS : va_W) (U : State) : Prop := U.heap.size = sz ∧ va_P D vwCl WS U.heap ∧ va_K D vwCl (TY D) U ∧ va_D (fun _ => True) WS
/-- the world behind -/
abbrev zB (D : va_G) (A : Nat → Prop) (WS : va_W) (t : State) : Prop := va_P D vwCl WS t.heap ∧ va_K D vwCl (TY D) t ∧ va_D A WS
theorem zPb (av : List Value) (D : va_G) (WS : va_W) : FrameBlind (va_Pc av (zP D WS)) := fun a U g mk q => ⟨q.1, q.2.1, va_K.moved (u := U) (U := U.calling g mk a) (Vm.Alike.refl U.vm) q.2.2⟩
theorem zWb (av : List Value) (D : va_G) (sz : Nat) (WS : va_W) : FrameBlind (va_Pc av (zW D sz WS)) := fun a U g mk q => ⟨q.1, q.2.1, q.2.2.1, va_K.moved (u := U) (U := U.calling g mk a) (Vm.Alike.refl U.vm) q.2.2.2.1, q.2.2.2.2⟩
theorem zKeep {D : va_G} {ws : va_W} {H H1 : Heap} (hP : va_P D vwCl ws H) (hk : ∀ q : Nat, q < H.size → ¬ (fun _ => False : Nat → Prop) q → H1[q]? = H[q]?) : va_P D vwCl ws H1 := hP.kept (fun k q hq => hk q.1 ((hP k q hq).lt) (fun h => h))
theorem z_fm {α β : Type} {f : α → Option β} {is : List α} {WS : List β} (h : is.map f = WS.map some) : is.filterMap f = WS := by
  have e : (is.map f).filterMap id = is.filterMap f := by rw [List.filterMap_map]; rfl
  rw [← e, h, List.filterMap_map]
  simp
section ZC
variable {p : Program} {l : Launch} {e : Env} {R : Room} {s : State} {m : MethodId} {args : Array Value} {below : List Frame} {meth : Method} {c : Code} {H : Heap} {locs : List Loc} {cells slots : Nat} {Q : State → Prop}
variable {cc bytes : ByteArray} {pc : Nat} {ls : Array Slot} {rest st0 : List Value} {D : va_G} {A : Nat → Prop} {ws WS wr : va_W} {H0 : Heap} {y : MethodName} {maxL nL mc ms n idx : Nat} {ret : Option FieldType} {rm : Room} {own C : String} {b : Addr} {As : List Value}
/-- a pure method of an object: an int or a boolean -/
theorem zcV {post : Int32 → Prop} (S : CallFix p m c cc nL s args lw_gd own) (hM : Met l y (wz y bytes maxL ret) rm (va_Pc (.ref b :: As) (zP D WS)) (va_Qi (fun r (_ : Unit) => post r) (fun _ _ => True) (fun _ => False)) 0 0 (fun _ => False)) (hT : GoodIn lw_gd (wsV own idx C y (wz y bytes maxL ret))) (hrc : rm.cells = 0) (hrs : rm.slots = 0)
    (hd : y.cls = C ∧ y.cls ≠ "java/lang/invoke/MethodHandle" ∧ y.cls ≠ "java/lang/invoke/VarHandle" ∧ (parseMethodDescriptor y.desc).map (fun d => d.parameters.length) = some n) (hR : rm.frames + 1 ≤ R.frames ∧ 8 + (maxL + 11) + rm.locals ≤ R.locals)
    (hK : va_K D vwCl (TY D) s) (hP : va_P D vwCl ws H) (hS : va_S A H0 H locs) (is : List Nat) (hs : is.filterMap (fun i => ws[i]?) = WS) {ci : Nat} {fs : List Value} {q : vw_C} (q0 : Nat) (he : WS[q0]? = some (b, .inr (ci, fs))) (hc : vwCl[ci]? = some q) (hq : q.1 = C)
    (hn : As.length = n) (hsize : ls.size = nL) (hst : st0 = As.reverse ++ .ref b :: rest) (hW : (rest.map fun v => v.category).sum ≤ 8) (hdg : decode cc pc = .ok (.invokevirtual idx, 3)) (hf : cells ≤ R.cells ∧ slots ≤ R.slots)
    (kk : ∀ (r : Int32) (H : Heap) (locs : List Loc), post r → va_P D vwCl ws H → va_S A H0 H locs → W p l e R s m args below meth c H locs cells slots Q (F0 m (pc + 3) ls (.int r :: rest))) : W p l e R s m args below meth c H locs cells slots Q (F0 m pc ls st0) := by
  subst hq
  have hPc : va_P D vwCl WS H := hP.sub is hs
  refine va_calli (va_runV (g := F0 m pc ls st0) (b := b) (As := As) (rest := rest) (Pc := va_Pc (.ref b :: As) (zP D WS)) (mc := 0) (ms := 0) S hM (cwV n S.2.2.2.2 hT rfl hrc hrs hd hR) ⟨zPb _ D WS, va_recv hK hPc hc he, fun U hU hW => ⟨rfl, by rw [hU]; exact hPc, va_K.moved hW.alike hK⟩⟩ rfl hn hsize hst (lv_room hW) hdg ⟨hf.1, hf.2⟩) hS (fun _ _ h => h.elim) (fun _ h => h.elim) (fun r u t H1 locs1 ht hvm hw hB hz1 hk1 hS1 => ?_)
  exact kk r H1 locs1 hw (zKeep hP hk1) hS1
/-- a pure static method of the own class -/
theorem zcS {post : Int32 → Prop} (S : CallFix p m c cc nL s args lw_gd own) (hM : Met l y (wz y bytes maxL ret) rm (va_Pc As (zP D WS)) (va_Qi (fun r (_ : Unit) => post r) (fun _ _ => True) (fun _ => False)) 0 0 (fun _ => False)) (hT : GoodIn lw_gd (va_wsS own idx y (wz y bytes maxL ret))) (hrc : rm.cells = 0) (hrs : rm.slots = 0)
    (hd : y.cls ≠ "java/lang/invoke/MethodHandle" ∧ y.cls ≠ "java/lang/invoke/VarHandle" ∧ (parseMethodDescriptor y.desc).map (fun d => d.parameters.length) = some n) (hR : rm.frames + 1 ≤ R.frames ∧ 8 + (maxL + 11) + rm.locals ≤ R.locals)
    (hK : va_K D vwCl (TY D) s) (hP : va_P D vwCl ws H) (hS : va_S A H0 H locs) (is : List Nat) (hs : is.filterMap (fun i => ws[i]?) = WS)
    (hn : As.length = n) (hsize : ls.size = nL) (hst : st0 = As.reverse ++ rest) (hW : (rest.map fun v => v.category).sum ≤ 8) (hdg : decode cc pc = .ok (.invokestatic idx, 3)) (hf : cells ≤ R.cells ∧ slots ≤ R.slots)
    (kk : ∀ (r : Int32) (H : Heap) (locs : List Loc), post r → va_P D vwCl ws H → va_S A H0 H locs → W p l e R s m args below meth c H locs cells slots Q (F0 m (pc + 3) ls (.int r :: rest))) : W p l e R s m args below meth c H locs cells slots Q (F0 m pc ls st0) := by
  have hPc : va_P D vwCl WS H := hP.sub is hs
  refine va_calli (va_runS (g := F0 m pc ls st0) (As := As) (rest := rest) (Pc := va_Pc As (zP D WS)) (mc := 0) (ms := 0) S hM (va_cwS n S.2.2.2.2 hT rfl hrc hrs hd hR) ⟨zPb _ D WS, fun U hU hW => ⟨rfl, by rw [hU]; exact hPc, va_K.moved hW.alike hK⟩⟩ rfl hn hsize hst (lv_room hW) hdg ⟨hf.1, hf.2⟩) hS (fun _ _ h => h.elim) (fun _ h => h.elim) (fun r u t H1 locs1 ht hvm hw hB hz1 hk1 hS1 => ?_)
  exact kk r H1 locs1 hw (zKeep hP hk1) hS1
/-- a method of an object that writes: an int or a boolean -/
theorem zwV {Sg : Type} {post : Int32 → Sg → Prop} {W' : Sg → va_W} (S : CallFix p m c cc nL s args lw_gd own) (hM : Met l y (wz y bytes maxL ret) rm (va_Pc (.ref b :: As) (zW D H.size WS)) (va_Qi post (fun u t => zB D (va_A WS H.size) (W' u) t) (va_A WS H.size)) mc ms (va_A WS H.size)) (hT : GoodIn lw_gd (wsV own idx C y (wz y bytes maxL ret))) (hrc : rm.cells = mc) (hrs : rm.slots = ms)
    (hd : y.cls = C ∧ y.cls ≠ "java/lang/invoke/MethodHandle" ∧ y.cls ≠ "java/lang/invoke/VarHandle" ∧ (parseMethodDescriptor y.desc).map (fun d => d.parameters.length) = some n) (hR : rm.frames + 1 ≤ R.frames ∧ 8 + (maxL + 11) + rm.locals ≤ R.locals)
    (hK : va_K D vwCl (TY D) s) (hP : va_P D vwCl ws H) (hD : va_D A ws) (hS : va_S A H0 H locs) (hA : ∀ q : Nat, H0.size ≤ q → A q) (is ir : List Nat) (hs : is.map (fun i => ws[i]?) = WS.map some) (hr : ir.map (fun i => ws[i]?) = wr.map some) (hni : va_nd is = true) (hnr : va_nd ir = true) (hdis : ∀ i ∈ ir, i ∉ is) {ci : Nat} {fs : List Value} {q : vw_C} (q0 : Nat) (he : WS[q0]? = some (b, .inr (ci, fs))) (hc : vwCl[ci]? = some q) (hq : q.1 = C)
    (hn : As.length = n) (hsize : ls.size = nL) (hst : st0 = As.reverse ++ .ref b :: rest) (hW : (rest.map fun v => v.category).sum ≤ 8) (hdg : decode cc pc = .ok (.invokevirtual idx, 3)) (hf : cells + mc ≤ R.cells ∧ slots + ms ≤ R.slots)
    (kk : ∀ (r : Int32) (u : Sg) (H : Heap) (locs : List Loc), post r u → va_P D vwCl (wr ++ W' u) H → va_D A (wr ++ W' u) → va_S A H0 H locs → W p l e R s m args below meth c H locs (cells + mc) (slots + ms) Q (F0 m (pc + 3) ls (.int r :: rest))) : W p l e R s m args below meth c H locs cells slots Q (F0 m pc ls st0) := by
  subst hq
  have hPc : va_P D vwCl WS H := hP.sub is (z_fm hs)
  have hDc : va_D A WS := hD.sub is hni hs
  have hFc := va_free (wc := WS) hD hS hA is hs
  refine va_calli (va_runV (g := F0 m pc ls st0) (b := b) (As := As) (rest := rest) (Pc := va_Pc (.ref b :: As) (zW D H.size WS)) S hM (cwV n S.2.2.2.2 hT rfl hrc hrs hd hR) ⟨zWb _ D _ WS, va_recv hK hPc hc he, fun U hU hW => ⟨rfl, by rw [hU], by rw [hU]; exact hPc, va_K.moved hW.alike hK, hDc.weaken (fun _ _ _ _ => trivial)⟩⟩ rfl hn hsize hst (lv_room hW) hdg hf) hS (fun q _ h => hFc q h) hFc (fun r u t H1 locs1 ht hvm hw hB hz1 hk1 hS1 => ?_)
  obtain ⟨hP1, hK1, hD1⟩ := hB
  rw [ht] at hP1
  obtain ⟨hP2, hD2⟩ := va_join (wr := wr) (w1 := W' u) hP hD is ir hs hr hnr hdis hk1 hFc hP1 hD1
  exact kk r u H1 locs1 hw hP2 hD2 hS1
/-- the same, void -/
theorem zwVv {Sg : Type} {post : Sg → Prop} {W' : Sg → va_W} (S : CallFix p m c cc nL s args lw_gd own) (hM : Met l y (wz y bytes maxL ret) rm (va_Pc (.ref b :: As) (zW D H.size WS)) (va_Qv post (fun u t => zB D (va_A WS H.size) (W' u) t) (va_A WS H.size)) mc ms (va_A WS H.size)) (hT : GoodIn lw_gd (wsV own idx C y (wz y bytes maxL ret))) (hrc : rm.cells = mc) (hrs : rm.slots = ms)
    (hd : y.cls = C ∧ y.cls ≠ "java/lang/invoke/MethodHandle" ∧ y.cls ≠ "java/lang/invoke/VarHandle" ∧ (parseMethodDescriptor y.desc).map (fun d => d.parameters.length) = some n) (hR : rm.frames + 1 ≤ R.frames ∧ 8 + (maxL + 11) + rm.locals ≤ R.locals)
    (hK : va_K D vwCl (TY D) s) (hP : va_P D vwCl ws H) (hD : va_D A ws) (hS : va_S A H0 H locs) (hA : ∀ q : Nat, H0.size ≤ q → A q) (is ir : List Nat) (hs : is.map (fun i => ws[i]?) = WS.map some) (hr : ir.map (fun i => ws[i]?) = wr.map some) (hni : va_nd is = true) (hnr : va_nd ir = true) (hdis : ∀ i ∈ ir, i ∉ is) {ci : Nat} {fs : List Value} {q : vw_C} (q0 : Nat) (he : WS[q0]? = some (b, .inr (ci, fs))) (hc : vwCl[ci]? = some q) (hq : q.1 = C)
    (hn : As.length = n) (hsize : ls.size = nL) (hst : st0 = As.reverse ++ .ref b :: rest) (hW : (rest.map fun v => v.category).sum ≤ 8) (hdg : decode cc pc = .ok (.invokevirtual idx, 3)) (hf : cells + mc ≤ R.cells ∧ slots + ms ≤ R.slots)
    (kk : ∀ (u : Sg) (H : Heap) (locs : List Loc), post u → va_P D vwCl (wr ++ W' u) H → va_D A (wr ++ W' u) → va_S A H0 H locs → W p l e R s m args below meth c H locs (cells + mc) (slots + ms) Q (F0 m (pc + 3) ls rest)) : W p l e R s m args below meth c H locs cells slots Q (F0 m pc ls st0) := by
  subst hq
  have hPc : va_P D vwCl WS H := hP.sub is (z_fm hs)
  have hDc : va_D A WS := hD.sub is hni hs
  have hFc := va_free (wc := WS) hD hS hA is hs
  refine va_callv (va_runV (g := F0 m pc ls st0) (b := b) (As := As) (rest := rest) (Pc := va_Pc (.ref b :: As) (zW D H.size WS)) S hM (cwV n S.2.2.2.2 hT rfl hrc hrs hd hR) ⟨zWb _ D _ WS, va_recv hK hPc hc he, fun U hU hW => ⟨rfl, by rw [hU], by rw [hU]; exact hPc, va_K.moved hW.alike hK, hDc.weaken (fun _ _ _ _ => trivial)⟩⟩ rfl hn hsize hst (lv_room hW) hdg hf) hS (fun q _ h => hFc q h) hFc (fun u t H1 locs1 ht hvm hw hB hz1 hk1 hS1 => ?_)
  obtain ⟨hP1, hK1, hD1⟩ := hB
  rw [ht] at hP1
  obtain ⟨hP2, hD2⟩ := va_join (wr := wr) (w1 := W' u) hP hD is ir hs hr hnr hdis hk1 hFc hP1 hD1
  exact kk u H1 locs1 hw hP2 hD2 hS1
/-- a constructor -/
theorem zwI {Sg : Type} {post : Sg → Prop} {W' : Sg → va_W} (S : CallFix p m c cc nL s args lw_gd own) (hM : Met l y (wz y bytes maxL none) rm (va_Pc (.ref b :: As) (zW D H.size WS)) (va_Qv post (fun u t => zB D (va_A WS H.size) (W' u) t) (va_A WS H.size)) mc ms (va_A WS H.size)) (hcm : Cond.code y bytes maxL none ∈ lw_gd) (hrc : rm.cells = mc) (hrs : rm.slots = ms) (hini : Cond.initialized y.cls ∈ lw_gd) (hli : Cond.methodLink own idx y ∈ lw_gd) (him : Cond.instanceMethod y ∈ lw_gd) (hy1 : y.name = "<init>")
    (hd : y.cls ≠ "java/lang/invoke/MethodHandle" ∧ y.cls ≠ "java/lang/invoke/VarHandle" ∧ (parseMethodDescriptor y.desc).map (fun d => d.parameters.length) = some n) (hR : rm.frames + 1 ≤ R.frames ∧ 8 + (maxL + 11) + rm.locals ≤ R.locals)
    (hK : va_K D vwCl (TY D) s) (hP : va_P D vwCl ws H) (hD : va_D A ws) (hS : va_S A H0 H locs) (hA : ∀ q : Nat, H0.size ≤ q → A q) (is ir : List Nat) (hs : is.map (fun i => ws[i]?) = WS.map some) (hr : ir.map (fun i => ws[i]?) = wr.map some) (hni : va_nd is = true) (hnr : va_nd ir = true) (hdis : ∀ i ∈ ir, i ∉ is)
    (hn : As.length = n) (hsize : ls.size = nL) (hst : st0 = As.reverse ++ .ref b :: rest) (hW : (rest.map fun v => v.category).sum ≤ 8) (hdg : decode cc pc = .ok (.invokespecial idx, 3)) (hf : cells + mc ≤ R.cells ∧ slots + ms ≤ R.slots)
    (kk : ∀ (u : Sg) (H : Heap) (locs : List Loc), post u → va_P D vwCl (wr ++ W' u) H → va_D A (wr ++ W' u) → va_S A H0 H locs → W p l e R s m args below meth c H locs (cells + mc) (slots + ms) Q (F0 m (pc + 3) ls rest)) : W p l e R s m args below meth c H locs cells slots Q (F0 m pc ls st0) := by
  have ht := S.2.2.2.2
  have hPc : va_P D vwCl WS H := hP.sub is (z_fm hs)
  have hDc : va_D A WS := hD.sub is hni hs
  have hFc := va_free (wc := WS) hD hS hA is hs
  refine va_callv (va_runI (g := F0 m pc ls st0) (b := b) (As := As) (rest := rest) (Pc := va_Pc (.ref b :: As) (zW D H.size WS)) S hM (cwI n ht (zG hcm) rfl hrc hrs (ht _ hini) (ht _ hli) (ht _ him) hy1 hd hR) ⟨zWb _ D _ WS, fun U hU hW => ⟨rfl, by rw [hU], by rw [hU]; exact hPc, va_K.moved hW.alike hK, hDc.weaken (fun _ _ _ _ => trivial)⟩⟩ rfl hn hsize hst (lv_room hW) hdg hf) hS (fun q _ h => hFc q h) hFc (fun u t H1 locs1 ht hvm hw hB hz1 hk1 hS1 => ?_)
  obtain ⟨hP1, hK1, hD1⟩ := hB
  rw [ht] at hP1
  obtain ⟨hP2, hD2⟩ := va_join (wr := wr) (w1 := W' u) hP hD is ir hs hr hnr hdis hk1 hFc hP1 hD1
  exact kk u H1 locs1 hw hP2 hD2 hS1
end ZC
/-! ===== numbers ===== -/
theorem z_lt {x y : Int32} {a b : Int} (hx : x.toInt = a) (hy : y.toInt = b) (h : x < y) : a < b := by rw [← hx, ← hy]; exact Int32.lt_iff_toInt_lt.mp h
theorem z_le {x y : Int32} {a b : Int} (hx : x.toInt = a) (hy : y.toInt = b) (h : x ≤ y) : a ≤ b := by rw [← hx, ← hy]; exact Int32.le_iff_toInt_le.mp h
theorem z_nlt {x y : Int32} {a b : Int} (hx : x.toInt = a) (hy : y.toInt = b) (h : ¬ x < y) : b ≤ a := by rw [← hx, ← hy]; exact Int.not_lt.mp (fun q => h (Int32.lt_iff_toInt_lt.mpr q))
theorem z_nle {x y : Int32} {a b : Int} (hx : x.toInt = a) (hy : y.toInt = b) (h : ¬ x ≤ y) : b < a := by rw [← hx, ← hy]; exact Int.not_le.mp (fun q => h (Int32.le_iff_toInt_le.mpr q))
theorem z_eq {x y : Int32} {a b : Int} (hx : x.toInt = a) (hy : y.toInt = b) (h : x = y) : a = b := by rw [← hx, ← hy, h]
theorem z_ne {x y : Int32} {a b : Int} (hx : x.toInt = a) (hy : y.toInt = b) (h : ¬ x = y) : ¬ a = b := by rw [← hx, ← hy]; exact fun q => h (Int32.toInt_inj.mp q)
theorem zt_lt {X Y a b : Int} (hx : X = a) (hy : Y = b) (h : X < Y) : a < b := by rw [← hx, ← hy]; exact h
theorem zt_gt {X Y a b : Int} (hx : X = a) (hy : Y = b) (h : Y < X) : b < a := by rw [← hx, ← hy]; exact h
theorem zt_le {X Y a b : Int} (hx : X = a) (hy : Y = b) (h : X ≤ Y) : a ≤ b := by rw [← hx, ← hy]; exact h
theorem zt_ge {X Y a b : Int} (hx : X = a) (hy : Y = b) (h : Y ≤ X) : b ≤ a := by rw [← hx, ← hy]; exact h
theorem zt_eq {X Y a b : Int} (hx : X = a) (hy : Y = b) (h : X = Y) : a = b := by rw [← hx, ← hy]; exact h
theorem zt_ne {X Y a b : Int} (hx : X = a) (hy : Y = b) (h : ¬ X = Y) : ¬ a = b := by rw [← hx, ← hy]; exact h
theorem zu_lt {X Y a b : Int} (hx : X = a) (hy : Y = b) (h : a < b) : X < Y := by rw [hx, hy]; exact h
theorem zu_gt {X Y a b : Int} (hx : X = a) (hy : Y = b) (h : b < a) : Y < X := by rw [hx, hy]; exact h
theorem zu_le {X Y a b : Int} (hx : X = a) (hy : Y = b) (h : a ≤ b) : X ≤ Y := by rw [hx, hy]; exact h
theorem zu_ge {X Y a b : Int} (hx : X = a) (hy : Y = b) (h : b ≤ a) : Y ≤ X := by rw [hx, hy]; exact h
theorem zu_eq {X Y a b : Int} (hx : X = a) (hy : Y = b) (h : a = b) : X = Y := by rw [hx, hy]; exact h
theorem zu_ne {X Y a b : Int} (hx : X = a) (hy : Y = b) (h : ¬ a = b) : ¬ X = Y := by rw [hx, hy]; exact h
theorem zc_lt {x y : Int64} {a b : Int} (hx : x.toInt = a) (hy : y.toInt = b) (h : lg_cmp x y < 0) : a < b := by rw [← hx, ← hy]; exact Int64.lt_iff_toInt_lt.mp ((lg_cmp_lt x y).mp h)
theorem zc_lt_n {x y : Int64} {a b : Int} (hx : x.toInt = a) (hy : y.toInt = b) (h : ¬ lg_cmp x y < 0) : b ≤ a := by rw [← hx, ← hy]; exact Int.not_lt.mp (fun q => h ((lg_cmp_lt x y).mpr (Int64.lt_iff_toInt_lt.mpr q)))
theorem zc_ge {x y : Int64} {a b : Int} (hx : x.toInt = a) (hy : y.toInt = b) (h : 0 ≤ lg_cmp x y) : b ≤ a := by rw [← hx, ← hy]; exact Int64.le_iff_toInt_le.mp ((lg_cmp_ge x y).mp h)
theorem zc_ge_n {x y : Int64} {a b : Int} (hx : x.toInt = a) (hy : y.toInt = b) (h : ¬ 0 ≤ lg_cmp x y) : a < b := by rw [← hx, ← hy]; exact Int.not_le.mp (fun q => h ((lg_cmp_ge x y).mpr (Int64.le_iff_toInt_le.mpr q)))
theorem zc_gt {x y : Int64} {a b : Int} (hx : x.toInt = a) (hy : y.toInt = b) (h : 0 < lg_cmp x y) : b < a := by rw [← hx, ← hy]; exact Int64.lt_iff_toInt_lt.mp ((lg_cmp_gt x y).mp h)
theorem zc_gt_n {x y : Int64} {a b : Int} (hx : x.toInt = a) (hy : y.toInt = b) (h : ¬ 0 < lg_cmp x y) : a ≤ b := by rw [← hx, ← hy]; exact Int.not_lt.mp (fun q => h ((lg_cmp_gt x y).mpr (Int64.lt_iff_toInt_lt.mpr q)))
theorem zc_le {x y : Int64} {a b : Int} (hx : x.toInt = a) (hy : y.toInt = b) (h : lg_cmp x y ≤ 0) : a ≤ b := by rw [← hx, ← hy]; exact Int64.le_iff_toInt_le.mp ((lg_cmp_le x y).mp h)
theorem zc_le_n {x y : Int64} {a b : Int} (hx : x.toInt = a) (hy : y.toInt = b) (h : ¬ lg_cmp x y ≤ 0) : b < a := by rw [← hx, ← hy]; exact Int.not_le.mp (fun q => h ((lg_cmp_le x y).mpr (Int64.le_iff_toInt_le.mpr q)))
theorem zc_eq {x y : Int64} {a b : Int} (hx : x.toInt = a) (hy : y.toInt = b) (h : lg_cmp x y = 0) : a = b := by rw [← hx, ← hy, (lg_cmp_eq x y).mp h]
theorem zc_eq_n {x y : Int64} {a b : Int} (hx : x.toInt = a) (hy : y.toInt = b) (h : ¬ lg_cmp x y = 0) : ¬ a = b := by rw [← hx, ← hy]; exact fun q => h ((lg_cmp_eq x y).mpr (Int64.toInt_inj.mp q))
theorem zc_ne {x y : Int64} {a b : Int} (hx : x.toInt = a) (hy : y.toInt = b) (h : ¬ lg_cmp x y = 0) : ¬ a = b := zc_eq_n hx hy h
theorem zc_ne_n {x y : Int64} {a b : Int} (hx : x.toInt = a) (hy : y.toInt = b) (h : lg_cmp x y = 0) : a = b := zc_eq hx hy h
theorem z_abs {P : Prop} (c : P) (h : ¬ P) : False := h c
theorem z_in {x : Int32} {n : Nat} (h1 : 0 ≤ x.toInt) (h2 : x.toInt < (n : Int)) : vp_in x n := by
  have h3 : ¬ x < 0 := fun q => by have := Int32.lt_iff_toInt_lt.mp q; have e : (0 : Int32).toInt = 0 := rfl; omega
  obtain ⟨j, hj, rfl⟩ := nI_of h3
  rw [nI_toInt hj] at h2
  exact fun q => q.elim h3 (fun q => by rw [nI_clamp hj] at q; omega)
theorem z_updc (c : Int32) (k : Nat) : upd (fun _ => c) k c = fun _ => c := by funext j; simp [upd]
theorem z_updLc (c : Int64) (k : Nat) : vp_updL (fun _ => c) k c = fun _ => c := by funext j; simp [vp_updL]
theorem z_updz (k : Nat) : upd (fun _ => 0) k (vp_nar .boolean 0) = fun _ => 0 := by
  rw [show vp_nar .boolean 0 = 0 from by decide]; exact z_updc 0 k
theorem z_cls_int {D : va_G} {s : State} {cA : ClassId} (h : va_K D vwCl (TY D) s) (h2 : va_K D vwCl (TY D ++ [(cA, .int)]) s) : cA = D.1 13 := Option.some.inj ((h2.2 5 _ rfl).2.symm.trans (h.2 0 _ rfl).2)
theorem z_cls_char {D : va_G} {s : State} {cA : ClassId} (h : va_K D vwCl (TY D) s) (h2 : va_K D vwCl (TY D ++ [(cA, .char)]) s) : cA = D.1 14 := Option.some.inj ((h2.2 5 _ rfl).2.symm.trans (h.2 1 _ rfl).2)
theorem z_cls_long {D : va_G} {s : State} {cA : ClassId} (h : va_K D vwCl (TY D) s) (h2 : va_K D vwCl (TY D ++ [(cA, .long)]) s) : cA = D.1 15 := Option.some.inj ((h2.2 5 _ rfl).2.symm.trans (h.2 2 _ rfl).2)
theorem z_cls_boolean {D : va_G} {s : State} {cA : ClassId} (h : va_K D vwCl (TY D) s) (h2 : va_K D vwCl (TY D ++ [(cA, .boolean)]) s) : cA = D.1 16 := Option.some.inj ((h2.2 5 _ rfl).2.symm.trans (h.2 3 _ rfl).2)
section ZT
variable {p : Program} {l : Launch} {e : Env} {R : Room} {s : State} {m : MethodId} {args : Array Value} {below : List Frame} {meth : Method} {c : Code} {H : Heap} {locs : List Loc} {cells slots : Nat} {Q : State → Prop} {pc : Nat} {ls : Array Slot} {rest : List Value}
theorem z_topi {x y : Int32} (h : x = y) (k : W p l e R s m args below meth c H locs cells slots Q (F0 m pc ls (.int y :: rest))) : W p l e R s m args below meth c H locs cells slots Q (F0 m pc ls (.int x :: rest)) := h ▸ k
theorem z_topl {x y : Int64} (h : x = y) (k : W p l e R s m args below meth c H locs cells slots Q (F0 m pc ls (.long y :: rest))) : W p l e R s m args below meth c H locs cells slots Q (F0 m pc ls (.long x :: rest)) := h ▸ k
end ZT
end
section
theorem fl_X8_30 : Cond.fieldLink RX8 30 "CloneVolumes$State" "roots" "[I" ∈ lw_gd := zm (List.mem_of_getElem? (i := 593) (by decide +kernel)) rfl
theorem fl_X8_40 : Cond.fieldLink RX8 40 "CloneVolumes$State" "blocks" "I" ∈ lw_gd := zm (List.mem_of_getElem? (i := 553) (by decide +kernel)) rfl
theorem fl_X11_60 : Cond.fieldLink RX11 60 "CloneVolumes" "refused" "[I" ∈ lw_gd := zm (List.mem_of_getElem? (i := 708) (by decide +kernel)) rfl
theorem cl_X12_441 : Cond.constantLong RX12 441 7 ∈ lw_gd := zm (List.mem_of_getElem? (i := 2250) (by decide +kernel)) rfl
theorem ml_X12_309 : Cond.methodLink RX12 309 yX12_isIn ∈ lw_gd := zm (List.mem_of_getElem? (i := 1934) (by decide +kernel)) rfl
theorem st_X12_isIn : Cond.static yX12_isIn ∈ lw_gd := zm (List.mem_of_getElem? (i := 1935) (by decide +kernel)) rfl
theorem in_X12 : Cond.initialized RX12 ∈ lw_gd := zm (List.mem_of_getElem? (i := 214) (by decide +kernel)) rfl
theorem co_X12_isIn : Cond.code yX12_isIn cX12_isIn 6 (some .boolean) ∈ lw_gd := zm (List.mem_of_getElem? (i := 1936) (by decide +kernel)) rfl
theorem fl_X12_406 : Cond.fieldLink RX12 406 "CloneVolumesModel" "isTold" "Z" ∈ lw_gd := zm (List.mem_of_getElem? (i := 1585) (by decide +kernel)) rfl
theorem cl_X12_590 : Cond.constantLong RX12 590 5 ∈ lw_gd := zm (List.mem_of_getElem? (i := 2271) (by decide +kernel)) rfl
theorem fl_X12_17 : Cond.fieldLink RX12 17 "CloneVolumesModel" "refused" "[I" ∈ lw_gd := zm (List.mem_of_getElem? (i := 1547) (by decide +kernel)) rfl
set_option maxRecDepth 20000 in
theorem inX11 : ∀ w ∈ u_ws RX11 TX11 13, w ∈ lw_gd := fun w h => zm ((goodIn_r (big := lw_tbl) (u_ws RX11 TX11 13) [713, 715, 717, 719, 721, 723, 725, 727, 729, 731, 733, 735, 737] (by decide +kernel) (by decide +kernel)) w h).1 (List.all_eq_true.mp (by decide +kernel : (u_ws RX11 TX11 13).all goodWord = true) w h)
set_option maxRecDepth 20000 in
theorem inX12 : ∀ w ∈ u_ws RX12 TX12 116, w ∈ lw_gd := fun w h => zm ((goodIn_r (big := lw_tbl) (u_ws RX12 TX12 116) [1654, 1656, 1658, 1660, 1662, 1664, 1666, 1668, 1670, 1672, 1674, 1676, 1678, 1680, 1682, 1684, 1686, 1688, 1690, 1692, 1694, 1696, 1698, 1700, 1702, 1704, 1706, 1708, 1710, 1712, 1714, 1716, 1718, 1720, 1722, 1724, 1726, 1728, 1730, 1732, 1734, 1736, 1738, 1740, 1742, 1744, 1746, 1748, 1750, 1752, 1754, 1756, 1758, 1760, 1762, 1764, 1766, 1768, 1770, 1772, 1774, 1776, 1778, 1780, 1782, 1784, 1786, 1788, 1790, 1792, 1794, 1796, 1798, 1800, 1802, 1804, 1806, 1808, 1810, 1812, 1814, 1816, 1818, 1820, 1822, 1824, 1826, 1828, 1830, 1832, 1834, 1836, 1838, 1840, 1842, 1844, 1846, 1848, 1850, 1852, 1854, 1856, 1858, 1860, 1862, 1864, 1866, 1868, 1870, 1872, 1874, 1876, 1878, 1880, 1882, 1884] (by decide +kernel) (by decide +kernel)) w h).1 (List.all_eq_true.mp (by decide +kernel : (u_ws RX12 TX12 116).all goodWord = true) w h)
set_option maxRecDepth 20000 in
theorem inX8 : ∀ w ∈ u_ws RX8 TX8 11, w ∈ lw_gd := fun w h => zm ((goodIn_r (big := lw_tbl) (u_ws RX8 TX8 11) [601, 603, 605, 607, 609, 611, 613, 615, 617, 619, 621] (by decide +kernel) (by decide +kernel)) w h).1 (List.all_eq_true.mp (by decide +kernel : (u_ws RX8 TX8 11).all goodWord = true) w h)
end
section
theorem dX11_status_0 : decode cX11_status 0 = .ok (.iload_n 1, 1) := by decide +kernel
theorem dX11_status_1 : decode cX11_status 1 = .ok (.ifCond .lt 18, 3) := by decide +kernel
theorem dX11_status_4 : decode cX11_status 4 = .ok (.iload_n 1, 1) := by decide +kernel
theorem dX11_status_5 : decode cX11_status 5 = .ok (.bipush 6, 2) := by decide +kernel
theorem dX11_status_7 : decode cX11_status 7 = .ok (.if_icmp .ge 12, 3) := by decide +kernel
theorem dX11_status_10 : decode cX11_status 10 = .ok (.aload_n 0, 1) := by decide +kernel
theorem dX11_status_11 : decode cX11_status 11 = .ok (.getfield 60, 3) := by decide +kernel
theorem dX11_status_14 : decode cX11_status 14 = .ok (.iload_n 1, 1) := by decide +kernel
theorem dX11_status_15 : decode cX11_status 15 = .ok (.iaload, 1) := by decide +kernel
theorem dX11_status_16 : decode cX11_status 16 = .ok (.goto 4, 3) := by decide +kernel
theorem dX11_status_19 : decode cX11_status 19 = .ok (.iconst (-1), 1) := by decide +kernel
theorem dX11_status_20 : decode cX11_status 20 = .ok (.ireturn, 1) := by decide +kernel
theorem dX12_isIn_0 : decode cX12_isIn 0 = .ok (.lload_n 0, 1) := by decide +kernel
theorem dX12_isIn_1 : decode cX12_isIn 1 = .ok (.lload_n 2, 1) := by decide +kernel
theorem dX12_isIn_2 : decode cX12_isIn 2 = .ok (.lcmp, 1) := by decide +kernel
theorem dX12_isIn_3 : decode cX12_isIn 3 = .ok (.ifCond .lt 14, 3) := by decide +kernel
theorem dX12_isIn_6 : decode cX12_isIn 6 = .ok (.lload_n 0, 1) := by decide +kernel
theorem dX12_isIn_7 : decode cX12_isIn 7 = .ok (.lload 4, 2) := by decide +kernel
theorem dX12_isIn_9 : decode cX12_isIn 9 = .ok (.lcmp, 1) := by decide +kernel
theorem dX12_isIn_10 : decode cX12_isIn 10 = .ok (.ifCond .gt 7, 3) := by decide +kernel
theorem dX12_isIn_13 : decode cX12_isIn 13 = .ok (.iconst 1, 1) := by decide +kernel
theorem dX12_isIn_14 : decode cX12_isIn 14 = .ok (.goto 4, 3) := by decide +kernel
theorem dX12_isIn_17 : decode cX12_isIn 17 = .ok (.iconst 0, 1) := by decide +kernel
theorem dX12_isIn_18 : decode cX12_isIn 18 = .ok (.ireturn, 1) := by decide +kernel
theorem dX12_isVolume_0 : decode cX12_isVolume 0 = .ok (.lload_n 1, 1) := by decide +kernel
theorem dX12_isVolume_1 : decode cX12_isVolume 1 = .ok (.lconst 0, 1) := by decide +kernel
theorem dX12_isVolume_2 : decode cX12_isVolume 2 = .ok (.ldc2_w 441, 3) := by decide +kernel
theorem dX12_isVolume_5 : decode cX12_isVolume 5 = .ok (.invokestatic 309, 3) := by decide +kernel
theorem dX12_isVolume_8 : decode cX12_isVolume 8 = .ok (.ifCond .eq 27, 3) := by decide +kernel
theorem dX12_isVolume_11 : decode cX12_isVolume 11 = .ok (.aload_n 0, 1) := by decide +kernel
theorem dX12_isVolume_12 : decode cX12_isVolume 12 = .ok (.getfield 406, 3) := by decide +kernel
theorem dX12_isVolume_15 : decode cX12_isVolume 15 = .ok (.ifCond .eq 20, 3) := by decide +kernel
theorem dX12_isVolume_35 : decode cX12_isVolume 35 = .ok (.iconst 0, 1) := by decide +kernel
theorem dX12_isVolume_36 : decode cX12_isVolume 36 = .ok (.ireturn, 1) := by decide +kernel
theorem dX12_status_0 : decode cX12_status 0 = .ok (.iload_n 1, 1) := by decide +kernel
theorem dX12_status_1 : decode cX12_status 1 = .ok (.i2l, 1) := by decide +kernel
theorem dX12_status_2 : decode cX12_status 2 = .ok (.lconst 0, 1) := by decide +kernel
theorem dX12_status_3 : decode cX12_status 3 = .ok (.ldc2_w 590, 3) := by decide +kernel
theorem dX12_status_6 : decode cX12_status 6 = .ok (.invokestatic 309, 3) := by decide +kernel
theorem dX12_status_9 : decode cX12_status 9 = .ok (.ifCond .eq 12, 3) := by decide +kernel
theorem dX12_status_12 : decode cX12_status 12 = .ok (.aload_n 0, 1) := by decide +kernel
theorem dX12_status_13 : decode cX12_status 13 = .ok (.getfield 17, 3) := by decide +kernel
theorem dX12_status_16 : decode cX12_status 16 = .ok (.iload_n 1, 1) := by decide +kernel
theorem dX12_status_17 : decode cX12_status 17 = .ok (.iaload, 1) := by decide +kernel
theorem dX12_status_18 : decode cX12_status 18 = .ok (.goto 4, 3) := by decide +kernel
theorem dX12_status_21 : decode cX12_status 21 = .ok (.iconst (-1), 1) := by decide +kernel
theorem dX12_status_22 : decode cX12_status 22 = .ok (.ireturn, 1) := by decide +kernel
theorem dX8_isBlock_0 : decode cX8_isBlock 0 = .ok (.iload_n 1, 1) := by decide +kernel
theorem dX8_isBlock_1 : decode cX8_isBlock 1 = .ok (.ifCond .lt 15, 3) := by decide +kernel
theorem dX8_isBlock_4 : decode cX8_isBlock 4 = .ok (.iload_n 1, 1) := by decide +kernel
theorem dX8_isBlock_5 : decode cX8_isBlock 5 = .ok (.aload_n 0, 1) := by decide +kernel
theorem dX8_isBlock_6 : decode cX8_isBlock 6 = .ok (.getfield 40, 3) := by decide +kernel
theorem dX8_isBlock_9 : decode cX8_isBlock 9 = .ok (.if_icmp .ge 7, 3) := by decide +kernel
theorem dX8_isBlock_16 : decode cX8_isBlock 16 = .ok (.iconst 0, 1) := by decide +kernel
theorem dX8_isBlock_17 : decode cX8_isBlock 17 = .ok (.ireturn, 1) := by decide +kernel
theorem dX8_isVolume_0 : decode cX8_isVolume 0 = .ok (.iload_n 1, 1) := by decide +kernel
theorem dX8_isVolume_1 : decode cX8_isVolume 1 = .ok (.ifCond .lt 24, 3) := by decide +kernel
theorem dX8_isVolume_4 : decode cX8_isVolume 4 = .ok (.iload_n 1, 1) := by decide +kernel
theorem dX8_isVolume_5 : decode cX8_isVolume 5 = .ok (.bipush 8, 2) := by decide +kernel
theorem dX8_isVolume_7 : decode cX8_isVolume 7 = .ok (.if_icmp .ge 18, 3) := by decide +kernel
theorem dX8_isVolume_10 : decode cX8_isVolume 10 = .ok (.aload_n 0, 1) := by decide +kernel
theorem dX8_isVolume_11 : decode cX8_isVolume 11 = .ok (.getfield 30, 3) := by decide +kernel
theorem dX8_isVolume_14 : decode cX8_isVolume 14 = .ok (.iload_n 1, 1) := by decide +kernel
theorem dX8_isVolume_15 : decode cX8_isVolume 15 = .ok (.iaload, 1) := by decide +kernel
theorem dX8_isVolume_16 : decode cX8_isVolume 16 = .ok (.bipush (-2), 2) := by decide +kernel
theorem dX8_isVolume_18 : decode cX8_isVolume 18 = .ok (.if_icmp .eq 7, 3) := by decide +kernel
theorem dX8_isVolume_25 : decode cX8_isVolume 25 = .ok (.iconst 0, 1) := by decide +kernel
theorem dX8_isVolume_26 : decode cX8_isVolume 26 = .ok (.ireturn, 1) := by decide +kernel
end
section
set_option maxHeartbeats 4000000 in
set_option maxRecDepth 100000 in
theorem k_X8_isVolume (l : Launch) (D : va_G) (a : Nat → Nat) (p0 : Int32) : Met l yX8_isVolume (wz yX8_isVolume cX8_isVolume 2 (some .boolean)) { frames := 0, cells := 0, slots := 0, locals := 0 } (va_Pc [.ref (a 13), .int p0] (zP D [((a 13), .inr (8, [.int 0, .int 0, .long 0, .ref (a 60), .ref (a 61), .ref (a 62), .ref (a 63), .ref (a 64), .ref (a 65), .ref (a 66), .ref (a 67)])), ((a 66), .inl (D.1 13, 8, .inl (fun _ => (-2))))])) (va_Qi (fun r (_ : Unit) => r = 0) (fun _ _ => True) (fun _ => False)) 0 0 (fun _ => False) := by
  refine Met.ofW (cc := cX8_isVolume) (maxL := 2) (ret := (some .boolean)) (by decide) rfl ?_
  intro p e s m args below meth c s₁ B hml hv
  obtain ⟨rfl, hP, hK⟩ := hv
  have hx := B.exec
  have hb := B.bytes
  have hr := B.returns
  have hts := atoms_spec (ws := wz yX8_isVolume cX8_isVolume 2 (some .boolean)) B.pre
  have ht : ∀ w ∈ lw_gd, w.before _ s = true := fun w h => hts w (List.mem_cons_of_mem _ h)
  have hown : s.vm.findClass RX8 = some m.cls := findClass_of_methodNamed B.named
  have hlocks := B.notSynchronized
  have hS : va_S (fun _ => False) s.heap s.heap [] := va_S.rf
  have hl := lv_entry ([.ref (a 13), .int p0]) (n := 2) (Nat.le_of_ble_eq_true rfl)
  rw [lg_entry_eq]
  generalize (lg_sl ([.ref (a 13), .int p0]) ++ List.replicate (2 - (lg_sl ([.ref (a 13), .int p0])).length) Slot.unset).toArray = ls at hl ⊢
  have hl : lv_has ls 2 [(0, .ref (a 13)), (1, .int p0)] := hl
  refine lv_iload_n hx hb dX8_isVolume_0 rfl (lv_at hl 1 rfl) ?_
  refine lv_if_lt (tgt := 25) hx hb dX8_isVolume_1 (by decide) (fun c_1 => ?_) (fun c_1 => ?_)
  · have g_2 : p0.toInt < 0 := z_lt rfl (by decide) c_1
    refine lv_iconst (v := 0) hx hb dX8_isVolume_25 (by decide) ?_
    exact W.zret (v := 0) hx hb hr (by decide) (fun t ht hW => ⟨⟨0, (), rfl, rfl, trivial⟩, hS.F ht⟩) hS.2.2 dX8_isVolume_26
  · have g_2 : 0 ≤ p0.toInt := z_nlt rfl (by decide) c_1
    refine lv_iload_n hx hb dX8_isVolume_4 rfl (lv_at hl 1 rfl) ?_
    refine lv_bipush (v := 8) hx hb dX8_isVolume_5 (by decide) ?_
    refine lv_icmp_ge (tgt := 25) hx hb dX8_isVolume_7 (by decide) (fun c_3 => ?_) (fun c_3 => ?_)
    · have g_4 : 8 ≤ p0.toInt := z_le (by decide) rfl c_3
      refine lv_iconst (v := 0) hx hb dX8_isVolume_25 (by decide) ?_
      exact W.zret (v := 0) hx hb hr (by decide) (fun t ht hW => ⟨⟨0, (), rfl, rfl, trivial⟩, hS.F ht⟩) hS.2.2 dX8_isVolume_26
    · have g_4 : p0.toInt < 8 := z_nle (by decide) rfl c_3
      refine lv_aload_n hx hb dX8_isVolume_10 rfl (lv_at hl 0 rfl) ?_
      refine va_get (D := D) (ci := 8) (v := .ref (a 66)) (C := RX8) (T := TX8) (N := 11) hx hb ht inX8 hown hK hP 0 rfl rfl 9 (by decide) (ht (.fieldLink RX8 30 "CloneVolumes$State" "roots" "[I") fl_X8_30) (fun _ h9 => h9) rfl dX8_isVolume_11 ?_
      refine lv_iload_n hx hb dX8_isVolume_14 rfl (lv_at hl 1 rfl) ?_
      refine va_iald hx hb hK hP 1 0 rfl rfl (z_in (by omega) (by omega)) dX8_isVolume_15 ?_
      refine z_topi (y := (-2)) (by decide) ?_
      refine lv_bipush (v := (-2)) hx hb dX8_isVolume_16 (by decide) ?_
      refine lv_icmp_eq (tgt := 25) hx hb dX8_isVolume_18 (by decide) (fun _ => ?_) (fun c_5 => (z_abs c_5 (by decide)).elim)
      refine lv_iconst (v := 0) hx hb dX8_isVolume_25 (by decide) ?_
      exact W.zret (v := 0) hx hb hr (by decide) (fun t ht hW => ⟨⟨0, (), rfl, rfl, trivial⟩, hS.F ht⟩) hS.2.2 dX8_isVolume_26
set_option maxHeartbeats 4000000 in
set_option maxRecDepth 100000 in
theorem k_X8_isBlock (l : Launch) (D : va_G) (a : Nat → Nat) (p0 : Int32) : Met l yX8_isBlock (wz yX8_isBlock cX8_isBlock 2 (some .boolean)) { frames := 0, cells := 0, slots := 0, locals := 0 } (va_Pc [.ref (a 13), .int p0] (zP D [((a 13), .inr (8, [.int 0, .int 0, .long 0, .ref (a 60), .ref (a 61), .ref (a 62), .ref (a 63), .ref (a 64), .ref (a 65), .ref (a 66), .ref (a 67)]))])) (va_Qi (fun r (_ : Unit) => r = 0) (fun _ _ => True) (fun _ => False)) 0 0 (fun _ => False) := by
  refine Met.ofW (cc := cX8_isBlock) (maxL := 2) (ret := (some .boolean)) (by decide) rfl ?_
  intro p e s m args below meth c s₁ B hml hv
  obtain ⟨rfl, hP, hK⟩ := hv
  have hx := B.exec
  have hb := B.bytes
  have hr := B.returns
  have hts := atoms_spec (ws := wz yX8_isBlock cX8_isBlock 2 (some .boolean)) B.pre
  have ht : ∀ w ∈ lw_gd, w.before _ s = true := fun w h => hts w (List.mem_cons_of_mem _ h)
  have hown : s.vm.findClass RX8 = some m.cls := findClass_of_methodNamed B.named
  have hlocks := B.notSynchronized
  have hS : va_S (fun _ => False) s.heap s.heap [] := va_S.rf
  have hl := lv_entry ([.ref (a 13), .int p0]) (n := 2) (Nat.le_of_ble_eq_true rfl)
  rw [lg_entry_eq]
  generalize (lg_sl ([.ref (a 13), .int p0]) ++ List.replicate (2 - (lg_sl ([.ref (a 13), .int p0])).length) Slot.unset).toArray = ls at hl ⊢
  have hl : lv_has ls 2 [(0, .ref (a 13)), (1, .int p0)] := hl
  refine lv_iload_n hx hb dX8_isBlock_0 rfl (lv_at hl 1 rfl) ?_
  refine lv_if_lt (tgt := 16) hx hb dX8_isBlock_1 (by decide) (fun c_1 => ?_) (fun c_1 => ?_)
  · have g_2 : p0.toInt < 0 := z_lt rfl (by decide) c_1
    refine lv_iconst (v := 0) hx hb dX8_isBlock_16 (by decide) ?_
    exact W.zret (v := 0) hx hb hr (by decide) (fun t ht hW => ⟨⟨0, (), rfl, rfl, trivial⟩, hS.F ht⟩) hS.2.2 dX8_isBlock_17
  · have g_2 : 0 ≤ p0.toInt := z_nlt rfl (by decide) c_1
    refine lv_iload_n hx hb dX8_isBlock_4 rfl (lv_at hl 1 rfl) ?_
    refine lv_aload_n hx hb dX8_isBlock_5 rfl (lv_at hl 0 rfl) ?_
    refine va_get (D := D) (ci := 8) (v := .int 0) (C := RX8) (T := TX8) (N := 11) hx hb ht inX8 hown hK hP 0 rfl rfl 0 (by decide) (ht (.fieldLink RX8 40 "CloneVolumes$State" "blocks" "I") fl_X8_40) (fun _ h9 => h9) rfl dX8_isBlock_6 ?_
    refine lv_icmp_ge (tgt := 16) hx hb dX8_isBlock_9 (by decide) (fun c_3 => ?_) (fun c_3 => ?_)
    · have g_4 : 0 ≤ p0.toInt := z_le (by decide) rfl c_3
      refine lv_iconst (v := 0) hx hb dX8_isBlock_16 (by decide) ?_
      exact W.zret (v := 0) hx hb hr (by decide) (fun t ht hW => ⟨⟨0, (), rfl, rfl, trivial⟩, hS.F ht⟩) hS.2.2 dX8_isBlock_17
    · exfalso
      have g_4 : p0.toInt < 0 := z_nle (by decide) rfl c_3
      omega
set_option maxHeartbeats 4000000 in
set_option maxRecDepth 100000 in
theorem k_X11_status (l : Launch) (D : va_G) (a : Nat → Nat) (p0 : Int32) : Met l yX11_status (wz yX11_status cX11_status 2 (some .int)) { frames := 0, cells := 0, slots := 0, locals := 0 } (va_Pc [.ref (a 0), .int p0] (zP D [((a 0), .inr (11, [.ref (a 1), .ref (a 2), .ref (a 3), .ref (a 4), .ref (a 5), .ref (a 6), .ref (a 7), .ref (a 8), .ref (a 9), .ref (a 10), .ref (a 11), .ref (a 12), .int 0])), ((a 9), .inl (D.1 13, 6, .inl (fun _ => 0)))])) (va_Qi (fun r (_ : Unit) => (r = (-1) ∧ p0.toInt < 0) ∨ (r = (-1) ∧ 0 ≤ p0.toInt ∧ 6 ≤ p0.toInt) ∨ (r = 0 ∧ 0 ≤ p0.toInt ∧ p0.toInt < 6)) (fun _ _ => True) (fun _ => False)) 0 0 (fun _ => False) := by
  refine Met.ofW (cc := cX11_status) (maxL := 2) (ret := (some .int)) (by decide) rfl ?_
  intro p e s m args below meth c s₁ B hml hv
  obtain ⟨rfl, hP, hK⟩ := hv
  have hx := B.exec
  have hb := B.bytes
  have hr := B.returns
  have hts := atoms_spec (ws := wz yX11_status cX11_status 2 (some .int)) B.pre
  have ht : ∀ w ∈ lw_gd, w.before _ s = true := fun w h => hts w (List.mem_cons_of_mem _ h)
  have hown : s.vm.findClass RX11 = some m.cls := findClass_of_methodNamed B.named
  have hlocks := B.notSynchronized
  have hS : va_S (fun _ => False) s.heap s.heap [] := va_S.rf
  have hl := lv_entry ([.ref (a 0), .int p0]) (n := 2) (Nat.le_of_ble_eq_true rfl)
  rw [lg_entry_eq]
  generalize (lg_sl ([.ref (a 0), .int p0]) ++ List.replicate (2 - (lg_sl ([.ref (a 0), .int p0])).length) Slot.unset).toArray = ls at hl ⊢
  have hl : lv_has ls 2 [(0, .ref (a 0)), (1, .int p0)] := hl
  refine lv_iload_n hx hb dX11_status_0 rfl (lv_at hl 1 rfl) ?_
  refine lv_if_lt (tgt := 19) hx hb dX11_status_1 (by decide) (fun c_1 => ?_) (fun c_1 => ?_)
  · have g_2 : p0.toInt < 0 := z_lt rfl (by decide) c_1
    refine lv_iconst (v := (-1)) hx hb dX11_status_19 (by decide) ?_
    exact W.iret (v := (-1)) hx hb hr (fun t ht hW => ⟨⟨(-1), (), rfl, Or.inl (⟨rfl, zu_lt rfl (by decide) g_2⟩), trivial⟩, hS.F ht⟩) hS.2.2 dX11_status_20
  · have g_2 : 0 ≤ p0.toInt := z_nlt rfl (by decide) c_1
    refine lv_iload_n hx hb dX11_status_4 rfl (lv_at hl 1 rfl) ?_
    refine lv_bipush (v := 6) hx hb dX11_status_5 (by decide) ?_
    refine lv_icmp_ge (tgt := 19) hx hb dX11_status_7 (by decide) (fun c_3 => ?_) (fun c_3 => ?_)
    · have g_4 : 6 ≤ p0.toInt := z_le (by decide) rfl c_3
      refine lv_iconst (v := (-1)) hx hb dX11_status_19 (by decide) ?_
      exact W.iret (v := (-1)) hx hb hr (fun t ht hW => ⟨⟨(-1), (), rfl, Or.inr (Or.inl (⟨rfl, zu_ge rfl (by decide) g_2, zu_ge rfl (by decide) g_4⟩)), trivial⟩, hS.F ht⟩) hS.2.2 dX11_status_20
    · have g_4 : p0.toInt < 6 := z_nle (by decide) rfl c_3
      refine lv_aload_n hx hb dX11_status_10 rfl (lv_at hl 0 rfl) ?_
      refine va_get (D := D) (ci := 11) (v := .ref (a 9)) (C := RX11) (T := TX11) (N := 13) hx hb ht inX11 hown hK hP 0 rfl rfl 8 (by decide) (ht (.fieldLink RX11 60 "CloneVolumes" "refused" "[I") fl_X11_60) (fun _ h9 => h9) rfl dX11_status_11 ?_
      refine lv_iload_n hx hb dX11_status_14 rfl (lv_at hl 1 rfl) ?_
      refine va_iald hx hb hK hP 1 0 rfl rfl (z_in (by omega) (by omega)) dX11_status_15 ?_
      refine z_topi (y := 0) (by decide) ?_
      refine lv_goto (tgt := 20) hx hb dX11_status_16 (by decide) ?_
      exact W.iret (v := 0) hx hb hr (fun t ht hW => ⟨⟨0, (), rfl, Or.inr (Or.inr (⟨rfl, zu_ge rfl (by decide) g_2, zu_lt rfl (by decide) g_4⟩)), trivial⟩, hS.F ht⟩) hS.2.2 dX11_status_20
end
section
set_option maxHeartbeats 4000000 in
set_option maxRecDepth 100000 in
theorem k_X12_isIn (l : Launch) (D : va_G) (p0 p1 p2 : Int64) : Met l yX12_isIn (wz yX12_isIn cX12_isIn 6 (some .boolean)) { frames := 0, cells := 0, slots := 0, locals := 0 } (va_Pc [.long p0, .long p1, .long p2] (zP D [])) (va_Qi (fun r (_ : Unit) => (r = 0 ∧ p0.toInt < p1.toInt) ∨ (r = 0 ∧ p1.toInt ≤ p0.toInt ∧ p2.toInt < p0.toInt) ∨ (r = 1 ∧ p1.toInt ≤ p0.toInt ∧ p0.toInt ≤ p2.toInt)) (fun _ _ => True) (fun _ => False)) 0 0 (fun _ => False) := by
  refine Met.ofW (cc := cX12_isIn) (maxL := 6) (ret := (some .boolean)) (by decide) rfl ?_
  intro p e s m args below meth c s₁ B hml hv
  obtain ⟨rfl, hP, hK⟩ := hv
  have hx := B.exec
  have hb := B.bytes
  have hr := B.returns
  have hts := atoms_spec (ws := wz yX12_isIn cX12_isIn 6 (some .boolean)) B.pre
  have ht : ∀ w ∈ lw_gd, w.before _ s = true := fun w h => hts w (List.mem_cons_of_mem _ h)
  have hown : s.vm.findClass RX12 = some m.cls := findClass_of_methodNamed B.named
  have hlocks := B.notSynchronized
  have hS : va_S (fun _ => False) s.heap s.heap [] := va_S.rf
  have hl := lv_entry ([.long p0, .long p1, .long p2]) (n := 6) (Nat.le_of_ble_eq_true rfl)
  rw [lg_entry_eq]
  generalize (lg_sl ([.long p0, .long p1, .long p2]) ++ List.replicate (6 - (lg_sl ([.long p0, .long p1, .long p2])).length) Slot.unset).toArray = ls at hl ⊢
  have hl : lv_has ls 6 [(0, .long p0), (2, .long p1), (4, .long p2)] := hl
  refine lv_lload_n hx hb dX12_isIn_0 rfl (lv_at hl 0 rfl) ?_
  refine lv_lload_n hx hb dX12_isIn_1 rfl (lv_at hl 1 rfl) ?_
  refine W.lcmp hx hb dX12_isIn_2 ?_
  refine lv_if_lt (tgt := 17) hx hb dX12_isIn_3 (by decide) (fun c_1 => ?_) (fun c_1 => ?_)
  · have g_2 : p0.toInt < p1.toInt := zc_lt rfl rfl c_1
    refine lv_iconst (v := 0) hx hb dX12_isIn_17 (by decide) ?_
    exact W.zret (v := 0) hx hb hr (by decide) (fun t ht hW => ⟨⟨0, (), rfl, Or.inl (⟨rfl, zu_lt rfl rfl g_2⟩), trivial⟩, hS.F ht⟩) hS.2.2 dX12_isIn_18
  · have g_2 : p1.toInt ≤ p0.toInt := zc_lt_n rfl rfl c_1
    refine lv_lload_n hx hb dX12_isIn_6 rfl (lv_at hl 0 rfl) ?_
    refine lv_lload hx hb dX12_isIn_7 (lv_at hl 2 rfl) ?_
    refine W.lcmp hx hb dX12_isIn_9 ?_
    refine lv_if_gt (tgt := 17) hx hb dX12_isIn_10 (by decide) (fun c_3 => ?_) (fun c_3 => ?_)
    · have g_4 : p2.toInt < p0.toInt := zc_gt rfl rfl c_3
      refine lv_iconst (v := 0) hx hb dX12_isIn_17 (by decide) ?_
      exact W.zret (v := 0) hx hb hr (by decide) (fun t ht hW => ⟨⟨0, (), rfl, Or.inr (Or.inl (⟨rfl, zu_ge rfl rfl g_2, zu_gt rfl rfl g_4⟩)), trivial⟩, hS.F ht⟩) hS.2.2 dX12_isIn_18
    · have g_4 : p0.toInt ≤ p2.toInt := zc_gt_n rfl rfl c_3
      refine lv_iconst (v := 1) hx hb dX12_isIn_13 (by decide) ?_
      refine lv_goto (tgt := 18) hx hb dX12_isIn_14 (by decide) ?_
      exact W.zret (v := 1) hx hb hr (by decide) (fun t ht hW => ⟨⟨1, (), rfl, Or.inr (Or.inr (⟨rfl, zu_ge rfl rfl g_2, zu_le rfl rfl g_4⟩)), trivial⟩, hS.F ht⟩) hS.2.2 dX12_isIn_18
set_option maxHeartbeats 4000000 in
set_option maxRecDepth 100000 in
theorem k_X12_isVolume (l : Launch) (D : va_G) (a : Nat → Nat) (p0 : Int64) : Met l yX12_isVolume (wz yX12_isVolume cX12_isVolume 3 (some .boolean)) { frames := 1, cells := 0, slots := 0, locals := 60 } (va_Pc [.ref (a 200), .long p0] (zP D [((a 200), .inr (12, [.ref (a 0), .int 0, .int 0, .int 0, .int 0, .int 0, .int 0, .int 0, .int (-1), .ref (a 9), .int 0, .ref (a 11), .ref (a 12), .ref (a 13), .ref (a 14), .ref (a 15), .ref (a 16), .ref (a 17), .ref (a 18), .ref (a 19), .ref (a 20), .ref (a 21), .ref (a 22), .ref (a 23), .ref (a 24), .ref (a 25), .ref (a 26), .ref (a 27), .ref (a 28), .ref (a 29), .ref (a 30), .ref (a 31), .ref (a 32), .ref (a 33), .ref (a 34), .ref (a 35), .ref (a 36), .ref (a 37), .int 0, .ref (a 39), .ref (a 40), .ref (a 41), .ref (a 42), .ref (a 43), .ref (a 44), .int 0, .int 0, .int 0, .int 0, .ref (a 49), .int 0, .int 0, .int 0, .int 0, .ref (a 54), .int 0, .ref (a 56), .ref (a 57), .ref (a 58), .ref (a 59), .ref (a 60), .ref (a 61), .ref (a 62), .ref (a 63), .ref (a 64), .ref (a 65), .ref (a 66), .int 0, .int 0, .ref (a 69), .int 0, .int 0, .ref (a 72), .int 0, .ref (a 74), .ref (a 75), .int 0, .int 0, .long 1, .ref (a 79), .ref (a 80), .ref (a 81), .ref (a 82), .ref (a 83), .ref (a 84), .ref (a 85), .ref (a 86), .ref (a 87), .ref (a 88), .ref (a 89), .ref (a 90), .ref (a 91), .ref (a 92), .ref (a 93), .ref (a 94), .ref (a 95), .ref (a 96), .ref (a 97), .ref (a 98), .ref (a 99), .ref (a 100), .ref (a 101), .int 0, .ref (a 103), .int 0, .int 0, .int 0, .ref (a 107), .int 0, .long 0, .int 0, .ref (a 111), .int 0, .ref (a 113), .int 0, .ref (a 115)])), ((a 49), .inl (D.1 13, 906, .inl (fun _ => 0)))])) (va_Qi (fun r (_ : Unit) => r = 0) (fun _ _ => True) (fun _ => False)) 0 0 (fun _ => False) := by
  refine Met.ofW (cc := cX12_isVolume) (maxL := 3) (ret := (some .boolean)) (by decide) rfl ?_
  intro p e s m args below meth c s₁ B hml hv
  obtain ⟨rfl, hP, hK⟩ := hv
  have hx := B.exec
  have hb := B.bytes
  have hr := B.returns
  have hts := atoms_spec (ws := wz yX12_isVolume cX12_isVolume 3 (some .boolean)) B.pre
  have ht : ∀ w ∈ lw_gd, w.before _ s = true := fun w h => hts w (List.mem_cons_of_mem _ h)
  have hown : s.vm.findClass RX12 = some m.cls := findClass_of_methodNamed B.named
  have hlocks := B.notSynchronized
  have hS : va_S (fun _ => False) s.heap s.heap [] := va_S.rf
  have hl := lv_entry ([.ref (a 200), .long p0]) (n := 3) (Nat.le_of_ble_eq_true rfl)
  rw [lg_entry_eq]
  generalize (lg_sl ([.ref (a 200), .long p0]) ++ List.replicate (3 - (lg_sl ([.ref (a 200), .long p0])).length) Slot.unset).toArray = ls at hl ⊢
  have hl : lv_has ls 3 [(0, .ref (a 200)), (1, .long p0)] := hl
  refine lv_lload_n hx hb dX12_isVolume_0 rfl (lv_at hl 1 rfl) ?_
  refine lv_lconst (v := 0) hx hb dX12_isVolume_1 (by decide) ?_
  refine lv_ldc2 (own := RX12) (v := 7) hx hb hown (ht _ cl_X12_441) dX12_isVolume_2 ?_
  refine zcS (As := [.long p0, .long 0, .long 7]) (rest := []) (n := 3) ⟨hx, hb, hml, hown, ht⟩ (k_X12_isIn l D p0 0 7) (zgT ml_X12_309 st_X12_isIn in_X12 co_X12_isIn) rfl rfl (by decide +kernel) ⟨Nat.le_of_ble_eq_true rfl, Nat.le_of_ble_eq_true rfl⟩ hK hP hS [] rfl rfl hl.1 rfl (by decide) dX12_isVolume_5 ⟨Nat.le_of_ble_eq_true rfl, Nat.le_of_ble_eq_true rfl⟩ (fun r_1 H locs hw hP hS => ?_)
  rcases hw with ⟨rfl, g_2⟩ | ⟨rfl, g_3, g_4⟩ | ⟨rfl, g_5, g_6⟩
  · skip
    have g_2 : p0.toInt < 0 := zt_lt rfl (by decide) g_2
    refine lv_if_eq (tgt := 35) hx hb dX12_isVolume_8 (by decide) (fun _ => ?_) (fun c_7 => (z_abs c_7 (by decide)).elim)
    refine lv_iconst (v := 0) hx hb dX12_isVolume_35 (by decide) ?_
    exact W.zret (v := 0) hx hb hr (by decide) (fun t ht hW => ⟨⟨0, (), rfl, rfl, trivial⟩, hS.F ht⟩) hS.2.2 dX12_isVolume_36
  · skip
    have g_3 : 0 ≤ p0.toInt := zt_ge rfl (by decide) g_3
    have g_4 : 7 < p0.toInt := zt_gt rfl (by decide) g_4
    refine lv_if_eq (tgt := 35) hx hb dX12_isVolume_8 (by decide) (fun _ => ?_) (fun c_9 => (z_abs c_9 (by decide)).elim)
    refine lv_iconst (v := 0) hx hb dX12_isVolume_35 (by decide) ?_
    exact W.zret (v := 0) hx hb hr (by decide) (fun t ht hW => ⟨⟨0, (), rfl, rfl, trivial⟩, hS.F ht⟩) hS.2.2 dX12_isVolume_36
  · skip
    have g_5 : 0 ≤ p0.toInt := zt_ge rfl (by decide) g_5
    have g_6 : p0.toInt ≤ 7 := zt_le rfl (by decide) g_6
    refine lv_if_eq (tgt := 35) hx hb dX12_isVolume_8 (by decide) (fun c_11 => (z_abs c_11 (by decide)).elim) (fun _ => ?_)
    refine lv_aload_n hx hb dX12_isVolume_11 rfl (lv_at hl 0 rfl) ?_
    refine va_get (D := D) (ci := 12) (v := .int 0) (C := RX12) (T := TX12) (N := 116) hx hb ht inX12 hown hK hP 0 rfl rfl 47 (by decide) (ht (.fieldLink RX12 406 "CloneVolumesModel" "isTold" "Z") fl_X12_406) (fun _ h9 => h9) rfl dX12_isVolume_12 ?_
    refine lv_if_eq (tgt := 35) hx hb dX12_isVolume_15 (by decide) (fun _ => ?_) (fun c_13 => (z_abs c_13 (by decide)).elim)
    refine lv_iconst (v := 0) hx hb dX12_isVolume_35 (by decide) ?_
    exact W.zret (v := 0) hx hb hr (by decide) (fun t ht hW => ⟨⟨0, (), rfl, rfl, trivial⟩, hS.F ht⟩) hS.2.2 dX12_isVolume_36
set_option maxHeartbeats 4000000 in
set_option maxRecDepth 100000 in
theorem k_X12_status (l : Launch) (D : va_G) (a : Nat → Nat) (p0 : Int32) : Met l yX12_status (wz yX12_status cX12_status 2 (some .int)) { frames := 1, cells := 0, slots := 0, locals := 60 } (va_Pc [.ref (a 200), .int p0] (zP D [((a 200), .inr (12, [.ref (a 0), .int 0, .int 0, .int 0, .int 0, .int 0, .int 0, .int 0, .int (-1), .ref (a 9), .int 0, .ref (a 11), .ref (a 12), .ref (a 13), .ref (a 14), .ref (a 15), .ref (a 16), .ref (a 17), .ref (a 18), .ref (a 19), .ref (a 20), .ref (a 21), .ref (a 22), .ref (a 23), .ref (a 24), .ref (a 25), .ref (a 26), .ref (a 27), .ref (a 28), .ref (a 29), .ref (a 30), .ref (a 31), .ref (a 32), .ref (a 33), .ref (a 34), .ref (a 35), .ref (a 36), .ref (a 37), .int 0, .ref (a 39), .ref (a 40), .ref (a 41), .ref (a 42), .ref (a 43), .ref (a 44), .int 0, .int 0, .int 0, .int 0, .ref (a 49), .int 0, .int 0, .int 0, .int 0, .ref (a 54), .int 0, .ref (a 56), .ref (a 57), .ref (a 58), .ref (a 59), .ref (a 60), .ref (a 61), .ref (a 62), .ref (a 63), .ref (a 64), .ref (a 65), .ref (a 66), .int 0, .int 0, .ref (a 69), .int 0, .int 0, .ref (a 72), .int 0, .ref (a 74), .ref (a 75), .int 0, .int 0, .long 1, .ref (a 79), .ref (a 80), .ref (a 81), .ref (a 82), .ref (a 83), .ref (a 84), .ref (a 85), .ref (a 86), .ref (a 87), .ref (a 88), .ref (a 89), .ref (a 90), .ref (a 91), .ref (a 92), .ref (a 93), .ref (a 94), .ref (a 95), .ref (a 96), .ref (a 97), .ref (a 98), .ref (a 99), .ref (a 100), .ref (a 101), .int 0, .ref (a 103), .int 0, .int 0, .int 0, .ref (a 107), .int 0, .long 0, .int 0, .ref (a 111), .int 0, .ref (a 113), .int 0, .ref (a 115)])), ((a 9), .inl (D.1 13, 6, .inl (fun _ => 0)))])) (va_Qi (fun r (_ : Unit) => (r = (-1) ∧ p0.toInt64.toInt < 0) ∨ (r = (-1) ∧ 0 ≤ p0.toInt64.toInt ∧ 5 < p0.toInt64.toInt) ∨ (r = 0 ∧ 0 ≤ p0.toInt64.toInt ∧ p0.toInt64.toInt ≤ 5)) (fun _ _ => True) (fun _ => False)) 0 0 (fun _ => False) := by
  refine Met.ofW (cc := cX12_status) (maxL := 2) (ret := (some .int)) (by decide) rfl ?_
  intro p e s m args below meth c s₁ B hml hv
  obtain ⟨rfl, hP, hK⟩ := hv
  have hx := B.exec
  have hb := B.bytes
  have hr := B.returns
  have hts := atoms_spec (ws := wz yX12_status cX12_status 2 (some .int)) B.pre
  have ht : ∀ w ∈ lw_gd, w.before _ s = true := fun w h => hts w (List.mem_cons_of_mem _ h)
  have hown : s.vm.findClass RX12 = some m.cls := findClass_of_methodNamed B.named
  have hlocks := B.notSynchronized
  have hS : va_S (fun _ => False) s.heap s.heap [] := va_S.rf
  have hl := lv_entry ([.ref (a 200), .int p0]) (n := 2) (Nat.le_of_ble_eq_true rfl)
  rw [lg_entry_eq]
  generalize (lg_sl ([.ref (a 200), .int p0]) ++ List.replicate (2 - (lg_sl ([.ref (a 200), .int p0])).length) Slot.unset).toArray = ls at hl ⊢
  have hl : lv_has ls 2 [(0, .ref (a 200)), (1, .int p0)] := hl
  refine lv_iload_n hx hb dX12_status_0 rfl (lv_at hl 1 rfl) ?_
  refine lv_i2l (v := p0.toInt64) hx hb dX12_status_1 rfl ?_
  refine lv_lconst (v := 0) hx hb dX12_status_2 (by decide) ?_
  refine lv_ldc2 (own := RX12) (v := 5) hx hb hown (ht _ cl_X12_590) dX12_status_3 ?_
  refine zcS (As := [.long p0.toInt64, .long 0, .long 5]) (rest := []) (n := 3) ⟨hx, hb, hml, hown, ht⟩ (k_X12_isIn l D p0.toInt64 0 5) (zgT ml_X12_309 st_X12_isIn in_X12 co_X12_isIn) rfl rfl (by decide +kernel) ⟨Nat.le_of_ble_eq_true rfl, Nat.le_of_ble_eq_true rfl⟩ hK hP hS [] rfl rfl hl.1 rfl (by decide) dX12_status_6 ⟨Nat.le_of_ble_eq_true rfl, Nat.le_of_ble_eq_true rfl⟩ (fun r_1 H locs hw hP hS => ?_)
  rcases hw with ⟨rfl, g_2⟩ | ⟨rfl, g_3, g_4⟩ | ⟨rfl, g_5, g_6⟩
  · skip
    have g_2 : p0.toInt < 0 := zt_lt (Int32.toInt_toInt64 _) (by decide) g_2
    refine lv_if_eq (tgt := 21) hx hb dX12_status_9 (by decide) (fun _ => ?_) (fun c_7 => (z_abs c_7 (by decide)).elim)
    refine lv_iconst (v := (-1)) hx hb dX12_status_21 (by decide) ?_
    exact W.iret (v := (-1)) hx hb hr (fun t ht hW => ⟨⟨(-1), (), rfl, Or.inl (⟨rfl, zu_lt (Int32.toInt_toInt64 _) (by decide) g_2⟩), trivial⟩, hS.F ht⟩) hS.2.2 dX12_status_22
  · skip
    have g_3 : 0 ≤ p0.toInt := zt_ge (Int32.toInt_toInt64 _) (by decide) g_3
    have g_4 : 5 < p0.toInt := zt_gt (Int32.toInt_toInt64 _) (by decide) g_4
    refine lv_if_eq (tgt := 21) hx hb dX12_status_9 (by decide) (fun _ => ?_) (fun c_9 => (z_abs c_9 (by decide)).elim)
    refine lv_iconst (v := (-1)) hx hb dX12_status_21 (by decide) ?_
    exact W.iret (v := (-1)) hx hb hr (fun t ht hW => ⟨⟨(-1), (), rfl, Or.inr (Or.inl (⟨rfl, zu_ge (Int32.toInt_toInt64 _) (by decide) g_3, zu_gt (Int32.toInt_toInt64 _) (by decide) g_4⟩)), trivial⟩, hS.F ht⟩) hS.2.2 dX12_status_22
  · skip
    have g_5 : 0 ≤ p0.toInt := zt_ge (Int32.toInt_toInt64 _) (by decide) g_5
    have g_6 : p0.toInt ≤ 5 := zt_le (Int32.toInt_toInt64 _) (by decide) g_6
    refine lv_if_eq (tgt := 21) hx hb dX12_status_9 (by decide) (fun c_11 => (z_abs c_11 (by decide)).elim) (fun _ => ?_)
    refine lv_aload_n hx hb dX12_status_12 rfl (lv_at hl 0 rfl) ?_
    refine va_get (D := D) (ci := 12) (v := .ref (a 9)) (C := RX12) (T := TX12) (N := 116) hx hb ht inX12 hown hK hP 0 rfl rfl 9 (by decide) (ht (.fieldLink RX12 17 "CloneVolumesModel" "refused" "[I") fl_X12_17) (fun _ h9 => h9) rfl dX12_status_13 ?_
    refine lv_iload_n hx hb dX12_status_16 rfl (lv_at hl 1 rfl) ?_
    refine va_iald hx hb hK hP 1 0 rfl rfl (z_in (by omega) (by omega)) dX12_status_17 ?_
    refine z_topi (y := 0) (by decide) ?_
    refine lv_goto (tgt := 22) hx hb dX12_status_18 (by decide) ?_
    exact W.iret (v := 0) hx hb hr (fun t ht hW => ⟨⟨0, (), rfl, Or.inr (Or.inr (⟨rfl, zu_ge (Int32.toInt_toInt64 _) (by decide) g_5, zu_le (Int32.toInt_toInt64 _) (by decide) g_6⟩)), trivial⟩, hS.F ht⟩) hS.2.2 dX12_status_22
end
