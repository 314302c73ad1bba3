section
-- ===== PART A: goes FIRST, ahead of the names: the tables' words, and 'selects' of the private methods out of them =====
/-- a private method of a class that the tables say can be made, by its rows of tables_1 -/
def lw_okq (q : MethodName × Nat) : Prop := (q.1.cls ≠ "java/lang/invoke/MethodHandle" ∧ q.1.cls ≠ "java/lang/invoke/VarHandle") ∧ Cond.instantiable q.1.cls q.2 ∈ tables_1 ∧ Cond.privateMethod q.1 ∈ tables_1 ∧ Cond.instanceMethod q.1 ∈ tables_1
theorem lw_p0 : lw_okq (⟨"RatchetPost$Mixer", "turn", "(IIII)V"⟩, 3) := ⟨⟨by decide +kernel, by decide +kernel⟩, List.mem_of_getElem? (i := 21) (by decide +kernel), List.mem_of_getElem? (i := 319) (by decide +kernel), List.mem_of_getElem? (i := 320) (by decide +kernel)⟩
theorem lw_p1 : lw_okq (⟨"RatchetPost$Account", "publishSigned", "(LRatchetPost$Mixer;)V"⟩, 11) := ⟨⟨by decide +kernel, by decide +kernel⟩, List.mem_of_getElem? (i := 154) (by decide +kernel), List.mem_of_getElem? (i := 328) (by decide +kernel), List.mem_of_getElem? (i := 329) (by decide +kernel)⟩
theorem lw_p2 : lw_okq (⟨"RatchetPost", "isRegistered", "(J)Z"⟩, 10) := ⟨⟨by decide +kernel, by decide +kernel⟩, List.mem_of_getElem? (i := 13) (by decide +kernel), List.mem_of_getElem? (i := 344) (by decide +kernel), List.mem_of_getElem? (i := 345) (by decide +kernel)⟩
theorem lw_p3 : lw_okq (⟨"RatchetPost", "areTwoRegistered", "(JJ)Z"⟩, 10) := ⟨⟨by decide +kernel, by decide +kernel⟩, List.mem_of_getElem? (i := 13) (by decide +kernel), List.mem_of_getElem? (i := 380) (by decide +kernel), List.mem_of_getElem? (i := 381) (by decide +kernel)⟩
theorem lw_p4 : lw_okq (⟨"RatchetPost", "agreeAsFirst", "(LRatchetPost$Pair;LRatchetPost$Entry;I)V"⟩, 10) := ⟨⟨by decide +kernel, by decide +kernel⟩, List.mem_of_getElem? (i := 13) (by decide +kernel), List.mem_of_getElem? (i := 406) (by decide +kernel), List.mem_of_getElem? (i := 407) (by decide +kernel)⟩
theorem lw_p5 : lw_okq (⟨"RatchetPost", "listOf", "(II)LRatchetPost$SessionList;"⟩, 10) := ⟨⟨by decide +kernel, by decide +kernel⟩, List.mem_of_getElem? (i := 13) (by decide +kernel), List.mem_of_getElem? (i := 423) (by decide +kernel), List.mem_of_getElem? (i := 424) (by decide +kernel)⟩
theorem lw_p6 : lw_okq (⟨"RatchetPost", "tagOf", "([J)J"⟩, 10) := ⟨⟨by decide +kernel, by decide +kernel⟩, List.mem_of_getElem? (i := 13) (by decide +kernel), List.mem_of_getElem? (i := 450) (by decide +kernel), List.mem_of_getElem? (i := 451) (by decide +kernel)⟩
theorem lw_p7 : lw_okq (⟨"RatchetPost", "isField", "(II)Z"⟩, 10) := ⟨⟨by decide +kernel, by decide +kernel⟩, List.mem_of_getElem? (i := 13) (by decide +kernel), List.mem_of_getElem? (i := 460) (by decide +kernel), List.mem_of_getElem? (i := 461) (by decide +kernel)⟩
theorem lw_p8 : lw_okq (⟨"RatchetPost", "isEnvelope", "(I)Z"⟩, 10) := ⟨⟨by decide +kernel, by decide +kernel⟩, List.mem_of_getElem? (i := 13) (by decide +kernel), List.mem_of_getElem? (i := 464) (by decide +kernel), List.mem_of_getElem? (i := 465) (by decide +kernel)⟩
theorem lw_p9 : lw_okq (⟨"RatchetPost", "isMalformed", "([J)Z"⟩, 10) := ⟨⟨by decide +kernel, by decide +kernel⟩, List.mem_of_getElem? (i := 13) (by decide +kernel), List.mem_of_getElem? (i := 477) (by decide +kernel), List.mem_of_getElem? (i := 478) (by decide +kernel)⟩
theorem lw_p10 : lw_okq (⟨"RatchetPost", "openFurther", "([JLRatchetPost$SessionList;)I"⟩, 10) := ⟨⟨by decide +kernel, by decide +kernel⟩, List.mem_of_getElem? (i := 13) (by decide +kernel), List.mem_of_getElem? (i := 490) (by decide +kernel), List.mem_of_getElem? (i := 491) (by decide +kernel)⟩
theorem lw_p11 : lw_okq (⟨"RatchetPost", "tryTrial", "([J)I"⟩, 10) := ⟨⟨by decide +kernel, by decide +kernel⟩, List.mem_of_getElem? (i := 13) (by decide +kernel), List.mem_of_getElem? (i := 505) (by decide +kernel), List.mem_of_getElem? (i := 506) (by decide +kernel)⟩
theorem lw_p12 : lw_okq (⟨"RatchetPost", "finishOpening", "([J)I"⟩, 10) := ⟨⟨by decide +kernel, by decide +kernel⟩, List.mem_of_getElem? (i := 13) (by decide +kernel), List.mem_of_getElem? (i := 517) (by decide +kernel), List.mem_of_getElem? (i := 518) (by decide +kernel)⟩
theorem lw_p13 : lw_okq (⟨"RatchetPost", "openWithNewSession", "([JLRatchetPost$SessionList;)I"⟩, 10) := ⟨⟨by decide +kernel, by decide +kernel⟩, List.mem_of_getElem? (i := 13) (by decide +kernel), List.mem_of_getElem? (i := 547) (by decide +kernel), List.mem_of_getElem? (i := 548) (by decide +kernel)⟩
theorem lw_p14 : lw_okq (⟨"RatchetPost", "agreeAsSecond", "([JLRatchetPost$Account;I)V"⟩, 10) := ⟨⟨by decide +kernel, by decide +kernel⟩, List.mem_of_getElem? (i := 13) (by decide +kernel), List.mem_of_getElem? (i := 564) (by decide +kernel), List.mem_of_getElem? (i := 565) (by decide +kernel)⟩
theorem lw_p15 : lw_okq (⟨"RatchetPost", "openWithSessionAt", "([JLRatchetPost$SessionList;I)I"⟩, 10) := ⟨⟨by decide +kernel, by decide +kernel⟩, List.mem_of_getElem? (i := 13) (by decide +kernel), List.mem_of_getElem? (i := 572) (by decide +kernel), List.mem_of_getElem? (i := 573) (by decide +kernel)⟩
def lw_privs_1 : List (MethodName × Nat) := [(⟨"RatchetPost$Mixer", "turn", "(IIII)V"⟩, 3), (⟨"RatchetPost$Account", "publishSigned", "(LRatchetPost$Mixer;)V"⟩, 11), (⟨"RatchetPost", "isRegistered", "(J)Z"⟩, 10), (⟨"RatchetPost", "areTwoRegistered", "(JJ)Z"⟩, 10), (⟨"RatchetPost", "agreeAsFirst", "(LRatchetPost$Pair;LRatchetPost$Entry;I)V"⟩, 10), (⟨"RatchetPost", "listOf", "(II)LRatchetPost$SessionList;"⟩, 10), (⟨"RatchetPost", "tagOf", "([J)J"⟩, 10), (⟨"RatchetPost", "isField", "(II)Z"⟩, 10), (⟨"RatchetPost", "isEnvelope", "(I)Z"⟩, 10), (⟨"RatchetPost", "isMalformed", "([J)Z"⟩, 10), (⟨"RatchetPost", "openFurther", "([JLRatchetPost$SessionList;)I"⟩, 10), (⟨"RatchetPost", "tryTrial", "([J)I"⟩, 10), (⟨"RatchetPost", "finishOpening", "([J)I"⟩, 10), (⟨"RatchetPost", "openWithNewSession", "([JLRatchetPost$SessionList;)I"⟩, 10), (⟨"RatchetPost", "agreeAsSecond", "([JLRatchetPost$Account;I)V"⟩, 10), (⟨"RatchetPost", "openWithSessionAt", "([JLRatchetPost$SessionList;I)I"⟩, 10)]
theorem lw_r1 : ∀ q ∈ lw_privs_1, lw_okq q := List.forall_mem_cons.mpr ⟨lw_p0, List.forall_mem_cons.mpr ⟨lw_p1, List.forall_mem_cons.mpr ⟨lw_p2, List.forall_mem_cons.mpr ⟨lw_p3, List.forall_mem_cons.mpr ⟨lw_p4, List.forall_mem_cons.mpr ⟨lw_p5, List.forall_mem_cons.mpr ⟨lw_p6, List.forall_mem_cons.mpr ⟨lw_p7, List.forall_mem_cons.mpr ⟨lw_p8, List.forall_mem_cons.mpr ⟨lw_p9, List.forall_mem_cons.mpr ⟨lw_p10, List.forall_mem_cons.mpr ⟨lw_p11, List.forall_mem_cons.mpr ⟨lw_p12, List.forall_mem_cons.mpr ⟨lw_p13, List.forall_mem_cons.mpr ⟨lw_p14, List.forall_mem_cons.mpr ⟨lw_p15, fun _ h => absurd h List.not_mem_nil⟩⟩⟩⟩⟩⟩⟩⟩⟩⟩⟩⟩⟩⟩⟩⟩
theorem lw_p16 : lw_okq (⟨"RatchetPostModel", "mixed", "([IIIIII)V"⟩, 25) := ⟨⟨by decide +kernel, by decide +kernel⟩, List.mem_of_getElem? (i := 607) (by decide +kernel), List.mem_of_getElem? (i := 706) (by decide +kernel), List.mem_of_getElem? (i := 707) (by decide +kernel)⟩
theorem lw_p17 : lw_okq (⟨"RatchetPostModel", "turn", "(IIII)V"⟩, 25) := ⟨⟨by decide +kernel, by decide +kernel⟩, List.mem_of_getElem? (i := 607) (by decide +kernel), List.mem_of_getElem? (i := 714) (by decide +kernel), List.mem_of_getElem? (i := 715) (by decide +kernel)⟩
theorem lw_p18 : lw_okq (⟨"RatchetPostModel", "longOf", "()J"⟩, 25) := ⟨⟨by decide +kernel, by decide +kernel⟩, List.mem_of_getElem? (i := 607) (by decide +kernel), List.mem_of_getElem? (i := 721) (by decide +kernel), List.mem_of_getElem? (i := 722) (by decide +kernel)⟩
theorem lw_p19 : lw_okq (⟨"RatchetPostModel", "draw", "(I)V"⟩, 25) := ⟨⟨by decide +kernel, by decide +kernel⟩, List.mem_of_getElem? (i := 607) (by decide +kernel), List.mem_of_getElem? (i := 733) (by decide +kernel), List.mem_of_getElem? (i := 734) (by decide +kernel)⟩
theorem lw_p20 : lw_okq (⟨"RatchetPostModel", "fill", "(IIII)V"⟩, 25) := ⟨⟨by decide +kernel, by decide +kernel⟩, List.mem_of_getElem? (i := 607) (by decide +kernel), List.mem_of_getElem? (i := 737) (by decide +kernel), List.mem_of_getElem? (i := 738) (by decide +kernel)⟩
theorem lw_p21 : lw_okq (⟨"RatchetPostModel", "sign", "(I)V"⟩, 25) := ⟨⟨by decide +kernel, by decide +kernel⟩, List.mem_of_getElem? (i := 607) (by decide +kernel), List.mem_of_getElem? (i := 742) (by decide +kernel), List.mem_of_getElem? (i := 743) (by decide +kernel)⟩
theorem lw_p22 : lw_okq (⟨"RatchetPostModel", "hash", "(III)I"⟩, 25) := ⟨⟨by decide +kernel, by decide +kernel⟩, List.mem_of_getElem? (i := 607) (by decide +kernel), List.mem_of_getElem? (i := 746) (by decide +kernel), List.mem_of_getElem? (i := 747) (by decide +kernel)⟩
theorem lw_p23 : lw_okq (⟨"RatchetPostModel", "known", "(I)Z"⟩, 25) := ⟨⟨by decide +kernel, by decide +kernel⟩, List.mem_of_getElem? (i := 607) (by decide +kernel), List.mem_of_getElem? (i := 755) (by decide +kernel), List.mem_of_getElem? (i := 756) (by decide +kernel)⟩
theorem lw_p24 : lw_okq (⟨"RatchetPostModel", "pair", "(II)Z"⟩, 25) := ⟨⟨by decide +kernel, by decide +kernel⟩, List.mem_of_getElem? (i := 607) (by decide +kernel), List.mem_of_getElem? (i := 771) (by decide +kernel), List.mem_of_getElem? (i := 772) (by decide +kernel)⟩
theorem lw_p25 : lw_okq (⟨"RatchetPostModel", "holds", "(I)Z"⟩, 25) := ⟨⟨by decide +kernel, by decide +kernel⟩, List.mem_of_getElem? (i := 607) (by decide +kernel), List.mem_of_getElem? (i := 775) (by decide +kernel), List.mem_of_getElem? (i := 776) (by decide +kernel)⟩
theorem lw_p26 : lw_okq (⟨"RatchetPostModel", "clear", "()V"⟩, 25) := ⟨⟨by decide +kernel, by decide +kernel⟩, List.mem_of_getElem? (i := 607) (by decide +kernel), List.mem_of_getElem? (i := 780) (by decide +kernel), List.mem_of_getElem? (i := 781) (by decide +kernel)⟩
theorem lw_p27 : lw_okq (⟨"RatchetPostModel", "agree", "(IIIIIII)V"⟩, 25) := ⟨⟨by decide +kernel, by decide +kernel⟩, List.mem_of_getElem? (i := 607) (by decide +kernel), List.mem_of_getElem? (i := 784) (by decide +kernel), List.mem_of_getElem? (i := 785) (by decide +kernel)⟩
theorem lw_p28 : lw_okq (⟨"RatchetPostModel", "store", "([II)V"⟩, 25) := ⟨⟨by decide +kernel, by decide +kernel⟩, List.mem_of_getElem? (i := 607) (by decide +kernel), List.mem_of_getElem? (i := 788) (by decide +kernel), List.mem_of_getElem? (i := 789) (by decide +kernel)⟩
theorem lw_p29 : lw_okq (⟨"RatchetPostModel", "step", "(II)V"⟩, 25) := ⟨⟨by decide +kernel, by decide +kernel⟩, List.mem_of_getElem? (i := 607) (by decide +kernel), List.mem_of_getElem? (i := 792) (by decide +kernel), List.mem_of_getElem? (i := 793) (by decide +kernel)⟩
theorem lw_p30 : lw_okq (⟨"RatchetPostModel", "comes", "(I)V"⟩, 25) := ⟨⟨by decide +kernel, by decide +kernel⟩, List.mem_of_getElem? (i := 607) (by decide +kernel), List.mem_of_getElem? (i := 796) (by decide +kernel), List.mem_of_getElem? (i := 797) (by decide +kernel)⟩
theorem lw_p31 : lw_okq (⟨"RatchetPostModel", "toFront", "(II)V"⟩, 25) := ⟨⟨by decide +kernel, by decide +kernel⟩, List.mem_of_getElem? (i := 607) (by decide +kernel), List.mem_of_getElem? (i := 800) (by decide +kernel), List.mem_of_getElem? (i := 801) (by decide +kernel)⟩
def lw_privs_2 : List (MethodName × Nat) := [(⟨"RatchetPostModel", "mixed", "([IIIIII)V"⟩, 25), (⟨"RatchetPostModel", "turn", "(IIII)V"⟩, 25), (⟨"RatchetPostModel", "longOf", "()J"⟩, 25), (⟨"RatchetPostModel", "draw", "(I)V"⟩, 25), (⟨"RatchetPostModel", "fill", "(IIII)V"⟩, 25), (⟨"RatchetPostModel", "sign", "(I)V"⟩, 25), (⟨"RatchetPostModel", "hash", "(III)I"⟩, 25), (⟨"RatchetPostModel", "known", "(I)Z"⟩, 25), (⟨"RatchetPostModel", "pair", "(II)Z"⟩, 25), (⟨"RatchetPostModel", "holds", "(I)Z"⟩, 25), (⟨"RatchetPostModel", "clear", "()V"⟩, 25), (⟨"RatchetPostModel", "agree", "(IIIIIII)V"⟩, 25), (⟨"RatchetPostModel", "store", "([II)V"⟩, 25), (⟨"RatchetPostModel", "step", "(II)V"⟩, 25), (⟨"RatchetPostModel", "comes", "(I)V"⟩, 25), (⟨"RatchetPostModel", "toFront", "(II)V"⟩, 25)]
theorem lw_r2 : ∀ q ∈ lw_privs_2, lw_okq q := List.forall_mem_cons.mpr ⟨lw_p16, List.forall_mem_cons.mpr ⟨lw_p17, List.forall_mem_cons.mpr ⟨lw_p18, List.forall_mem_cons.mpr ⟨lw_p19, List.forall_mem_cons.mpr ⟨lw_p20, List.forall_mem_cons.mpr ⟨lw_p21, List.forall_mem_cons.mpr ⟨lw_p22, List.forall_mem_cons.mpr ⟨lw_p23, List.forall_mem_cons.mpr ⟨lw_p24, List.forall_mem_cons.mpr ⟨lw_p25, List.forall_mem_cons.mpr ⟨lw_p26, List.forall_mem_cons.mpr ⟨lw_p27, List.forall_mem_cons.mpr ⟨lw_p28, List.forall_mem_cons.mpr ⟨lw_p29, List.forall_mem_cons.mpr ⟨lw_p30, List.forall_mem_cons.mpr ⟨lw_p31, fun _ h => absurd h List.not_mem_nil⟩⟩⟩⟩⟩⟩⟩⟩⟩⟩⟩⟩⟩⟩⟩⟩
theorem lw_p32 : lw_okq (⟨"RatchetPostModel", "save", "(II)V"⟩, 25) := ⟨⟨by decide +kernel, by decide +kernel⟩, List.mem_of_getElem? (i := 607) (by decide +kernel), List.mem_of_getElem? (i := 804) (by decide +kernel), List.mem_of_getElem? (i := 805) (by decide +kernel)⟩
theorem lw_p33 : lw_okq (⟨"RatchetPostModel", "load", "(II)V"⟩, 25) := ⟨⟨by decide +kernel, by decide +kernel⟩, List.mem_of_getElem? (i := 607) (by decide +kernel), List.mem_of_getElem? (i := 812) (by decide +kernel), List.mem_of_getElem? (i := 813) (by decide +kernel)⟩
theorem lw_p34 : lw_okq (⟨"RatchetPostModel", "take", "(I)V"⟩, 25) := ⟨⟨by decide +kernel, by decide +kernel⟩, List.mem_of_getElem? (i := 607) (by decide +kernel), List.mem_of_getElem? (i := 816) (by decide +kernel), List.mem_of_getElem? (i := 817) (by decide +kernel)⟩
theorem lw_p35 : lw_okq (⟨"RatchetPostModel", "mask", "()J"⟩, 25) := ⟨⟨by decide +kernel, by decide +kernel⟩, List.mem_of_getElem? (i := 607) (by decide +kernel), List.mem_of_getElem? (i := 820) (by decide +kernel), List.mem_of_getElem? (i := 821) (by decide +kernel)⟩
theorem lw_p36 : lw_okq (⟨"RatchetPostModel", "tag", "(IIIJII)J"⟩, 25) := ⟨⟨by decide +kernel, by decide +kernel⟩, List.mem_of_getElem? (i := 607) (by decide +kernel), List.mem_of_getElem? (i := 824) (by decide +kernel), List.mem_of_getElem? (i := 825) (by decide +kernel)⟩
theorem lw_p37 : lw_okq (⟨"RatchetPostModel", "there", "(I)Z"⟩, 25) := ⟨⟨by decide +kernel, by decide +kernel⟩, List.mem_of_getElem? (i := 607) (by decide +kernel), List.mem_of_getElem? (i := 832) (by decide +kernel), List.mem_of_getElem? (i := 833) (by decide +kernel)⟩
theorem lw_p38 : lw_okq (⟨"RatchetPostModel", "malformed", "(I)Z"⟩, 25) := ⟨⟨by decide +kernel, by decide +kernel⟩, List.mem_of_getElem? (i := 607) (by decide +kernel), List.mem_of_getElem? (i := 844) (by decide +kernel), List.mem_of_getElem? (i := 845) (by decide +kernel)⟩
theorem lw_p39 : lw_okq (⟨"RatchetPostModel", "further", "(III)I"⟩, 25) := ⟨⟨by decide +kernel, by decide +kernel⟩, List.mem_of_getElem? (i := 607) (by decide +kernel), List.mem_of_getElem? (i := 855) (by decide +kernel), List.mem_of_getElem? (i := 856) (by decide +kernel)⟩
theorem lw_p40 : lw_okq (⟨"RatchetPostModel", "tried", "(II)I"⟩, 25) := ⟨⟨by decide +kernel, by decide +kernel⟩, List.mem_of_getElem? (i := 607) (by decide +kernel), List.mem_of_getElem? (i := 859) (by decide +kernel), List.mem_of_getElem? (i := 860) (by decide +kernel)⟩
theorem lw_p41 : lw_okq (⟨"RatchetPostModel", "trial", "(II)I"⟩, 25) := ⟨⟨by decide +kernel, by decide +kernel⟩, List.mem_of_getElem? (i := 607) (by decide +kernel), List.mem_of_getElem? (i := 863) (by decide +kernel), List.mem_of_getElem? (i := 864) (by decide +kernel)⟩
theorem lw_p42 : lw_okq (⟨"RatchetPostModel", "fits", "(I)Z"⟩, 25) := ⟨⟨by decide +kernel, by decide +kernel⟩, List.mem_of_getElem? (i := 607) (by decide +kernel), List.mem_of_getElem? (i := 867) (by decide +kernel), List.mem_of_getElem? (i := 868) (by decide +kernel)⟩
theorem lw_p43 : lw_okq (⟨"RatchetPostModel", "gone", "(I)V"⟩, 25) := ⟨⟨by decide +kernel, by decide +kernel⟩, List.mem_of_getElem? (i := 607) (by decide +kernel), List.mem_of_getElem? (i := 871) (by decide +kernel), List.mem_of_getElem? (i := 872) (by decide +kernel)⟩
theorem lw_p44 : lw_okq (⟨"RatchetPostModel", "skip", "(I)V"⟩, 25) := ⟨⟨by decide +kernel, by decide +kernel⟩, List.mem_of_getElem? (i := 607) (by decide +kernel), List.mem_of_getElem? (i := 875) (by decide +kernel), List.mem_of_getElem? (i := 876) (by decide +kernel)⟩
theorem lw_p45 : lw_okq (⟨"RatchetPostModel", "turned", "(II)V"⟩, 25) := ⟨⟨by decide +kernel, by decide +kernel⟩, List.mem_of_getElem? (i := 607) (by decide +kernel), List.mem_of_getElem? (i := 879) (by decide +kernel), List.mem_of_getElem? (i := 880) (by decide +kernel)⟩
theorem lw_p46 : lw_okq (⟨"RatchetPostModel", "begun", "(IIII)I"⟩, 25) := ⟨⟨by decide +kernel, by decide +kernel⟩, List.mem_of_getElem? (i := 607) (by decide +kernel), List.mem_of_getElem? (i := 883) (by decide +kernel), List.mem_of_getElem? (i := 884) (by decide +kernel)⟩
def lw_privs_3 : List (MethodName × Nat) := [(⟨"RatchetPostModel", "save", "(II)V"⟩, 25), (⟨"RatchetPostModel", "load", "(II)V"⟩, 25), (⟨"RatchetPostModel", "take", "(I)V"⟩, 25), (⟨"RatchetPostModel", "mask", "()J"⟩, 25), (⟨"RatchetPostModel", "tag", "(IIIJII)J"⟩, 25), (⟨"RatchetPostModel", "there", "(I)Z"⟩, 25), (⟨"RatchetPostModel", "malformed", "(I)Z"⟩, 25), (⟨"RatchetPostModel", "further", "(III)I"⟩, 25), (⟨"RatchetPostModel", "tried", "(II)I"⟩, 25), (⟨"RatchetPostModel", "trial", "(II)I"⟩, 25), (⟨"RatchetPostModel", "fits", "(I)Z"⟩, 25), (⟨"RatchetPostModel", "gone", "(I)V"⟩, 25), (⟨"RatchetPostModel", "skip", "(I)V"⟩, 25), (⟨"RatchetPostModel", "turned", "(II)V"⟩, 25), (⟨"RatchetPostModel", "begun", "(IIII)I"⟩, 25)]
theorem lw_r3 : ∀ q ∈ lw_privs_3, lw_okq q := List.forall_mem_cons.mpr ⟨lw_p32, List.forall_mem_cons.mpr ⟨lw_p33, List.forall_mem_cons.mpr ⟨lw_p34, List.forall_mem_cons.mpr ⟨lw_p35, List.forall_mem_cons.mpr ⟨lw_p36, List.forall_mem_cons.mpr ⟨lw_p37, List.forall_mem_cons.mpr ⟨lw_p38, List.forall_mem_cons.mpr ⟨lw_p39, List.forall_mem_cons.mpr ⟨lw_p40, List.forall_mem_cons.mpr ⟨lw_p41, List.forall_mem_cons.mpr ⟨lw_p42, List.forall_mem_cons.mpr ⟨lw_p43, List.forall_mem_cons.mpr ⟨lw_p44, List.forall_mem_cons.mpr ⟨lw_p45, List.forall_mem_cons.mpr ⟨lw_p46, fun _ h => absurd h List.not_mem_nil⟩⟩⟩⟩⟩⟩⟩⟩⟩⟩⟩⟩⟩⟩⟩
def lw_privs : List (MethodName × Nat) := lw_privs_1 ++ (lw_privs_2 ++ (lw_privs_3))
def lw_tbl : List Cond := k2_sels lw_privs ++ tables_1
theorem lw_privs_ok : ∀ q ∈ lw_privs, lw_okq q := by
  show ∀ q ∈ lw_privs_1 ++ (lw_privs_2 ++ (lw_privs_3)), lw_okq q
  exact List.forall_mem_append.mpr ⟨lw_r1, List.forall_mem_append.mpr ⟨lw_r2, lw_r3⟩⟩
end
section
/-! the tables of this claim, by program out of its listing -/
def q_cn (i : Nat) : String := match i with
  | 0 => "RatchetPost$Mixer"
  | 1 => "RatchetPost$Pair"
  | 2 => "RatchetPost$Entry"
  | 3 => "RatchetPost$Account"
  | 4 => "RatchetPost$SkippedKeys"
  | 5 => "RatchetPost$Session"
  | 6 => "RatchetPost$SessionList"
  | 7 => "RatchetPost"
  | 8 => "RatchetPostModel"
  | 9 => "RatchetPostLaw"
  | _ => ""
def q_nf (i : Nat) : Nat := match i with
  | 0 => 3
  | 1 => 2
  | 2 => 6
  | 3 => 11
  | 4 => 4
  | 5 => 16
  | 6 => 2
  | 7 => 10
  | 8 => 25
  | _ => 0
def q_F0 : u_T := fun k => match k with
  | 0 => ("RatchetPost$Mixer", "start", "[I", true)
  | 1 => ("RatchetPost$Mixer", "now", "[I", true)
  | _ => ("RatchetPost$Mixer", "made", "[I", true)
def q_F1 : u_T := fun k => match k with
  | 0 => ("RatchetPost$Pair", "privateKey", "I", false)
  | _ => ("RatchetPost$Pair", "publicKey", "I", false)
def q_F2 : u_T := fun k => match k with
  | 0 => ("RatchetPost$Entry", "identity", "I", false)
  | 1 => ("RatchetPost$Entry", "signed", "I", false)
  | 2 => ("RatchetPost$Entry", "nonce", "I", false)
  | 3 => ("RatchetPost$Entry", "proof", "I", false)
  | 4 => ("RatchetPost$Entry", "offered", "[I", true)
  | _ => ("RatchetPost$Entry", "offeredCount", "I", false)
def q_F3 : u_T := fun k => match k with
  | 0 => ("RatchetPost$Account", "registered", "Z", false)
  | 1 => ("RatchetPost$Account", "draws", "I", false)
  | 2 => ("RatchetPost$Account", "identity", "LRatchetPost$Pair;", true)
  | 3 => ("RatchetPost$Account", "signed", "LRatchetPost$Pair;", true)
  | 4 => ("RatchetPost$Account", "old", "LRatchetPost$Pair;", true)
  | 5 => ("RatchetPost$Account", "hasOld", "Z", false)
  | 6 => ("RatchetPost$Account", "oneTime", "[LRatchetPost$Pair;", true)
  | 7 => ("RatchetPost$Account", "oneTimeCount", "I", false)
  | 8 => ("RatchetPost$Account", "entry", "LRatchetPost$Entry;", true)
  | 9 => ("RatchetPost$Account", "nonce", "LRatchetPost$Pair;", true)
  | _ => ("RatchetPost$Account", "seed", "[I", true)
def q_F4 : u_T := fun k => match k with
  | 0 => ("RatchetPost$SkippedKeys", "count", "I", false)
  | 1 => ("RatchetPost$SkippedKeys", "ratchets", "[I", true)
  | 2 => ("RatchetPost$SkippedKeys", "numbers", "[I", true)
  | _ => ("RatchetPost$SkippedKeys", "words", "[I", true)
def q_F5 : u_T := fun k => match k with
  | 0 => ("RatchetPost$Session", "base", "I", false)
  | 1 => ("RatchetPost$Session", "root", "[I", true)
  | 2 => ("RatchetPost$Session", "ratchet", "LRatchetPost$Pair;", true)
  | 3 => ("RatchetPost$Session", "theirs", "I", false)
  | 4 => ("RatchetPost$Session", "sending", "[I", true)
  | 5 => ("RatchetPost$Session", "receiving", "[I", true)
  | 6 => ("RatchetPost$Session", "receives", "Z", false)
  | 7 => ("RatchetPost$Session", "ns", "I", false)
  | 8 => ("RatchetPost$Session", "nr", "I", false)
  | 9 => ("RatchetPost$Session", "pn", "I", false)
  | 10 => ("RatchetPost$Session", "skipped", "LRatchetPost$SkippedKeys;", true)
  | 11 => ("RatchetPost$Session", "begunHere", "Z", false)
  | 12 => ("RatchetPost$Session", "answered", "Z", false)
  | 13 => ("RatchetPost$Session", "startSigned", "I", false)
  | 14 => ("RatchetPost$Session", "startOneTime", "I", false)
  | _ => ("RatchetPost$Session", "taken", "[I", true)
def q_F6 : u_T := fun k => match k with
  | 0 => ("RatchetPost$SessionList", "rows", "[LRatchetPost$Session;", true)
  | _ => ("RatchetPost$SessionList", "count", "I", false)
def q_F7 : u_T := fun k => match k with
  | 0 => ("RatchetPost", "mixer", "LRatchetPost$Mixer;", true)
  | 1 => ("RatchetPost", "accounts", "[LRatchetPost$Account;", true)
  | 2 => ("RatchetPost", "lists", "[LRatchetPost$SessionList;", true)
  | 3 => ("RatchetPost", "letters", "[[J", true)
  | 4 => ("RatchetPost", "letterCount", "I", false)
  | 5 => ("RatchetPost", "latestText", "J", false)
  | 6 => ("RatchetPost", "trial", "LRatchetPost$Session;", false)
  | 7 => ("RatchetPost", "ephemeral", "LRatchetPost$Pair;", true)
  | 8 => ("RatchetPost", "messageKey", "[I", true)
  | _ => ("RatchetPost", "block", "[I", true)
def q_F8 : u_T := fun k => match k with
  | 0 => ("RatchetPostModel", "registered", "[Z", true)
  | 1 => ("RatchetPostModel", "entropyLow", "[I", true)
  | 2 => ("RatchetPostModel", "entropyHigh", "[I", true)
  | 3 => ("RatchetPostModel", "count", "[I", true)
  | 4 => ("RatchetPostModel", "identity", "[I", true)
  | 5 => ("RatchetPostModel", "signed", "[I", true)
  | 6 => ("RatchetPostModel", "old", "[I", true)
  | 7 => ("RatchetPostModel", "once", "[I", true)
  | 8 => ("RatchetPostModel", "onces", "[I", true)
  | 9 => ("RatchetPostModel", "entry", "[I", true)
  | 10 => ("RatchetPostModel", "offered", "[I", true)
  | 11 => ("RatchetPostModel", "offers", "[I", true)
  | 12 => ("RatchetPostModel", "rows", "[I", true)
  | 13 => ("RatchetPostModel", "many", "[I", true)
  | 14 => ("RatchetPostModel", "row", "[I", true)
  | 15 => ("RatchetPostModel", "fields", "[J", true)
  | 16 => ("RatchetPostModel", "envelopes", "I", false)
  | 17 => ("RatchetPostModel", "latest", "J", false)
  | 18 => ("RatchetPostModel", "at", "[I", true)
  | 19 => ("RatchetPostModel", "before", "[I", true)
  | 20 => ("RatchetPostModel", "mixed", "[I", true)
  | 21 => ("RatchetPostModel", "key", "[I", true)
  | 22 => ("RatchetPostModel", "between", "[I", true)
  | 23 => ("RatchetPostModel", "drawn", "I", false)
  | _ => ("RatchetPostModel", "shown", "I", false)
def q_F (i : Nat) : u_T := match i with
  | 0 => q_F0
  | 1 => q_F1
  | 2 => q_F2
  | 3 => q_F3
  | 4 => q_F4
  | 5 => q_F5
  | 6 => q_F6
  | 7 => q_F7
  | 8 => q_F8
  | _ => q_F0
def q_ft0 (k : Nat) : Nat := match k with
  | 0 => 3
  | 1 => 3
  | _ => 3
def q_fty0 (k : Nat) : FieldType := match k with
  | 0 => (.array .int)
  | 1 => (.array .int)
  | _ => (.array .int)
def q_ft1 (k : Nat) : Nat := match k with
  | 0 => 0
  | _ => 0
def q_fty1 (k : Nat) : FieldType := match k with
  | 0 => .int
  | _ => .int
def q_ft2 (k : Nat) : Nat := match k with
  | 0 => 0
  | 1 => 0
  | 2 => 0
  | 3 => 0
  | 4 => 3
  | _ => 0
def q_fty2 (k : Nat) : FieldType := match k with
  | 0 => .int
  | 1 => .int
  | 2 => .int
  | 3 => .int
  | 4 => (.array .int)
  | _ => .int
def q_ft3 (k : Nat) : Nat := match k with
  | 0 => 1
  | 1 => 0
  | 2 => 3
  | 3 => 3
  | 4 => 3
  | 5 => 1
  | 6 => 3
  | 7 => 0
  | 8 => 3
  | 9 => 3
  | _ => 3
def q_fty3 (k : Nat) : FieldType := match k with
  | 0 => .boolean
  | 1 => .int
  | 2 => (.object "RatchetPost$Pair")
  | 3 => (.object "RatchetPost$Pair")
  | 4 => (.object "RatchetPost$Pair")
  | 5 => .boolean
  | 6 => (.array (.object "RatchetPost$Pair"))
  | 7 => .int
  | 8 => (.object "RatchetPost$Entry")
  | 9 => (.object "RatchetPost$Pair")
  | _ => (.array .int)
def q_ft4 (k : Nat) : Nat := match k with
  | 0 => 0
  | 1 => 3
  | 2 => 3
  | _ => 3
def q_fty4 (k : Nat) : FieldType := match k with
  | 0 => .int
  | 1 => (.array .int)
  | 2 => (.array .int)
  | _ => (.array .int)
def q_ft5 (k : Nat) : Nat := match k with
  | 0 => 0
  | 1 => 3
  | 2 => 3
  | 3 => 0
  | 4 => 3
  | 5 => 3
  | 6 => 1
  | 7 => 0
  | 8 => 0
  | 9 => 0
  | 10 => 3
  | 11 => 1
  | 12 => 1
  | 13 => 0
  | 14 => 0
  | _ => 3
def q_fty5 (k : Nat) : FieldType := match k with
  | 0 => .int
  | 1 => (.array .int)
  | 2 => (.object "RatchetPost$Pair")
  | 3 => .int
  | 4 => (.array .int)
  | 5 => (.array .int)
  | 6 => .boolean
  | 7 => .int
  | 8 => .int
  | 9 => .int
  | 10 => (.object "RatchetPost$SkippedKeys")
  | 11 => .boolean
  | 12 => .boolean
  | 13 => .int
  | 14 => .int
  | _ => (.array .int)
def q_ft6 (k : Nat) : Nat := match k with
  | 0 => 3
  | _ => 0
def q_fty6 (k : Nat) : FieldType := match k with
  | 0 => (.array (.object "RatchetPost$Session"))
  | _ => .int
def q_ft7 (k : Nat) : Nat := match k with
  | 0 => 3
  | 1 => 3
  | 2 => 3
  | 3 => 3
  | 4 => 0
  | 5 => 2
  | 6 => 3
  | 7 => 3
  | 8 => 3
  | _ => 3
def q_fty7 (k : Nat) : FieldType := match k with
  | 0 => (.object "RatchetPost$Mixer")
  | 1 => (.array (.object "RatchetPost$Account"))
  | 2 => (.array (.object "RatchetPost$SessionList"))
  | 3 => (.array (.array .long))
  | 4 => .int
  | 5 => .long
  | 6 => (.object "RatchetPost$Session")
  | 7 => (.object "RatchetPost$Pair")
  | 8 => (.array .int)
  | _ => (.array .int)
def q_ft8 (k : Nat) : Nat := match k with
  | 0 => 3
  | 1 => 3
  | 2 => 3
  | 3 => 3
  | 4 => 3
  | 5 => 3
  | 6 => 3
  | 7 => 3
  | 8 => 3
  | 9 => 3
  | 10 => 3
  | 11 => 3
  | 12 => 3
  | 13 => 3
  | 14 => 3
  | 15 => 3
  | 16 => 0
  | 17 => 2
  | 18 => 3
  | 19 => 3
  | 20 => 3
  | 21 => 3
  | 22 => 3
  | 23 => 0
  | _ => 0
def q_fty8 (k : Nat) : FieldType := match k with
  | 0 => (.array .boolean)
  | 1 => (.array .int)
  | 2 => (.array .int)
  | 3 => (.array .int)
  | 4 => (.array .int)
  | 5 => (.array .int)
  | 6 => (.array .int)
  | 7 => (.array .int)
  | 8 => (.array .int)
  | 9 => (.array .int)
  | 10 => (.array .int)
  | 11 => (.array .int)
  | 12 => (.array .int)
  | 13 => (.array .int)
  | 14 => (.array .int)
  | 15 => (.array .long)
  | 16 => .int
  | 17 => .long
  | 18 => (.array .int)
  | 19 => (.array .int)
  | 20 => (.array .int)
  | 21 => (.array .int)
  | 22 => (.array .int)
  | 23 => .int
  | _ => .int
def q_ft (i : Nat) : Nat → Nat := match i with
  | 0 => q_ft0
  | 1 => q_ft1
  | 2 => q_ft2
  | 3 => q_ft3
  | 4 => q_ft4
  | 5 => q_ft5
  | 6 => q_ft6
  | 7 => q_ft7
  | 8 => q_ft8
  | _ => fun _ => 0
def q_fty (i : Nat) : Nat → FieldType := match i with
  | 0 => q_fty0
  | 1 => q_fty1
  | 2 => q_fty2
  | 3 => q_fty3
  | 4 => q_fty4
  | 5 => q_fty5
  | 6 => q_fty6
  | 7 => q_fty7
  | 8 => q_fty8
  | _ => fun _ => .int
/-- the kind of a cell: 0 int, 1 long, 2 boolean, 3 Pair, 4 Session, 5 Account, 6 SessionList, 7 long[] rows of a length; 8 an object of a class; 9 none of ours -/
def q_kA (a : Nat) : Nat × Nat := (bif Nat.blt a 9 then (bif Nat.blt a 4 then (bif Nat.blt a 2 then (bif Nat.blt a 1 then (8, 3) else (8, 1)) else (8, 1)) else (bif Nat.blt a 6 then (bif Nat.blt a 5 then (3, 10) else (8, 2)) else (bif Nat.blt a 7 then (0, 6) else (bif Nat.blt a 8 then (8, 1) else (0, 8))))) else (8, 1))
def q_kS (a : Nat) : Nat × Nat := (bif Nat.blt a 5 then (bif Nat.blt a 2 then (bif Nat.blt a 1 then (8, 5) else (0, 8)) else (bif Nat.blt a 3 then (8, 1) else (0, 8))) else (bif Nat.blt a 7 then (bif Nat.blt a 6 then (8, 4) else (0, 28)) else (bif Nat.blt a 8 then (0, 28) else (bif Nat.blt a 9 then (0, 224) else (0, 8)))))
def q_kd (a : Nat) : Nat × Nat := bif Nat.blt a 84 then (bif Nat.blt a 42 then (bif Nat.blt a 21 then (bif Nat.blt a 10 then (bif Nat.blt a 5 then (bif Nat.blt a 2 then (9, 0) else (bif Nat.blt a 3 then (9, 0) else (bif Nat.blt a 4 then (8, 7) else (8, 0)))) else (bif Nat.blt a 7 then (0, 16) else (bif Nat.blt a 8 then (0, 8) else (bif Nat.blt a 9 then (5, 4) else (6, 16))))) else (bif Nat.blt a 15 then (bif Nat.blt a 12 then (bif Nat.blt a 11 then (7, 60) else (1, 12)) else (1, 12)) else (1, 12))) else (1, 12)) else (bif Nat.blt a 63 then (1, 12) else (bif Nat.blt a 73 then (bif Nat.blt a 68 then (1, 12) else (bif Nat.blt a 70 then (1, 12) else (bif Nat.blt a 71 then (1, 12) else (bif Nat.blt a 72 then (8, 5) else (0, 8))))) else (bif Nat.blt a 78 then (bif Nat.blt a 75 then (bif Nat.blt a 74 then (8, 1) else (0, 8)) else (bif Nat.blt a 76 then (0, 8) else (bif Nat.blt a 77 then (8, 4) else (0, 28)))) else (bif Nat.blt a 81 then (bif Nat.blt a 79 then (0, 28) else (bif Nat.blt a 80 then (0, 224) else (0, 8))) else (bif Nat.blt a 82 then (8, 1) else (0, 8))))))) else bif Nat.blt a 160 then q_kA ((a - 84) % 19) else bif Nat.blt a 192 then (bif Nat.beq (a % 2) 0 then (8, 6) else (4, 3)) else bif Nat.blt a 214 then (bif Nat.blt a 203 then (bif Nat.blt a 197 then (bif Nat.blt a 194 then (bif Nat.blt a 193 then (8, 8) else (2, 4)) else (0, 4)) else (bif Nat.blt a 200 then (0, 8) else (bif Nat.blt a 201 then (0, 80) else (bif Nat.blt a 202 then (0, 4) else (0, 16))))) else (bif Nat.blt a 208 then (bif Nat.blt a 205 then (bif Nat.blt a 204 then (0, 24) else (0, 4)) else (bif Nat.blt a 206 then (0, 7584) else (bif Nat.blt a 207 then (0, 16) else (0, 318)))) else (bif Nat.blt a 211 then (bif Nat.blt a 209 then (1, 720) else (0, 16)) else (0, 8)))) else q_kS ((a - 214) % 10)
def q_el (t : Nat) : Nat := match t with
  | 3 => 1
  | 4 => 5
  | 5 => 3
  | _ => 6
def q_sn (a : Nat) : String := match a with
  | 0 => "ZERO"
  | _ => "HEAD"
def q_c (n : Int) : Int32 := match n with
  | .ofNat k => nI k
  | .negSucc 0 => -1
  | .negSucc k => Int32.ofInt (.negSucc k)
def q_look {α β : Type} : List (Nat × α × β) → Nat → Option α
  | [], _ => none
  | e :: r, i => bif Nat.beq e.1 i then some e.2.1 else q_look r i
theorem q_look_mem {α β : Type} : ∀ (l : List (Nat × α × β)) (i : Nat) (v : α), q_look l i = some v → ∃ w, (i, v, w) ∈ l
  | [], _, _, h => by cases h
  | (j, x, w) :: r, i, v, h => by
    unfold q_look at h
    cases hb : Nat.beq j i with
    | true =>
      simp only [hb, cond_true] at h
      have e1 := Nat.eq_of_beq_eq_true hb
      have e2 : x = v := Option.some.inj h
      subst e1; subst e2
      exact ⟨w, List.mem_cons_self⟩
    | false =>
      simp only [hb, cond_false] at h
      obtain ⟨w', hw⟩ := q_look_mem r i v h
      exact ⟨w', List.mem_cons_of_mem _ hw⟩
def q_ciT0 : List (Nat × Int32 × Nat) := []
def q_ciT1 : List (Nat × Int32 × Nat) := []
def q_ciT2 : List (Nat × Int32 × Nat) := [(41, nI 2147483645, 396), (61, nI 2147483646, 395)]
def q_ciT3 : List (Nat × Int32 × Nat) := [(77, nI 2147483644, 322)]
def q_ciT4 : List (Nat × Int32 × Nat) := []
def q_ciT5 : List (Nat × Int32 × Nat) := []
def q_ciT6 : List (Nat × Int32 × Nat) := []
def q_ciT7 : List (Nat × Int32 × Nat) := [(259, nI 2147483647, 600)]
def q_ciT8 : List (Nat × Int32 × Nat) := [(81, nI 2147483647, 693), (88, nI 1634760805, 709), (89, nI 857760878, 710), (90, nI 2036477234, 711), (91, nI 1797285236, 712), (116, nI 2147483644, 740), (137, nI 2147483645, 778)]
def q_ciT9 : List (Nat × Int32 × Nat) := []
def q_ciT (w : Nat) : List (Nat × Int32 × Nat) := match w with
  | 0 => q_ciT0
  | 1 => q_ciT1
  | 2 => q_ciT2
  | 3 => q_ciT3
  | 4 => q_ciT4
  | 5 => q_ciT5
  | 6 => q_ciT6
  | 7 => q_ciT7
  | 8 => q_ciT8
  | 9 => q_ciT9
  | _ => []
def q_clT0 : List (Nat × Int64 × Nat) := [(38, lN 4294967295, 448)]
def q_clT1 : List (Nat × Int64 × Nat) := []
def q_clT2 : List (Nat × Int64 × Nat) := [(50, lN 2147483647, 399)]
def q_clT3 : List (Nat × Int64 × Nat) := [(102, lN 2147483646, 338)]
def q_clT4 : List (Nat × Int64 × Nat) := []
def q_clT5 : List (Nat × Int64 × Nat) := []
def q_clT6 : List (Nat × Int64 × Nat) := []
def q_clT7 : List (Nat × Int64 × Nat) := [(227, (-1), 583), (271, lN 4, 347), (355, lN 2, 483), (357, lN 2147483645, 484), (359, lN 1000, 488), (361, lN 2147483647, 326)]
def q_clT8 : List (Nat × Int64 × Nat) := [(75, lN 2147483647, 700), (96, lN 4294967295, 727), (132, lN 2147483646, 749), (188, lN 3, 847), (194, lN 2, 851), (196, lN 2147483645, 852), (198, lN 1000, 853), (232, (-1), 894)]
def q_clT9 : List (Nat × Int64 × Nat) := [(13, lN 4294967295, 907)]
def q_clT (w : Nat) : List (Nat × Int64 × Nat) := match w with
  | 0 => q_clT0
  | 1 => q_clT1
  | 2 => q_clT2
  | 3 => q_clT3
  | 4 => q_clT4
  | 5 => q_clT5
  | 6 => q_clT6
  | 7 => q_clT7
  | 8 => q_clT8
  | 9 => q_clT9
  | _ => []
def q_srT0 : List (Nat × Nat × Bool × Nat) := [(21, 1, true, 313)]
def q_srT1 : List (Nat × Nat × Bool × Nat) := []
def q_srT2 : List (Nat × Nat × Bool × Nat) := [(52, 0, true, 335)]
def q_srT3 : List (Nat × Nat × Bool × Nat) := []
def q_srT4 : List (Nat × Nat × Bool × Nat) := []
def q_srT5 : List (Nat × Nat × Bool × Nat) := []
def q_srT6 : List (Nat × Nat × Bool × Nat) := []
def q_srT7 : List (Nat × Nat × Bool × Nat) := [(321, 0, false, 409)]
def q_srT8 : List (Nat × Nat × Bool × Nat) := []
def q_srT9 : List (Nat × Nat × Bool × Nat) := []
def q_srT (w : Nat) : List (Nat × Nat × Bool × Nat) := match w with
  | 0 => q_srT0
  | 1 => q_srT1
  | 2 => q_srT2
  | 3 => q_srT3
  | 4 => q_srT4
  | 5 => q_srT5
  | 6 => q_srT6
  | 7 => q_srT7
  | 8 => q_srT8
  | 9 => q_srT9
  | _ => []
def q_frT0 : List (Nat × (Nat × Nat × Nat × Bool) × Bool × Nat) := [(9, (0, 0, 3, true), false, 26), (15, (0, 1, 3, true), false, 27), (18, (0, 2, 3, true), false, 28)]
def q_frT1 : List (Nat × (Nat × Nat × Nat × Bool) × Bool × Nat) := [(7, (1, 0, 0, false), false, 55), (13, (1, 1, 0, false), false, 57)]
def q_frT2 : List (Nat × (Nat × Nat × Nat × Bool) × Bool × Nat) := [(9, (2, 0, 0, false), false, 168), (15, (2, 1, 0, false), false, 171), (18, (2, 2, 0, false), false, 174), (21, (2, 3, 0, false), false, 177), (24, (2, 4, 3, true), false, 180), (28, (2, 5, 0, false), false, 181)]
def q_frT3 : List (Nat × (Nat × Nat × Nat × Bool) × Bool × Nat) := [(9, (3, 0, 1, false), false, 197), (15, (3, 1, 0, false), false, 199), (22, (3, 2, 3, true), false, 201), (26, (3, 3, 3, true), false, 203), (29, (3, 4, 3, true), false, 205), (32, (3, 5, 1, false), false, 207), (35, (3, 6, 3, true), false, 209), (39, (3, 7, 0, false), false, 211), (45, (3, 8, 3, true), false, 213), (49, (3, 9, 3, true), false, 215), (52, (3, 10, 3, true), false, 216), (78, (1, 0, 0, false), false, 56), (85, (1, 1, 0, false), false, 58), (92, (2, 0, 0, false), false, 169), (94, (2, 1, 0, false), false, 172), (96, (2, 2, 0, false), false, 175), (104, (2, 3, 0, false), false, 178), (107, (2, 5, 0, false), false, 182)]
def q_frT4 : List (Nat × (Nat × Nat × Nat × Bool) × Bool × Nat) := [(9, (4, 0, 0, false), false, 72), (15, (4, 1, 3, true), false, 75), (19, (4, 2, 3, true), false, 76), (22, (4, 3, 3, true), false, 77)]
def q_frT5 : List (Nat × (Nat × Nat × Nat × Bool) × Bool × Nat) := [(9, (5, 0, 0, false), false, 87), (15, (5, 1, 3, true), false, 90), (22, (5, 2, 3, true), false, 92), (26, (5, 3, 0, false), false, 94), (29, (5, 4, 3, true), false, 96), (32, (5, 5, 3, true), false, 98), (35, (5, 6, 1, false), false, 100), (39, (5, 7, 0, false), false, 102), (42, (5, 8, 0, false), false, 104), (45, (5, 9, 0, false), false, 106), (51, (5, 10, 3, true), false, 108), (55, (5, 11, 1, false), false, 110), (58, (5, 12, 1, false), false, 112), (61, (5, 13, 0, false), false, 114), (64, (5, 14, 0, false), false, 116), (67, (5, 15, 3, true), false, 118), (70, (4, 0, 0, false), false, 73)]
def q_frT6 : List (Nat × (Nat × Nat × Nat × Bool) × Bool × Nat) := [(11, (6, 0, 3, true), false, 247), (17, (6, 1, 0, false), false, 249), (28, (5, 0, 0, false), false, 88)]
def q_frT7 : List (Nat × (Nat × Nat × Nat × Bool) × Bool × Nat) := [(10, (7, 0, 3, true), false, 256), (18, (7, 1, 3, true), false, 257), (24, (7, 2, 3, true), false, 258), (30, (7, 3, 3, true), false, 259), (33, (7, 4, 0, false), false, 260), (37, (7, 5, 2, false), false, 261), (44, (7, 6, 3, false), false, 262), (51, (7, 7, 3, true), false, 263), (55, (7, 8, 3, true), false, 264), (59, (7, 9, 3, true), false, 265), (66, (3, 0, 1, false), false, 198), (86, (3, 8, 3, true), false, 214), (90, (2, 0, 0, false), false, 170), (95, (2, 1, 0, false), false, 173), (98, (2, 2, 0, false), false, 176), (101, (2, 3, 0, false), false, 179), (123, (1, 1, 0, false), false, 59), (126, (5, 0, 0, false), false, 89), (129, (5, 11, 1, false), false, 111), (132, (5, 13, 0, false), false, 115), (135, (5, 14, 0, false), false, 117), (138, (3, 2, 3, true), false, 202), (144, (5, 2, 3, true), false, 93), (147, (5, 3, 0, false), false, 95), (150, (5, 4, 3, true), false, 97), (165, (6, 1, 0, false), false, 250), (168, (6, 0, 3, true), false, 248), (176, (5, 7, 0, false), false, 103), (179, (5, 9, 0, false), false, 107), (229, (3, 3, 3, true), false, 204), (231, (3, 5, 1, false), false, 208), (234, (3, 4, 3, true), false, 206), (237, (3, 1, 0, false), false, 200), (240, (3, 7, 0, false), false, 212), (243, (2, 5, 0, false), false, 183), (246, (5, 8, 0, false), false, 105), (249, (5, 10, 3, true), false, 109), (253, (4, 0, 0, false), false, 74), (256, (5, 1, 3, true), false, 91), (307, (3, 6, 3, true), false, 210), (338, (5, 6, 1, false), false, 101), (349, (5, 5, 3, true), false, 99), (352, (5, 12, 1, false), false, 113)]
def q_frT8 : List (Nat × (Nat × Nat × Nat × Bool) × Bool × Nat) := [(7, (8, 0, 3, true), false, 612), (13, (8, 1, 3, true), false, 613), (17, (8, 2, 3, true), false, 614), (20, (8, 3, 3, true), false, 615), (23, (8, 4, 3, true), false, 616), (26, (8, 5, 3, true), false, 617), (29, (8, 6, 3, true), false, 618), (32, (8, 7, 3, true), false, 619), (35, (8, 8, 3, true), false, 620), (38, (8, 9, 3, true), false, 621), (41, (8, 10, 3, true), false, 622), (44, (8, 11, 3, true), false, 623), (47, (8, 12, 3, true), false, 624), (50, (8, 13, 3, true), false, 625), (53, (8, 14, 3, true), false, 626), (56, (8, 15, 3, true), false, 627), (60, (8, 18, 3, true), false, 630), (63, (8, 19, 3, true), false, 631), (66, (8, 20, 3, true), false, 632), (69, (8, 21, 3, true), false, 633), (72, (8, 22, 3, true), false, 634), (117, (8, 23, 0, false), false, 635), (121, (8, 24, 0, false), false, 636), (169, (8, 16, 0, false), false, 628), (216, (8, 17, 2, false), false, 629)]
def q_frT9 : List (Nat × (Nat × Nat × Nat × Bool) × Bool × Nat) := []
def q_frT (w : Nat) : List (Nat × (Nat × Nat × Nat × Bool) × Bool × Nat) := match w with
  | 0 => q_frT0
  | 1 => q_frT1
  | 2 => q_frT2
  | 3 => q_frT3
  | 4 => q_frT4
  | 5 => q_frT5
  | 6 => q_frT6
  | 7 => q_frT7
  | 8 => q_frT8
  | 9 => q_frT9
  | _ => []
def q_crT0 : List (Nat × Nat × Nat) := []
def q_crT1 : List (Nat × Nat × Nat) := []
def q_crT2 : List (Nat × Nat × Nat) := []
def q_crT3 : List (Nat × Nat × Nat) := [(19, 1, 159), (42, 2, 162)]
def q_crT4 : List (Nat × Nat × Nat) := []
def q_crT5 : List (Nat × Nat × Nat) := [(19, 1, 49), (48, 4, 66)]
def q_crT6 : List (Nat × Nat × Nat) := [(9, 5, 245)]
def q_crT7 : List (Nat × Nat × Nat) := [(7, 0, 20), (16, 3, 37), (22, 6, 39), (41, 5, 43), (48, 1, 152)]
def q_crT8 : List (Nat × Nat × Nat) := []
def q_crT9 : List (Nat × Nat × Nat) := [(7, 7, 12), (10, 8, 606)]
def q_crT (w : Nat) : List (Nat × Nat × Nat) := match w with
  | 0 => q_crT0
  | 1 => q_crT1
  | 2 => q_crT2
  | 3 => q_crT3
  | 4 => q_crT4
  | 5 => q_crT5
  | 6 => q_crT6
  | 7 => q_crT7
  | 8 => q_crT8
  | 9 => q_crT9
  | _ => []
def q_mrT0 : List (Nat × (Nat × Nat × Nat) × Bool × Nat) := [(3, (0, 1, 3), false, 25), (24, (0, 5, 4), false, 315), (30, (5, 5, 0), false, 318), (34, (1, 7, 0), false, 309)]
def q_mrT1 : List (Nat × (Nat × Nat × Nat) × Bool × Nat) := [(1, (0, 1, 3), false, 54), (16, (77, 2, 2), true, 414)]
def q_mrT2 : List (Nat × (Nat × Nat × Nat) × Bool × Nat) := [(3, (0, 1, 3), false, 167), (31, (0, 5, 4), false, 387), (37, (14, 1, 2), false, 392), (42, (13, 2, 0), false, 397), (46, (77, 2, 2), true, 398), (55, (2, 6, 0), false, 337)]
def q_mrT3 : List (Nat × (Nat × Nat × Nat) × Bool × Nat) := [(3, (0, 1, 3), false, 158), (21, (6, 1, 1), true, 160), (44, (9, 1, 1), true, 164), (56, (76, 1, 2), true, 295), (60, (75, 1, 2), true, 298), (63, (17, 3, 0), false, 301), (67, (19, 2, 0), false, 327), (71, (2, 6, 0), false, 305), (81, (77, 2, 2), true, 323), (88, (7, 2, 0), false, 352), (98, (13, 2, 0), false, 331), (110, (0, 2, 5), false, 364), (115, (11, 2, 0), false, 367)]
def q_mrT4 : List (Nat × (Nat × Nat × Nat) × Bool × Nat) := [(3, (0, 1, 3), false, 71), (25, (0, 5, 4), false, 503)]
def q_mrT5 : List (Nat × (Nat × Nat × Nat) × Bool × Nat) := [(3, (0, 1, 3), false, 48), (21, (6, 1, 1), true, 51), (50, (25, 1, 1), true, 68), (73, (0, 5, 4), false, 497), (79, (7, 2, 0), false, 498), (83, (26, 2, 0), false, 499), (86, (8, 2, 0), false, 420), (90, (1, 7, 0), false, 421), (96, (34, 3, 0), false, 533), (100, (4, 3, 0), false, 524), (104, (27, 4, 0), false, 525)]
def q_mrT6 : List (Nat × (Nat × Nat × Nat) × Bool × Nat) := [(3, (0, 1, 3), false, 244), (21, (30, 1, 1), true, 430), (22, (0, 2, 5), false, 431)]
def q_mrT7 : List (Nat × (Nat × Nat × Nat) × Bool × Nat) := [(1, (0, 1, 3), false, 17), (9, (0, 1, 1), true, 22), (43, (30, 1, 1), true, 45), (50, (6, 1, 1), true, 153), (62, (15, 2, 1), false, 155), (65, (37, 1, 1), true, 241), (70, (16, 3, 0), false, 291), (74, (59, 2, 0), false, 343), (78, (18, 2, 0), false, 348), (82, (20, 3, 0), false, 360), (104, (60, 3, 0), false, 379), (108, (10, 1, 0), false, 383), (112, (12, 2, 0), false, 388), (116, (17, 3, 0), false, 400), (120, (31, 1, 0), false, 401), (140, (68, 4, 0), false, 405), (153, (34, 3, 0), false, 416), (157, (63, 3, 0), false, 422), (161, (38, 2, 0), false, 426), (172, (33, 1, 0), false, 436), (182, (4, 3, 0), false, 440), (186, (3, 6, 0), false, 444), (190, (72, 2, 0), false, 449), (194, (62, 3, 0), false, 459), (198, (61, 2, 0), false, 463), (202, (0, 5, 4), false, 471), (208, (64, 2, 0), false, 476), (212, (65, 3, 0), false, 489), (216, (41, 2, 0), false, 542), (220, (67, 3, 0), false, 546), (223, (66, 4, 0), false, 571), (260, (77, 2, 2), false, 601), (264, (75, 1, 2), false, 453), (268, (76, 1, 2), false, 454), (273, (73, 1, 2), false, 480), (276, (74, 1, 2), false, 485), (279, (32, 2, 0), false, 493), (283, (70, 2, 0), false, 504), (287, (39, 3, 0), false, 534), (291, (40, 2, 0), false, 538), (294, (21, 2, 0), false, 550), (297, (23, 2, 0), false, 554), (300, (24, 2, 0), false, 558), (304, (7, 2, 0), false, 562), (311, (8, 2, 0), false, 410), (314, (69, 4, 0), false, 563), (318, (22, 2, 0), false, 567), (324, (1, 7, 0), false, 415), (328, (28, 3, 0), false, 508), (331, (29, 3, 0), false, 512), (335, (71, 2, 0), false, 516), (341, (36, 3, 0), false, 520), (345, (35, 3, 0), false, 529)]
def q_mrT8 : List (Nat × (Nat × Nat × Nat) × Bool × Nat) := [(1, (0, 1, 3), false, 611), (77, (79, 2, 2), false, 697), (82, (80, 2, 2), false, 694), (85, (82, 2, 2), false, 717), (92, (83, 5, 0), false, 713), (98, (87, 2, 2), false, 724), (102, (84, 7, 0), false, 705), (105, (88, 1, 0), false, 720), (109, (90, 2, 0), false, 754), (113, (86, 5, 0), false, 736), (124, (92, 2, 0), false, 732), (128, (93, 4, 0), false, 745), (134, (94, 2, 0), false, 741), (138, (101, 3, 0), false, 803), (142, (102, 3, 0), false, 799), (145, (85, 3, 0), false, 787), (149, (91, 3, 0), false, 770), (153, (99, 2, 0), false, 774), (156, (104, 1, 0), false, 779), (159, (107, 8, 0), false, 783), (163, (105, 3, 0), false, 791), (166, (103, 2, 0), false, 795), (172, (100, 3, 0), false, 811), (175, (106, 2, 0), false, 815), (178, (110, 1, 0), false, 819), (181, (109, 7, 0), false, 823), (185, (112, 2, 0), false, 831), (190, (115, 3, 2), false, 848), (200, (116, 2, 0), false, 843), (203, (118, 4, 0), false, 854), (206, (120, 3, 0), false, 858), (209, (119, 5, 0), false, 882), (213, (122, 3, 0), false, 862), (220, (121, 2, 0), false, 866), (223, (125, 2, 0), false, 870), (226, (124, 2, 0), false, 874), (229, (123, 3, 0), false, 878)]
def q_mrT9 : List (Nat × (Nat × Nat × Nat) × Bool × Nat) := [(9, (42, 1, 1), false, 14), (12, (78, 1, 1), false, 608), (15, (43, 3, 0), false, 287), (19, (95, 3, 0), false, 728), (20, (44, 2, 0), false, 339), (24, (96, 2, 0), false, 750), (25, (45, 3, 0), false, 356), (29, (97, 3, 0), false, 758), (30, (46, 4, 0), false, 371), (34, (98, 4, 0), false, 762), (35, (47, 3, 0), false, 375), (38, (108, 3, 0), false, 766), (39, (48, 4, 0), false, 432), (43, (111, 4, 0), false, 807), (44, (49, 4, 0), false, 455), (48, (113, 4, 0), false, 827), (49, (50, 2, 0), false, 467), (53, (114, 2, 0), false, 835), (54, (51, 2, 0), false, 472), (57, (117, 2, 0), false, 839), (58, (52, 1, 0), false, 575), (62, (126, 1, 0), false, 886), (63, (53, 3, 0), false, 579), (67, (127, 3, 0), false, 890), (68, (54, 3, 0), false, 584), (71, (128, 3, 0), false, 895), (72, (55, 3, 0), false, 588), (75, (129, 3, 0), false, 899), (76, (56, 5, 0), false, 592), (80, (130, 5, 0), false, 903), (81, (57, 3, 0), false, 596), (84, (81, 3, 0), false, 689), (85, (58, 4, 0), false, 602), (89, (89, 4, 0), false, 701)]
def q_mrT (w : Nat) : List (Nat × (Nat × Nat × Nat) × Bool × Nat) := match w with
  | 0 => q_mrT0
  | 1 => q_mrT1
  | 2 => q_mrT2
  | 3 => q_mrT3
  | 4 => q_mrT4
  | 5 => q_mrT5
  | 6 => q_mrT6
  | 7 => q_mrT7
  | 8 => q_mrT8
  | 9 => q_mrT9
  | _ => []
def q_ci (w i : Nat) : Option (Int32) := q_look (q_ciT w) i
def q_cl (w i : Nat) : Option (Int64) := q_look (q_clT w) i
def q_sr (w i : Nat) : Option (Nat) := q_look (q_srT w) i
def q_fr (w i : Nat) : Option (Nat × Nat × Nat × Bool) := q_look (q_frT w) i
def q_cr (w i : Nat) : Option (Nat) := q_look (q_crT w) i
def q_mr (w i : Nat) : Option (Nat × Nat × Nat) := q_look (q_mrT w) i
def q_mc (mi : Nat) : Nat := bif Nat.blt mi 6 then 0 else bif Nat.blt mi 9 then 1 else bif Nat.blt mi 15 then 2 else bif Nat.blt mi 25 then 3 else bif Nat.blt mi 30 then 4 else bif Nat.blt mi 37 then 5 else bif Nat.blt mi 42 then 6 else bif Nat.blt mi 78 then 7 else 8
def q_al (mi : Nat) : Option (Nat × Nat) := match mi with
  | 0 => some (3, 40)
  | 9 => some (1, 6)
  | 15 => some (18, 58)
  | 25 => some (3, 280)
  | 30 => some (9, 318)
  | 37 => some (1, 3)
  | 38 => some (10, 334)
  | 42 => some (188, 1551)
  | 47 => some (10, 334)
  | 51 => some (10, 334)
  | 67 => some (10, 334)
  | 78 => some (21, 8862)
  | _ => none
end
section
/-! A machine of the mind over numbered cells: what the bytecode of this claim's classes does, as a transformer of predicates.
    Cells 0, 1, 2 are read only (ZERO, HEAD, the script); cells from 3 on stand in the order of their making. -/
abbrev q_I : Type := Nat → Nat → Int32
abbrev q_L : Type := Nat → Nat → Int64
abbrev q_R : Type := Nat → Nat → Option Nat
abbrev q_M : Type := Nat × q_I × q_L × q_R
abbrev q_K : Type := Nat → List (Option Value) → List Value → q_M → Nat → Nat → Prop
abbrev q_Q : Type := Option Value → q_M → Prop
abbrev q_C : Type := Nat → List Value → q_M → q_Q → Prop
def q_up {α : Type} (f : Nat → Nat → α) (a k : Nat) (v : α) : Nat → Nat → α := va_up f a (va_up (f a) k v)
def q_get : List (Option Value) → Nat → Option Value
  | [], _ => none
  | x :: _, 0 => x
  | _ :: t, n + 1 => q_get t n
def q_clr (x : Option Value) : Option Value := match x with
  | some (.long _) => none
  | some (.double _) => none
  | x => x
def q_s1 : List (Option Value) → Nat → Value → Option (List (Option Value))
  | [], _, _ => none
  | _ :: t, 0, v => some (some v :: t)
  | x :: t, n + 1, v => match n with
    | 0 => (match t with | [] => none | _ :: t' => some (q_clr x :: some v :: t'))
    | _ + 1 => (match q_s1 t n v with | some t' => some (x :: t') | none => none)
def q_s2 (l : List (Option Value)) (i : Nat) (v : Value) : Option (List (Option Value)) := match q_s1 l i v with
  | some l1 => (match Nat.blt (i + 1) l1.length with | true => some (l1.set (i + 1) none) | false => none)
  | none => none
def q_tg (pc : Nat) (off : Int) : Nat := ((pc : Int) + off).toNat
/-- the instructions that neither branch nor touch the cells -/
def q_pure (own pc : Nat) (i : Instr) (ls : List (Option Value)) (st : List Value) : Option (Nat × List (Option Value) × List Value) := match i with
  | .iconst n => some (pc + 1, ls, .int (q_c n) :: st)
  | .bipush n => some (pc + 2, ls, .int (q_c n) :: st)
  | .sipush n => some (pc + 3, ls, .int (q_c n) :: st)
  | .lconst n => some (pc + 1, ls, .long (lN n.val) :: st)
  | .ldc x => (match q_ci own x with | some v => some (pc + 2, ls, .int v :: st) | none => none)
  | .ldc_w x => (match q_ci own x with | some v => some (pc + 3, ls, .int v :: st) | none => none)
  | .ldc2_w x => (match q_cl own x with | some v => some (pc + 3, ls, .long v :: st) | none => none)
  | .iload_n k => (match q_get ls k.val with | some (.int x) => some (pc + 1, ls, .int x :: st) | _ => none)
  | .iload k => (match q_get ls k with | some (.int x) => some (pc + 2, ls, .int x :: st) | _ => none)
  | .lload_n k => (match q_get ls k.val with | some (.long x) => some (pc + 1, ls, .long x :: st) | _ => none)
  | .lload k => (match q_get ls k with | some (.long x) => some (pc + 2, ls, .long x :: st) | _ => none)
  | .aload_n k => (match q_get ls k.val with | some (.ref x) => some (pc + 1, ls, .ref x :: st) | _ => none)
  | .aload k => (match q_get ls k with | some (.ref x) => some (pc + 2, ls, .ref x :: st) | _ => none)
  | .istore_n k => (match st with | .int x :: r => (match q_s1 ls k.val (.int x) with | some l => some (pc + 1, l, r) | none => none) | _ => none)
  | .istore k => (match st with | .int x :: r => (match q_s1 ls k (.int x) with | some l => some (pc + 2, l, r) | none => none) | _ => none)
  | .lstore_n k => (match st with | .long x :: r => (match q_s2 ls k.val (.long x) with | some l => some (pc + 1, l, r) | none => none) | _ => none)
  | .lstore k => (match st with | .long x :: r => (match q_s2 ls k (.long x) with | some l => some (pc + 2, l, r) | none => none) | _ => none)
  | .astore_n k => (match st with | .ref x :: r => (match q_s1 ls k.val (.ref x) with | some l => some (pc + 1, l, r) | none => none) | _ => none)
  | .astore k => (match st with | .ref x :: r => (match q_s1 ls k (.ref x) with | some l => some (pc + 2, l, r) | none => none) | _ => none)
  | .iinc k n => (match q_get ls k with | some (.int x) => (match q_s1 ls k (.int (x + q_c n)) with | some l => some (pc + 3, l, st) | none => none) | _ => none)
  | .iadd => (match st with | .int y :: .int x :: r => some (pc + 1, ls, .int (x + y) :: r) | _ => none)
  | .isub => (match st with | .int y :: .int x :: r => some (pc + 1, ls, .int (x - y) :: r) | _ => none)
  | .imul => (match st with | .int y :: .int x :: r => some (pc + 1, ls, .int (x * y) :: r) | _ => none)
  | .iand => (match st with | .int y :: .int x :: r => some (pc + 1, ls, .int (x &&& y) :: r) | _ => none)
  | .ior => (match st with | .int y :: .int x :: r => some (pc + 1, ls, .int (x ||| y) :: r) | _ => none)
  | .ixor => (match st with | .int y :: .int x :: r => some (pc + 1, ls, .int (x ^^^ y) :: r) | _ => none)
  | .ishl => (match st with | .int y :: .int x :: r => some (pc + 1, ls, .int (x <<< (y &&& 31)) :: r) | _ => none)
  | .ishr => (match st with | .int y :: .int x :: r => some (pc + 1, ls, .int (x >>> (y &&& 31)) :: r) | _ => none)
  | .iushr => (match st with | .int y :: .int x :: r => some (pc + 1, ls, .int (x.toUInt32 >>> (y.toUInt32 &&& Int32.toUInt32 31)).toInt32 :: r) | _ => none)
  | .ladd => (match st with | .long y :: .long x :: r => some (pc + 1, ls, .long (x + y) :: r) | _ => none)
  | .lmul => (match st with | .long y :: .long x :: r => some (pc + 1, ls, .long (x * y) :: r) | _ => none)
  | .land => (match st with | .long y :: .long x :: r => some (pc + 1, ls, .long (x &&& y) :: r) | _ => none)
  | .lor => (match st with | .long y :: .long x :: r => some (pc + 1, ls, .long (x ||| y) :: r) | _ => none)
  | .lxor => (match st with | .long y :: .long x :: r => some (pc + 1, ls, .long (x ^^^ y) :: r) | _ => none)
  | .lshl => (match st with | .int y :: .long x :: r => some (pc + 1, ls, .long (x <<< (y.toInt64 &&& 63)) :: r) | _ => none)
  | .lshr => (match st with | .int y :: .long x :: r => some (pc + 1, ls, .long (x >>> (y.toInt64 &&& 63)) :: r) | _ => none)
  | .lushr => (match st with | .int y :: .long x :: r => some (pc + 1, ls, .long (x.toUInt64 >>> (y.toInt64.toUInt64 &&& Int64.toUInt64 63)).toInt64 :: r) | _ => none)
  | .lcmp => (match st with | .long y :: .long x :: r => some (pc + 1, ls, .int (lg_cmp x y) :: r) | _ => none)
  | .i2l => (match st with | .int x :: r => some (pc + 1, ls, .long x.toInt64 :: r) | _ => none)
  | .l2i => (match st with | .long x :: r => some (pc + 1, ls, .int x.toInt32 :: r) | _ => none)
  | .dup => (match st with | v :: r => (match v.category with | 1 => some (pc + 1, ls, v :: v :: r) | _ => none) | _ => none)
  | .dup2 => (match st with
    | v :: w :: r => (match v.category with
      | 1 => (match w.category with | 1 => some (pc + 1, ls, v :: w :: v :: w :: r) | _ => none)
      | _ => none)
    | _ => none)
  | .goto off => some (q_tg pc off, ls, st)
  | .getstatic x => (match q_sr own x with | some a => some (pc + 3, ls, .ref a :: st) | none => none)
  | _ => none
def q_sw (K : Nat → Prop) (pc : Nat) (x : Int32) : Int → List Int → Prop
  | _, [] => True
  | lo, o :: t => (x.toInt = lo → K (q_tg pc o)) ∧ q_sw K pc x (lo + 1) t
/-- an object of the class ci; an array of the kind t -/
def q_ob (n a ci : Nat) : Prop := a < n ∧ q_kd a = (8, ci)
def q_ar (n a t len : Nat) : Prop := 2 < a ∧ a < n ∧ q_kd a = (t, len)
def q_ai (L n a len : Nat) : Prop := q_ar n a 0 len ∨ (a = 2 ∧ len = L)
def q_ac0 (n a len : Nat) : Prop := q_ar n a 0 len ∨ (a = 0 ∧ len = 8) ∨ (a = 1 ∧ len = 4)
def q_cp (sp dp n : Int32) (n0 n1 : Nat) : Prop := ¬ sp < 0 ∧ ¬ dp < 0 ∧ ¬ n < 0 ∧ sp.toNatClampNeg + n.toNatClampNeg ≤ n0 ∧ dp.toNatClampNeg + n.toNatClampNeg ≤ n1
def q_cat (st : List Value) : Nat := match st with
  | [] => 0
  | v :: r => v.category + q_cat r
/-- the topmost k of the stack, lowest first, and the rest -/
def q_spl : Nat → List Value → List Value → Option (List Value × List Value)
  | 0, acc, st => some (acc, st)
  | k + 1, acc, v :: st => q_spl k (v :: acc) st
  | _ + 1, _, [] => none
def q_bz (x : Int32) : Prop := x = 0 ∨ x = 1
def q_tagOf (t : ArrayType) : Option Nat := match t with
  | .int => some 0
  | .long => some 1
  | .boolean => some 2
  | _ => none
def q_do (own : Nat) (cap : Nat × Nat) (call : q_C) (K : q_K) (pc mi : Nat) (as rest : List Value) (ls : List (Option Value)) (μ : q_M) (uc us : Nat) : Prop :=
  match Nat.ble (q_cat rest) 8 with
  | true => (match q_al mi with
    | none => call mi as μ (fun r μ' => K (pc + 3) ls (r.toList ++ rest) μ' uc us)
    | some (ac, ax) => (uc + ac ≤ cap.1 ∧ us + ax ≤ cap.2) ∧ call mi as μ (fun r μ' => K (pc + 3) ls (r.toList ++ rest) μ' (uc + ac) (us + ax)))
  | false => False
def q_eff (L own rt : Nat) (ini : Bool) (cap : Nat × Nat) (call : q_C) (Q : q_Q) (K : q_K) (pc : Nat) (i : Instr) (ls : List (Option Value)) (st : List Value) (μ : q_M) (uc us : Nat) : Prop := match i with
  | .irem => (match st with | .int y :: .int x :: r => ¬ y = 0 ∧ K (pc + 1) ls (.int (x - x / y * y) :: r) μ uc us | _ => False)
  | .lrem => (match st with | .long y :: .long x :: r => ¬ y = 0 ∧ K (pc + 1) ls (.long (x - x / y * y) :: r) μ uc us | _ => False)
  | .ifCond c off => (match st with
    | .int x :: r => (match c with
      | .eq => (x = 0 → K (q_tg pc off) ls r μ uc us) ∧ (¬ x = 0 → K (pc + 3) ls r μ uc us)
      | .ne => (¬ x = 0 → K (q_tg pc off) ls r μ uc us) ∧ (x = 0 → K (pc + 3) ls r μ uc us)
      | .lt => (x < 0 → K (q_tg pc off) ls r μ uc us) ∧ (¬ x < 0 → K (pc + 3) ls r μ uc us)
      | .ge => (0 ≤ x → K (q_tg pc off) ls r μ uc us) ∧ (¬ 0 ≤ x → K (pc + 3) ls r μ uc us)
      | .gt => (0 < x → K (q_tg pc off) ls r μ uc us) ∧ (¬ 0 < x → K (pc + 3) ls r μ uc us)
      | .le => (x ≤ 0 → K (q_tg pc off) ls r μ uc us) ∧ (¬ x ≤ 0 → K (pc + 3) ls r μ uc us))
    | _ => False)
  | .if_icmp c off => (match st with
    | .int y :: .int x :: r => (match c with
      | .eq => (x = y → K (q_tg pc off) ls r μ uc us) ∧ (¬ x = y → K (pc + 3) ls r μ uc us)
      | .ne => (¬ x = y → K (q_tg pc off) ls r μ uc us) ∧ (x = y → K (pc + 3) ls r μ uc us)
      | .lt => (x < y → K (q_tg pc off) ls r μ uc us) ∧ (¬ x < y → K (pc + 3) ls r μ uc us)
      | .ge => (y ≤ x → K (q_tg pc off) ls r μ uc us) ∧ (¬ y ≤ x → K (pc + 3) ls r μ uc us)
      | .gt => (y < x → K (q_tg pc off) ls r μ uc us) ∧ (¬ y < x → K (pc + 3) ls r μ uc us)
      | .le => (x ≤ y → K (q_tg pc off) ls r μ uc us) ∧ (¬ x ≤ y → K (pc + 3) ls r μ uc us))
    | _ => False)
  | .tableswitch dflt lo hi offs => (match st with
    | .int x :: r => (x.toInt < lo ∨ hi < x.toInt → K (q_tg pc dflt) ls r μ uc us) ∧ q_sw (fun t => K t ls r μ uc us) pc x lo offs.toList
    | _ => False)
  | .getfield x => (match q_fr own x with
    | some (ci, k, ty, _) => (match st with
      | .ref a :: r => q_ob μ.1 a ci ∧ (match ty with
        | 0 => K (pc + 3) ls (.int (μ.2.1 a k) :: r) μ uc us
        | 1 => K (pc + 3) ls (.int (μ.2.1 a k) :: r) μ uc us
        | 2 => K (pc + 3) ls (.long (μ.2.2.1 a k) :: r) μ uc us
        | _ => ∃ b, μ.2.2.2 a k = some b ∧ K (pc + 3) ls (.ref b :: r) μ uc us)
      | _ => False)
    | none => False)
  | .putfield x => (match q_fr own x with
    | some (ci, k, ty, fin) => (match !fin || (ini && Nat.beq own ci) with
      | true => (match ty with
        | 0 => (match st with | .int v :: .ref a :: r => q_ob μ.1 a ci ∧ K (pc + 3) ls r (μ.1, q_up μ.2.1 a k v, μ.2.2.1, μ.2.2.2) uc us | _ => False)
        | 1 => (match st with | .int v :: .ref a :: r => q_ob μ.1 a ci ∧ q_bz v ∧ K (pc + 3) ls r (μ.1, q_up μ.2.1 a k v, μ.2.2.1, μ.2.2.2) uc us | _ => False)
        | 2 => (match st with | .long v :: .ref a :: r => q_ob μ.1 a ci ∧ K (pc + 3) ls r (μ.1, μ.2.1, q_up μ.2.2.1 a k v, μ.2.2.2) uc us | _ => False)
        | _ => (match st with | .ref b :: .ref a :: r => q_ob μ.1 a ci ∧ K (pc + 3) ls r (μ.1, μ.2.1, μ.2.2.1, q_up μ.2.2.2 a k (some b)) uc us | _ => False))
      | false => False)
    | none => False)
  | .iaload => (match st with | .int j :: .ref a :: r => ∃ len, q_ai L μ.1 a len ∧ vp_in j len ∧ K (pc + 1) ls (.int (μ.2.1 a j.toNatClampNeg) :: r) μ uc us | _ => False)
  | .laload => (match st with | .int j :: .ref a :: r => ∃ len, q_ar μ.1 a 1 len ∧ vp_in j len ∧ K (pc + 1) ls (.long (μ.2.2.1 a j.toNatClampNeg) :: r) μ uc us | _ => False)
  | .baload => (match st with | .int j :: .ref a :: r => ∃ len, q_ar μ.1 a 2 len ∧ vp_in j len ∧ K (pc + 1) ls (.int (μ.2.1 a j.toNatClampNeg) :: r) μ uc us | _ => False)
  | .aaload => (match st with | .int j :: .ref a :: r => ∃ t len b, (q_ar μ.1 a t len ∧ 3 ≤ t ∧ t ≤ 7) ∧ vp_in j len ∧ μ.2.2.2 a j.toNatClampNeg = some b ∧ K (pc + 1) ls (.ref b :: r) μ uc us | _ => False)
  | .iastore => (match st with | .int v :: .int j :: .ref a :: r => ∃ len, q_ar μ.1 a 0 len ∧ vp_in j len ∧ K (pc + 1) ls r (μ.1, q_up μ.2.1 a j.toNatClampNeg v, μ.2.2.1, μ.2.2.2) uc us | _ => False)
  | .lastore => (match st with | .long v :: .int j :: .ref a :: r => ∃ len, q_ar μ.1 a 1 len ∧ vp_in j len ∧ K (pc + 1) ls r (μ.1, μ.2.1, q_up μ.2.2.1 a j.toNatClampNeg v, μ.2.2.2) uc us | _ => False)
  | .bastore => (match st with | .int v :: .int j :: .ref a :: r => ∃ len, q_ar μ.1 a 2 len ∧ vp_in j len ∧ q_bz v ∧ K (pc + 1) ls r (μ.1, q_up μ.2.1 a j.toNatClampNeg v, μ.2.2.1, μ.2.2.2) uc us | _ => False)
  | .aastore => (match st with | .ref b :: .int j :: .ref a :: r => ∃ t len, (q_ar μ.1 a t len ∧ 3 ≤ t ∧ t ≤ 6) ∧ q_ob μ.1 b (q_el t) ∧ vp_in j len ∧ K (pc + 1) ls r (μ.1, μ.2.1, μ.2.2.1, q_up μ.2.2.2 a j.toNatClampNeg (some b)) uc us | _ => False)
  | .arraylength => (match st with | .ref a :: r => a = 2 ∧ K (pc + 1) ls (.int (nI L) :: r) μ uc us | _ => False)
  | .new x => (match q_cr own x with
    | some ci => q_kd μ.1 = (8, ci) ∧ (uc + 1 ≤ cap.1 ∧ us + q_nf ci ≤ cap.2) ∧
        K (pc + 3) ls (.ref μ.1 :: st) (μ.1 + 1, va_up μ.2.1 μ.1 (fun _ => 0), va_up μ.2.2.1 μ.1 (fun _ => 0), va_up μ.2.2.2 μ.1 (fun _ => none)) (uc + 1) (us + q_nf ci)
    | none => False)
  | .newarray t => (match q_tagOf t with
    | some tg => (match st with
      | .int v :: r => ∃ N, (q_kd μ.1 = (tg, N) ∧ ¬ v < 0 ∧ v.toNatClampNeg = N ∧ N ≤ 10000) ∧ (uc + 1 ≤ cap.1 ∧ us + N ≤ cap.2) ∧
          K (pc + 2) ls (.ref μ.1 :: r) (μ.1 + 1, va_up μ.2.1 μ.1 (fun _ => 0), va_up μ.2.2.1 μ.1 (fun _ => 0), μ.2.2.2) (uc + 1) (us + N)
      | _ => False)
    | none => False)
  | .anewarray x => (match q_cr own x with
    | some ci => (match st with
      | .int v :: r => ∃ t N, (q_kd μ.1 = (t, N) ∧ 3 ≤ t ∧ t ≤ 6 ∧ q_el t = ci ∧ ¬ v < 0 ∧ v.toNatClampNeg = N ∧ N ≤ 10000) ∧ (uc + 1 ≤ cap.1 ∧ us + N ≤ cap.2) ∧
          K (pc + 3) ls (.ref μ.1 :: r) (μ.1 + 1, μ.2.1, μ.2.2.1, va_up μ.2.2.2 μ.1 (fun _ => none)) (uc + 1) (us + N)
      | _ => False)
    | none => False)
  | .multianewarray x y => (match Nat.beq own 7 && Nat.beq x 28 && Nat.beq y 2 with
    | true => (match st with
      | .int m :: .int n :: r => ∃ N M, (n = nI N ∧ m = nI M ∧ N ≤ 1000 ∧ M ≤ 1000) ∧ (q_kd μ.1 = (7, N) ∧ ∀ j, j < N → q_kd (μ.1 + 1 + j) = (1, M)) ∧ (uc + (N + 1) ≤ cap.1 ∧ us + (N + N * M) ≤ cap.2) ∧
          K (pc + 4) ls (.ref μ.1 :: r) (μ.1 + (N + 1), μ.2.1, (fun a => if μ.1 < a ∧ a < μ.1 + (N + 1) then (fun _ => 0) else μ.2.2.1 a), va_up μ.2.2.2 μ.1 (fun j => some (μ.1 + 1 + j))) (uc + (N + 1)) (us + (N + N * M))
      | _ => False)
    | false => False)
  | .invokevirtual x => (match q_mr own x with
    | some (mi, na, 0) => (match q_spl na [] st with
      | some (as, rest) => (match as with
        | .ref b :: _ => q_ob μ.1 b (q_mc mi) ∧ q_do own cap call K pc mi as rest ls μ uc us
        | _ => False)
      | none => False)
    | _ => False)
  | .invokespecial x => (match q_mr own x with
    | some (mi, na, 1) => (match q_spl na [] st with
      | some (as, rest) => (match as with
        | .ref _ :: _ => q_do own cap call K pc mi as rest ls μ uc us
        | _ => False)
      | none => False)
    | some (_, _, 3) => (match st with | .ref _ :: r => (match Nat.ble (q_cat r) 8 with | true => K (pc + 3) ls r μ uc us | false => False) | _ => False)
    | _ => False)
  | .invokestatic x => (match q_mr own x with
    | some (mi, na, 2) => (match q_spl na [] st with
      | some (as, rest) => q_do own cap call K pc mi as rest ls μ uc us
      | none => False)
    | some (_, _, 4) => (match st with
      | .int n :: .int dp :: .ref a :: .int sp :: .ref a0 :: r => (match Nat.ble (q_cat r) 8 with
        | true => (∃ n0 n1, q_ac0 μ.1 a0 n0 ∧ q_ar μ.1 a 0 n1 ∧ q_cp sp dp n n0 n1 ∧ K (pc + 3) ls r (μ.1, va_up μ.2.1 a (va_cpy (μ.2.1 a0) (μ.2.1 a) sp.toNatClampNeg dp.toNatClampNeg n.toNatClampNeg), μ.2.2.1, μ.2.2.2) uc us) ∨
            (∃ n0 n1, q_ar μ.1 a0 1 n0 ∧ q_ar μ.1 a 1 n1 ∧ q_cp sp dp n n0 n1 ∧ K (pc + 3) ls r (μ.1, μ.2.1, va_up μ.2.2.1 a (va_cpy (μ.2.2.1 a0) (μ.2.2.1 a) sp.toNatClampNeg dp.toNatClampNeg n.toNatClampNeg), μ.2.2.2) uc us)
        | false => False)
      | _ => False)
    | some (_, _, 5) => (match st with | .int y :: .int x :: r => (match Nat.ble (q_cat r) 8 with | true => K (pc + 3) ls (.int (if y < x then y else x) :: r) μ uc us | false => False) | _ => False)
    | _ => False)
  | .ireturn => (match st with
    | [.int v] => (match rt with | 1 => Q (some (.int v)) μ | 2 => q_bz v ∧ Q (some (.int v)) μ | _ => False)
    | _ => False)
  | .lreturn => (match st with | [.long v] => (match rt with | 3 => Q (some (.long v)) μ | _ => False) | _ => False)
  | .areturn => (match st with | [.ref v] => (match rt with | 4 => Q (some (.ref v)) μ | _ => False) | _ => False)
  | .return_ => (match st with | [] => (match rt with | 0 => Q none μ | _ => False) | _ => False)
  | _ => False
/-- a step at the place pc of the method's code -/
def q_stp (L own rt : Nat) (ini : Bool) (cap : Nat × Nat) (code : Nat → Option Instr) (call : q_C) (Q : q_Q) (K : q_K) : q_K := fun pc ls st μ uc us => match code pc with
  | none => False
  | some i => (match q_pure own pc i ls st with
    | some (pc', ls', st') => K pc' ls' st' μ uc us
    | none => q_eff L own rt ini cap call Q K pc i ls st μ uc us)
/-- the least predicate that the steps keep -/
def q_WP (L own rt : Nat) (ini : Bool) (cap : Nat × Nat) (code : Nat → Option Instr) (call : q_C) (Q : q_Q) : q_K := fun pc ls st μ uc us =>
  ∀ X : q_K, (∀ pc ls st μ uc us, q_stp L own rt ini cap code call Q X pc ls st μ uc us → X pc ls st μ uc us) → X pc ls st μ uc us
def q_it (L own rt : Nat) (ini : Bool) (cap : Nat × Nat) (code : Nat → Option Instr) (call : q_C) (Q : q_Q) (K : q_K) : Nat → q_K
  | 0 => K
  | n + 1 => q_stp L own rt ini cap code call Q (q_it L own rt ini cap code call Q K n)
def q_mono (call : q_C) : Prop := ∀ mi as μ (Q Q' : q_Q), (∀ r μ, Q r μ → Q' r μ) → call mi as μ Q → call mi as μ Q'
abbrev q_MI : Type := MethodName × ByteArray × Nat × Option FieldType × Nat × Nat × Bool × (Nat → Option Instr)
end
section
def q_g (N : Nat) (f : Nat → Option Instr) (pc : Nat) : Option Instr := bif Nat.blt pc N then f pc else none
def q_t0 (pc : Nat) : Option Instr := bif Nat.blt pc 13 then (bif Nat.blt pc 5 then (bif Nat.blt pc 1 then (bif Nat.beq pc 0 then some (.aload_n 0) else none) else (bif Nat.blt pc 4 then (bif Nat.beq pc 1 then some (.invokespecial 3) else none) else (bif Nat.beq pc 4 then some (.aload_n 0) else none))) else (bif Nat.blt pc 9 then (bif Nat.blt pc 7 then (bif Nat.beq pc 5 then some (.bipush 16) else none) else (bif Nat.beq pc 7 then some (.newarray .int) else none)) else (bif Nat.blt pc 12 then (bif Nat.beq pc 9 then some (.putfield 9) else none) else (bif Nat.beq pc 12 then some (.aload_n 0) else none)))) else (bif Nat.blt pc 21 then (bif Nat.blt pc 17 then (bif Nat.blt pc 15 then (bif Nat.beq pc 13 then some (.bipush 16) else none) else (bif Nat.beq pc 15 then some (.newarray .int) else none)) else (bif Nat.blt pc 20 then (bif Nat.beq pc 17 then some (.putfield 15) else none) else (bif Nat.beq pc 20 then some (.aload_n 0) else none))) else (bif Nat.blt pc 25 then (bif Nat.blt pc 23 then (bif Nat.beq pc 21 then some (.bipush 8) else none) else (bif Nat.beq pc 23 then some (.newarray .int) else none)) else (bif Nat.blt pc 28 then (bif Nat.beq pc 25 then some (.putfield 18) else none) else (bif Nat.beq pc 28 then some (.return_) else none))))
def q_x0 : Nat → Option Instr := q_g 29 q_t0
def q_y0 : MethodName := ⟨"RatchetPost$Mixer", "<init>", "()V"⟩
def q_m0 : q_MI := (q_y0, prog_4_method_1_code, 1, none, 0, 0, true, q_x0)
def q_t1 (pc : Nat) : Option Instr := bif Nat.blt pc 102 then (bif Nat.blt pc 51 then (bif Nat.blt pc 25 then (bif Nat.blt pc 13 then (bif Nat.blt pc 5 then (bif Nat.blt pc 3 then (bif Nat.beq pc 0 then some (.getstatic 21) else none) else (bif Nat.blt pc 4 then (bif Nat.beq pc 3 then some (.iconst 0) else none) else (bif Nat.beq pc 4 then some (.aload_n 0) else none))) else (bif Nat.blt pc 9 then (bif Nat.blt pc 8 then (bif Nat.beq pc 5 then some (.getfield 9) else none) else (bif Nat.beq pc 8 then some (.iconst 0) else none)) else (bif Nat.blt pc 10 then (bif Nat.beq pc 9 then some (.iconst 4) else none) else (bif Nat.beq pc 10 then some (.invokestatic 24) else none)))) else (bif Nat.blt pc 16 then (bif Nat.blt pc 14 then (bif Nat.beq pc 13 then some (.aload_n 2) else none) else (bif Nat.blt pc 15 then (bif Nat.beq pc 14 then some (.iconst 0) else none) else (bif Nat.beq pc 15 then some (.aload_n 0) else none))) else (bif Nat.blt pc 20 then (bif Nat.blt pc 19 then (bif Nat.beq pc 16 then some (.getfield 9) else none) else (bif Nat.beq pc 19 then some (.iconst 4) else none)) else (bif Nat.blt pc 22 then (bif Nat.beq pc 20 then some (.bipush 8) else none) else (bif Nat.beq pc 22 then some (.invokestatic 24) else none))))) else (bif Nat.blt pc 37 then (bif Nat.blt pc 31 then (bif Nat.blt pc 26 then (bif Nat.beq pc 25 then some (.aload_n 0) else none) else (bif Nat.blt pc 29 then (bif Nat.beq pc 26 then some (.getfield 9) else none) else (bif Nat.beq pc 29 then some (.bipush 12) else none))) else (bif Nat.blt pc 33 then (bif Nat.blt pc 32 then (bif Nat.beq pc 31 then some (.iload_n 3) else none) else (bif Nat.beq pc 32 then some (.iastore) else none)) else (bif Nat.blt pc 34 then (bif Nat.beq pc 33 then some (.aload_n 0) else none) else (bif Nat.beq pc 34 then some (.getfield 9) else none)))) else (bif Nat.blt pc 43 then (bif Nat.blt pc 41 then (bif Nat.blt pc 39 then (bif Nat.beq pc 37 then some (.bipush 13) else none) else (bif Nat.beq pc 39 then some (.iload 4) else none)) else (bif Nat.blt pc 42 then (bif Nat.beq pc 41 then some (.iastore) else none) else (bif Nat.beq pc 42 then some (.aload_n 0) else none))) else (bif Nat.blt pc 48 then (bif Nat.blt pc 46 then (bif Nat.beq pc 43 then some (.getfield 9) else none) else (bif Nat.beq pc 46 then some (.bipush 14) else none)) else (bif Nat.blt pc 50 then (bif Nat.beq pc 48 then some (.iload 5) else none) else (bif Nat.beq pc 50 then some (.iastore) else none)))))) else (bif Nat.blt pc 76 then (bif Nat.blt pc 64 then (bif Nat.blt pc 57 then (bif Nat.blt pc 52 then (bif Nat.beq pc 51 then some (.aload_n 0) else none) else (bif Nat.blt pc 55 then (bif Nat.beq pc 52 then some (.getfield 9) else none) else (bif Nat.beq pc 55 then some (.bipush 15) else none))) else (bif Nat.blt pc 60 then (bif Nat.blt pc 59 then (bif Nat.beq pc 57 then some (.iload 6) else none) else (bif Nat.beq pc 59 then some (.iastore) else none)) else (bif Nat.blt pc 61 then (bif Nat.beq pc 60 then some (.aload_n 0) else none) else (bif Nat.beq pc 61 then some (.getfield 9) else none)))) else (bif Nat.blt pc 69 then (bif Nat.blt pc 65 then (bif Nat.beq pc 64 then some (.iconst 0) else none) else (bif Nat.blt pc 66 then (bif Nat.beq pc 65 then some (.aload_n 0) else none) else (bif Nat.beq pc 66 then some (.getfield 15) else none))) else (bif Nat.blt pc 72 then (bif Nat.blt pc 70 then (bif Nat.beq pc 69 then some (.iconst 0) else none) else (bif Nat.beq pc 70 then some (.bipush 16) else none)) else (bif Nat.blt pc 75 then (bif Nat.beq pc 72 then some (.invokestatic 24) else none) else (bif Nat.beq pc 75 then some (.iconst 0) else none))))) else (bif Nat.blt pc 88 then (bif Nat.blt pc 82 then (bif Nat.blt pc 78 then (bif Nat.beq pc 76 then some (.istore 7) else none) else (bif Nat.blt pc 80 then (bif Nat.beq pc 78 then some (.iload 7) else none) else (bif Nat.beq pc 80 then some (.bipush 10) else none))) else (bif Nat.blt pc 86 then (bif Nat.blt pc 85 then (bif Nat.beq pc 82 then some (.if_icmp .ge 93) else none) else (bif Nat.beq pc 85 then some (.aload_n 0) else none)) else (bif Nat.blt pc 87 then (bif Nat.beq pc 86 then some (.iconst 0) else none) else (bif Nat.beq pc 87 then some (.iconst 4) else none)))) else (bif Nat.blt pc 96 then (bif Nat.blt pc 92 then (bif Nat.blt pc 90 then (bif Nat.beq pc 88 then some (.bipush 8) else none) else (bif Nat.beq pc 90 then some (.bipush 12) else none)) else (bif Nat.blt pc 95 then (bif Nat.beq pc 92 then some (.invokevirtual 30) else none) else (bif Nat.beq pc 95 then some (.aload_n 0) else none))) else (bif Nat.blt pc 98 then (bif Nat.blt pc 97 then (bif Nat.beq pc 96 then some (.iconst 1) else none) else (bif Nat.beq pc 97 then some (.iconst 5) else none)) else (bif Nat.blt pc 100 then (bif Nat.beq pc 98 then some (.bipush 9) else none) else (bif Nat.beq pc 100 then some (.bipush 13) else none))))))) else (bif Nat.blt pc 154 then (bif Nat.blt pc 128 then (bif Nat.blt pc 116 then (bif Nat.blt pc 107 then (bif Nat.blt pc 105 then (bif Nat.beq pc 102 then some (.invokevirtual 30) else none) else (bif Nat.blt pc 106 then (bif Nat.beq pc 105 then some (.aload_n 0) else none) else (bif Nat.beq pc 106 then some (.iconst 2) else none))) else (bif Nat.blt pc 111 then (bif Nat.blt pc 109 then (bif Nat.beq pc 107 then some (.bipush 6) else none) else (bif Nat.beq pc 109 then some (.bipush 10) else none)) else (bif Nat.blt pc 113 then (bif Nat.beq pc 111 then some (.bipush 14) else none) else (bif Nat.beq pc 113 then some (.invokevirtual 30) else none)))) else (bif Nat.blt pc 120 then (bif Nat.blt pc 117 then (bif Nat.beq pc 116 then some (.aload_n 0) else none) else (bif Nat.blt pc 118 then (bif Nat.beq pc 117 then some (.iconst 3) else none) else (bif Nat.beq pc 118 then some (.bipush 7) else none))) else (bif Nat.blt pc 124 then (bif Nat.blt pc 122 then (bif Nat.beq pc 120 then some (.bipush 11) else none) else (bif Nat.beq pc 122 then some (.bipush 15) else none)) else (bif Nat.blt pc 127 then (bif Nat.beq pc 124 then some (.invokevirtual 30) else none) else (bif Nat.beq pc 127 then some (.aload_n 0) else none))))) else (bif Nat.blt pc 139 then (bif Nat.blt pc 132 then (bif Nat.blt pc 129 then (bif Nat.beq pc 128 then some (.iconst 0) else none) else (bif Nat.blt pc 130 then (bif Nat.beq pc 129 then some (.iconst 5) else none) else (bif Nat.beq pc 130 then some (.bipush 10) else none))) else (bif Nat.blt pc 137 then (bif Nat.blt pc 134 then (bif Nat.beq pc 132 then some (.bipush 15) else none) else (bif Nat.beq pc 134 then some (.invokevirtual 30) else none)) else (bif Nat.blt pc 138 then (bif Nat.beq pc 137 then some (.aload_n 0) else none) else (bif Nat.beq pc 138 then some (.iconst 1) else none)))) else (bif Nat.blt pc 148 then (bif Nat.blt pc 143 then (bif Nat.blt pc 141 then (bif Nat.beq pc 139 then some (.bipush 6) else none) else (bif Nat.beq pc 141 then some (.bipush 11) else none)) else (bif Nat.blt pc 145 then (bif Nat.beq pc 143 then some (.bipush 12) else none) else (bif Nat.beq pc 145 then some (.invokevirtual 30) else none))) else (bif Nat.blt pc 150 then (bif Nat.blt pc 149 then (bif Nat.beq pc 148 then some (.aload_n 0) else none) else (bif Nat.beq pc 149 then some (.iconst 2) else none)) else (bif Nat.blt pc 152 then (bif Nat.beq pc 150 then some (.bipush 7) else none) else (bif Nat.beq pc 152 then some (.bipush 8) else none)))))) else (bif Nat.blt pc 185 then (bif Nat.blt pc 166 then (bif Nat.blt pc 160 then (bif Nat.blt pc 156 then (bif Nat.beq pc 154 then some (.bipush 13) else none) else (bif Nat.blt pc 159 then (bif Nat.beq pc 156 then some (.invokevirtual 30) else none) else (bif Nat.beq pc 159 then some (.aload_n 0) else none))) else (bif Nat.blt pc 162 then (bif Nat.blt pc 161 then (bif Nat.beq pc 160 then some (.iconst 3) else none) else (bif Nat.beq pc 161 then some (.iconst 4) else none)) else (bif Nat.blt pc 164 then (bif Nat.beq pc 162 then some (.bipush 9) else none) else (bif Nat.beq pc 164 then some (.bipush 14) else none)))) else (bif Nat.blt pc 176 then (bif Nat.blt pc 172 then (bif Nat.blt pc 169 then (bif Nat.beq pc 166 then some (.invokevirtual 30) else none) else (bif Nat.beq pc 169 then some (.iinc 7 1) else none)) else (bif Nat.blt pc 175 then (bif Nat.beq pc 172 then some (.goto (-94)) else none) else (bif Nat.beq pc 175 then some (.iconst 0) else none))) else (bif Nat.blt pc 180 then (bif Nat.blt pc 178 then (bif Nat.beq pc 176 then some (.istore 7) else none) else (bif Nat.beq pc 178 then some (.iload 7) else none)) else (bif Nat.blt pc 182 then (bif Nat.beq pc 180 then some (.bipush 8) else none) else (bif Nat.beq pc 182 then some (.if_icmp .ge 28) else none))))) else (bif Nat.blt pc 196 then (bif Nat.blt pc 189 then (bif Nat.blt pc 186 then (bif Nat.beq pc 185 then some (.aload_n 1) else none) else (bif Nat.blt pc 188 then (bif Nat.beq pc 186 then some (.iload 7) else none) else (bif Nat.beq pc 188 then some (.aload_n 0) else none))) else (bif Nat.blt pc 194 then (bif Nat.blt pc 192 then (bif Nat.beq pc 189 then some (.getfield 15) else none) else (bif Nat.beq pc 192 then some (.iload 7) else none)) else (bif Nat.blt pc 195 then (bif Nat.beq pc 194 then some (.iaload) else none) else (bif Nat.beq pc 195 then some (.aload_n 0) else none)))) else (bif Nat.blt pc 203 then (bif Nat.blt pc 201 then (bif Nat.blt pc 199 then (bif Nat.beq pc 196 then some (.getfield 9) else none) else (bif Nat.beq pc 199 then some (.iload 7) else none)) else (bif Nat.blt pc 202 then (bif Nat.beq pc 201 then some (.iaload) else none) else (bif Nat.beq pc 202 then some (.iadd) else none))) else (bif Nat.blt pc 207 then (bif Nat.blt pc 204 then (bif Nat.beq pc 203 then some (.iastore) else none) else (bif Nat.beq pc 204 then some (.iinc 7 1) else none)) else (bif Nat.blt pc 210 then (bif Nat.beq pc 207 then some (.goto (-29)) else none) else (bif Nat.beq pc 210 then some (.return_) else none)))))))
def q_x1 : Nat → Option Instr := q_g 211 q_t1
def q_y1 : MethodName := ⟨"RatchetPost$Mixer", "blend", "([I[IIIII)V"⟩
def q_m1 : q_MI := (q_y1, prog_4_method_2_code, 8, none, 0, 0, false, q_x1)
def q_t2 (pc : Nat) : Option Instr := bif Nat.blt pc 10 then (bif Nat.blt pc 5 then (bif Nat.blt pc 1 then (bif Nat.beq pc 0 then some (.aload_n 0) else none) else (bif Nat.blt pc 2 then (bif Nat.beq pc 1 then some (.aload_n 0) else none) else (bif Nat.beq pc 2 then some (.getfield 18) else none))) else (bif Nat.blt pc 7 then (bif Nat.blt pc 6 then (bif Nat.beq pc 5 then some (.aload_n 1) else none) else (bif Nat.beq pc 6 then some (.iload_n 2) else none)) else (bif Nat.blt pc 8 then (bif Nat.beq pc 7 then some (.iload_n 3) else none) else (bif Nat.beq pc 8 then some (.iload 4) else none)))) else (bif Nat.blt pc 16 then (bif Nat.blt pc 12 then (bif Nat.beq pc 10 then some (.iload 5) else none) else (bif Nat.blt pc 15 then (bif Nat.beq pc 12 then some (.invokevirtual 34) else none) else (bif Nat.beq pc 15 then some (.aload_n 0) else none))) else (bif Nat.blt pc 20 then (bif Nat.blt pc 19 then (bif Nat.beq pc 16 then some (.getfield 18) else none) else (bif Nat.beq pc 19 then some (.iconst 0) else none)) else (bif Nat.blt pc 21 then (bif Nat.beq pc 20 then some (.iaload) else none) else (bif Nat.beq pc 21 then some (.ireturn) else none))))
def q_x2 : Nat → Option Instr := q_g 22 q_t2
def q_y2 : MethodName := ⟨"RatchetPost$Mixer", "firstWord", "([IIIII)I"⟩
def q_m2 : q_MI := (q_y2, prog_4_method_3_code, 6, (some .int), 0, 1, false, q_x2)
def q_t3 (pc : Nat) : Option Instr := bif Nat.blt pc 20 then (bif Nat.blt pc 8 then (bif Nat.blt pc 5 then (bif Nat.blt pc 1 then (bif Nat.beq pc 0 then some (.aload_n 0) else none) else (bif Nat.blt pc 2 then (bif Nat.beq pc 1 then some (.aload_n 0) else none) else (bif Nat.beq pc 2 then some (.getfield 18) else none))) else (bif Nat.blt pc 6 then (bif Nat.beq pc 5 then some (.aload_n 1) else none) else (bif Nat.blt pc 7 then (bif Nat.beq pc 6 then some (.iload_n 2) else none) else (bif Nat.beq pc 7 then some (.iload_n 3) else none)))) else (bif Nat.blt pc 15 then (bif Nat.blt pc 10 then (bif Nat.beq pc 8 then some (.iload 4) else none) else (bif Nat.blt pc 12 then (bif Nat.beq pc 10 then some (.iload 5) else none) else (bif Nat.beq pc 12 then some (.invokevirtual 34) else none))) else (bif Nat.blt pc 16 then (bif Nat.beq pc 15 then some (.aload_n 0) else none) else (bif Nat.blt pc 19 then (bif Nat.beq pc 16 then some (.getfield 18) else none) else (bif Nat.beq pc 19 then some (.iconst 0) else none))))) else (bif Nat.blt pc 29 then (bif Nat.blt pc 24 then (bif Nat.blt pc 21 then (bif Nat.beq pc 20 then some (.iaload) else none) else (bif Nat.blt pc 22 then (bif Nat.beq pc 21 then some (.i2l) else none) else (bif Nat.beq pc 22 then some (.bipush 32) else none))) else (bif Nat.blt pc 25 then (bif Nat.beq pc 24 then some (.lshl) else none) else (bif Nat.blt pc 26 then (bif Nat.beq pc 25 then some (.aload_n 0) else none) else (bif Nat.beq pc 26 then some (.getfield 18) else none)))) else (bif Nat.blt pc 32 then (bif Nat.blt pc 30 then (bif Nat.beq pc 29 then some (.iconst 1) else none) else (bif Nat.blt pc 31 then (bif Nat.beq pc 30 then some (.iaload) else none) else (bif Nat.beq pc 31 then some (.i2l) else none))) else (bif Nat.blt pc 36 then (bif Nat.blt pc 35 then (bif Nat.beq pc 32 then some (.ldc2_w 38) else none) else (bif Nat.beq pc 35 then some (.land) else none)) else (bif Nat.blt pc 37 then (bif Nat.beq pc 36 then some (.lor) else none) else (bif Nat.beq pc 37 then some (.lreturn) else none)))))
def q_x3 : Nat → Option Instr := q_g 38 q_t3
def q_y3 : MethodName := ⟨"RatchetPost$Mixer", "wideWord", "([IIIII)J"⟩
def q_m3 : q_MI := (q_y3, prog_4_method_4_code, 6, (some .long), 0, 3, false, q_x3)
def q_t4 (pc : Nat) : Option Instr := bif Nat.blt pc 11 then (bif Nat.blt pc 5 then (bif Nat.blt pc 2 then (bif Nat.blt pc 1 then (bif Nat.beq pc 0 then some (.aload_n 0) else none) else (bif Nat.beq pc 1 then some (.aload_n 1) else none)) else (bif Nat.blt pc 3 then (bif Nat.beq pc 2 then some (.aload_n 2) else none) else (bif Nat.beq pc 3 then some (.bipush 7) else none))) else (bif Nat.blt pc 7 then (bif Nat.blt pc 6 then (bif Nat.beq pc 5 then some (.iconst 0) else none) else (bif Nat.beq pc 6 then some (.iconst 0) else none)) else (bif Nat.blt pc 8 then (bif Nat.beq pc 7 then some (.iconst 0) else none) else (bif Nat.beq pc 8 then some (.invokevirtual 34) else none)))) else (bif Nat.blt pc 16 then (bif Nat.blt pc 13 then (bif Nat.blt pc 12 then (bif Nat.beq pc 11 then some (.aload_n 0) else none) else (bif Nat.beq pc 12 then some (.aload_n 2) else none)) else (bif Nat.blt pc 14 then (bif Nat.beq pc 13 then some (.aload_n 2) else none) else (bif Nat.beq pc 14 then some (.bipush 8) else none))) else (bif Nat.blt pc 18 then (bif Nat.blt pc 17 then (bif Nat.beq pc 16 then some (.iconst 0) else none) else (bif Nat.beq pc 17 then some (.iconst 0) else none)) else (bif Nat.blt pc 19 then (bif Nat.beq pc 18 then some (.iconst 0) else none) else (bif Nat.blt pc 22 then (bif Nat.beq pc 19 then some (.invokevirtual 34) else none) else (bif Nat.beq pc 22 then some (.return_) else none)))))
def q_x4 : Nat → Option Instr := q_g 23 q_t4
def q_y4 : MethodName := ⟨"RatchetPost$Mixer", "take", "([I[I)V"⟩
def q_m4 : q_MI := (q_y4, prog_4_method_5_code, 3, none, 0, 0, false, q_x4)
def q_t5 (pc : Nat) : Option Instr := bif Nat.blt pc 87 then (bif Nat.blt pc 44 then (bif Nat.blt pc 21 then (bif Nat.blt pc 9 then (bif Nat.blt pc 5 then (bif Nat.blt pc 1 then (bif Nat.beq pc 0 then some (.aload_n 0) else none) else (bif Nat.blt pc 4 then (bif Nat.beq pc 1 then some (.getfield 15) else none) else (bif Nat.beq pc 4 then some (.iload_n 1) else none))) else (bif Nat.blt pc 6 then (bif Nat.beq pc 5 then some (.iaload) else none) else (bif Nat.blt pc 8 then (bif Nat.beq pc 6 then some (.istore 5) else none) else (bif Nat.beq pc 8 then some (.aload_n 0) else none)))) else (bif Nat.blt pc 14 then (bif Nat.blt pc 12 then (bif Nat.beq pc 9 then some (.getfield 15) else none) else (bif Nat.blt pc 13 then (bif Nat.beq pc 12 then some (.iload_n 2) else none) else (bif Nat.beq pc 13 then some (.iaload) else none))) else (bif Nat.blt pc 17 then (bif Nat.blt pc 16 then (bif Nat.beq pc 14 then some (.istore 6) else none) else (bif Nat.beq pc 16 then some (.aload_n 0) else none)) else (bif Nat.blt pc 20 then (bif Nat.beq pc 17 then some (.getfield 15) else none) else (bif Nat.beq pc 20 then some (.iload_n 3) else none))))) else (bif Nat.blt pc 31 then (bif Nat.blt pc 25 then (bif Nat.blt pc 22 then (bif Nat.beq pc 21 then some (.iaload) else none) else (bif Nat.blt pc 24 then (bif Nat.beq pc 22 then some (.istore 7) else none) else (bif Nat.beq pc 24 then some (.aload_n 0) else none))) else (bif Nat.blt pc 28 then (bif Nat.beq pc 25 then some (.getfield 15) else none) else (bif Nat.blt pc 30 then (bif Nat.beq pc 28 then some (.iload 4) else none) else (bif Nat.beq pc 30 then some (.iaload) else none)))) else (bif Nat.blt pc 37 then (bif Nat.blt pc 33 then (bif Nat.beq pc 31 then some (.istore 8) else none) else (bif Nat.blt pc 35 then (bif Nat.beq pc 33 then some (.iload 5) else none) else (bif Nat.beq pc 35 then some (.iload 6) else none))) else (bif Nat.blt pc 40 then (bif Nat.blt pc 38 then (bif Nat.beq pc 37 then some (.iadd) else none) else (bif Nat.beq pc 38 then some (.istore 5) else none)) else (bif Nat.blt pc 42 then (bif Nat.beq pc 40 then some (.iload 8) else none) else (bif Nat.beq pc 42 then some (.iload 5) else none)))))) else (bif Nat.blt pc 65 then (bif Nat.blt pc 54 then (bif Nat.blt pc 49 then (bif Nat.blt pc 45 then (bif Nat.beq pc 44 then some (.ixor) else none) else (bif Nat.blt pc 47 then (bif Nat.beq pc 45 then some (.istore 8) else none) else (bif Nat.beq pc 47 then some (.iload 8) else none))) else (bif Nat.blt pc 51 then (bif Nat.beq pc 49 then some (.bipush 16) else none) else (bif Nat.blt pc 52 then (bif Nat.beq pc 51 then some (.ishl) else none) else (bif Nat.beq pc 52 then some (.iload 8) else none)))) else (bif Nat.blt pc 58 then (bif Nat.blt pc 56 then (bif Nat.beq pc 54 then some (.bipush 16) else none) else (bif Nat.blt pc 57 then (bif Nat.beq pc 56 then some (.iushr) else none) else (bif Nat.beq pc 57 then some (.ior) else none))) else (bif Nat.blt pc 62 then (bif Nat.blt pc 60 then (bif Nat.beq pc 58 then some (.istore 8) else none) else (bif Nat.beq pc 60 then some (.iload 7) else none)) else (bif Nat.blt pc 64 then (bif Nat.beq pc 62 then some (.iload 8) else none) else (bif Nat.beq pc 64 then some (.iadd) else none))))) else (bif Nat.blt pc 76 then (bif Nat.blt pc 71 then (bif Nat.blt pc 67 then (bif Nat.beq pc 65 then some (.istore 7) else none) else (bif Nat.blt pc 69 then (bif Nat.beq pc 67 then some (.iload 6) else none) else (bif Nat.beq pc 69 then some (.iload 7) else none))) else (bif Nat.blt pc 72 then (bif Nat.beq pc 71 then some (.ixor) else none) else (bif Nat.blt pc 74 then (bif Nat.beq pc 72 then some (.istore 6) else none) else (bif Nat.beq pc 74 then some (.iload 6) else none)))) else (bif Nat.blt pc 81 then (bif Nat.blt pc 78 then (bif Nat.beq pc 76 then some (.bipush 12) else none) else (bif Nat.blt pc 79 then (bif Nat.beq pc 78 then some (.ishl) else none) else (bif Nat.beq pc 79 then some (.iload 6) else none))) else (bif Nat.blt pc 84 then (bif Nat.blt pc 83 then (bif Nat.beq pc 81 then some (.bipush 20) else none) else (bif Nat.beq pc 83 then some (.iushr) else none)) else (bif Nat.blt pc 85 then (bif Nat.beq pc 84 then some (.ior) else none) else (bif Nat.beq pc 85 then some (.istore 6) else none))))))) else (bif Nat.blt pc 132 then (bif Nat.blt pc 110 then (bif Nat.blt pc 98 then (bif Nat.blt pc 92 then (bif Nat.blt pc 89 then (bif Nat.beq pc 87 then some (.iload 5) else none) else (bif Nat.blt pc 91 then (bif Nat.beq pc 89 then some (.iload 6) else none) else (bif Nat.beq pc 91 then some (.iadd) else none))) else (bif Nat.blt pc 94 then (bif Nat.beq pc 92 then some (.istore 5) else none) else (bif Nat.blt pc 96 then (bif Nat.beq pc 94 then some (.iload 8) else none) else (bif Nat.beq pc 96 then some (.iload 5) else none)))) else (bif Nat.blt pc 103 then (bif Nat.blt pc 99 then (bif Nat.beq pc 98 then some (.ixor) else none) else (bif Nat.blt pc 101 then (bif Nat.beq pc 99 then some (.istore 8) else none) else (bif Nat.beq pc 101 then some (.iload 8) else none))) else (bif Nat.blt pc 106 then (bif Nat.blt pc 105 then (bif Nat.beq pc 103 then some (.bipush 8) else none) else (bif Nat.beq pc 105 then some (.ishl) else none)) else (bif Nat.blt pc 108 then (bif Nat.beq pc 106 then some (.iload 8) else none) else (bif Nat.beq pc 108 then some (.bipush 24) else none))))) else (bif Nat.blt pc 119 then (bif Nat.blt pc 114 then (bif Nat.blt pc 111 then (bif Nat.beq pc 110 then some (.iushr) else none) else (bif Nat.blt pc 112 then (bif Nat.beq pc 111 then some (.ior) else none) else (bif Nat.beq pc 112 then some (.istore 8) else none))) else (bif Nat.blt pc 116 then (bif Nat.beq pc 114 then some (.iload 7) else none) else (bif Nat.blt pc 118 then (bif Nat.beq pc 116 then some (.iload 8) else none) else (bif Nat.beq pc 118 then some (.iadd) else none)))) else (bif Nat.blt pc 125 then (bif Nat.blt pc 121 then (bif Nat.beq pc 119 then some (.istore 7) else none) else (bif Nat.blt pc 123 then (bif Nat.beq pc 121 then some (.iload 6) else none) else (bif Nat.beq pc 123 then some (.iload 7) else none))) else (bif Nat.blt pc 128 then (bif Nat.blt pc 126 then (bif Nat.beq pc 125 then some (.ixor) else none) else (bif Nat.beq pc 126 then some (.istore 6) else none)) else (bif Nat.blt pc 130 then (bif Nat.beq pc 128 then some (.iload 6) else none) else (bif Nat.beq pc 130 then some (.bipush 7) else none)))))) else (bif Nat.blt pc 153 then (bif Nat.blt pc 141 then (bif Nat.blt pc 137 then (bif Nat.blt pc 133 then (bif Nat.beq pc 132 then some (.ishl) else none) else (bif Nat.blt pc 135 then (bif Nat.beq pc 133 then some (.iload 6) else none) else (bif Nat.beq pc 135 then some (.bipush 25) else none))) else (bif Nat.blt pc 138 then (bif Nat.beq pc 137 then some (.iushr) else none) else (bif Nat.blt pc 139 then (bif Nat.beq pc 138 then some (.ior) else none) else (bif Nat.beq pc 139 then some (.istore 6) else none)))) else (bif Nat.blt pc 146 then (bif Nat.blt pc 142 then (bif Nat.beq pc 141 then some (.aload_n 0) else none) else (bif Nat.blt pc 145 then (bif Nat.beq pc 142 then some (.getfield 15) else none) else (bif Nat.beq pc 145 then some (.iload_n 1) else none))) else (bif Nat.blt pc 149 then (bif Nat.blt pc 148 then (bif Nat.beq pc 146 then some (.iload 5) else none) else (bif Nat.beq pc 148 then some (.iastore) else none)) else (bif Nat.blt pc 150 then (bif Nat.beq pc 149 then some (.aload_n 0) else none) else (bif Nat.beq pc 150 then some (.getfield 15) else none))))) else (bif Nat.blt pc 164 then (bif Nat.blt pc 157 then (bif Nat.blt pc 154 then (bif Nat.beq pc 153 then some (.iload_n 2) else none) else (bif Nat.blt pc 156 then (bif Nat.beq pc 154 then some (.iload 6) else none) else (bif Nat.beq pc 156 then some (.iastore) else none))) else (bif Nat.blt pc 161 then (bif Nat.blt pc 158 then (bif Nat.beq pc 157 then some (.aload_n 0) else none) else (bif Nat.beq pc 158 then some (.getfield 15) else none)) else (bif Nat.blt pc 162 then (bif Nat.beq pc 161 then some (.iload_n 3) else none) else (bif Nat.beq pc 162 then some (.iload 7) else none)))) else (bif Nat.blt pc 169 then (bif Nat.blt pc 165 then (bif Nat.beq pc 164 then some (.iastore) else none) else (bif Nat.blt pc 166 then (bif Nat.beq pc 165 then some (.aload_n 0) else none) else (bif Nat.beq pc 166 then some (.getfield 15) else none))) else (bif Nat.blt pc 173 then (bif Nat.blt pc 171 then (bif Nat.beq pc 169 then some (.iload 4) else none) else (bif Nat.beq pc 171 then some (.iload 8) else none)) else (bif Nat.blt pc 174 then (bif Nat.beq pc 173 then some (.iastore) else none) else (bif Nat.beq pc 174 then some (.return_) else none)))))))
def q_x5 : Nat → Option Instr := q_g 175 q_t5
def q_y5 : MethodName := ⟨"RatchetPost$Mixer", "turn", "(IIII)V"⟩
def q_m5 : q_MI := (q_y5, prog_4_method_6_code, 9, none, 0, 0, false, q_x5)
def q_t6 (pc : Nat) : Option Instr := bif Nat.blt pc 6 then (bif Nat.blt pc 4 then (bif Nat.blt pc 1 then (bif Nat.beq pc 0 then some (.aload_n 0) else none) else (bif Nat.beq pc 1 then some (.invokespecial 1) else none)) else (bif Nat.blt pc 5 then (bif Nat.beq pc 4 then some (.aload_n 0) else none) else (bif Nat.beq pc 5 then some (.iconst 0) else none))) else (bif Nat.blt pc 10 then (bif Nat.blt pc 9 then (bif Nat.beq pc 6 then some (.putfield 7) else none) else (bif Nat.beq pc 9 then some (.aload_n 0) else none)) else (bif Nat.blt pc 11 then (bif Nat.beq pc 10 then some (.iconst 0) else none) else (bif Nat.blt pc 14 then (bif Nat.beq pc 11 then some (.putfield 13) else none) else (bif Nat.beq pc 14 then some (.return_) else none))))
def q_x6 : Nat → Option Instr := q_g 15 q_t6
def q_y6 : MethodName := ⟨"RatchetPost$Pair", "<init>", "()V"⟩
def q_m6 : q_MI := (q_y6, prog_5_method_1_code, 1, none, 1, 0, true, q_x6)
def q_t7 (pc : Nat) : Option Instr := bif Nat.blt pc 8 then (bif Nat.blt pc 2 then (bif Nat.blt pc 1 then (bif Nat.beq pc 0 then some (.aload_n 0) else none) else (bif Nat.beq pc 1 then some (.aload_n 1) else none)) else (bif Nat.blt pc 5 then (bif Nat.beq pc 2 then some (.getfield 7) else none) else (bif Nat.beq pc 5 then some (.putfield 7) else none))) else (bif Nat.blt pc 10 then (bif Nat.blt pc 9 then (bif Nat.beq pc 8 then some (.aload_n 0) else none) else (bif Nat.beq pc 9 then some (.aload_n 1) else none)) else (bif Nat.blt pc 13 then (bif Nat.beq pc 10 then some (.getfield 13) else none) else (bif Nat.blt pc 16 then (bif Nat.beq pc 13 then some (.putfield 13) else none) else (bif Nat.beq pc 16 then some (.return_) else none))))
def q_x7 : Nat → Option Instr := q_g 17 q_t7
def q_y7 : MethodName := ⟨"RatchetPost$Pair", "become", "(LRatchetPost$Pair;)V"⟩
def q_m7 : q_MI := (q_y7, prog_5_method_2_code, 2, none, 1, 0, false, q_x7)
def q_t8 (pc : Nat) : Option Instr := bif Nat.blt pc 2 then (bif Nat.blt pc 1 then (bif Nat.beq pc 0 then some (.iload_n 1) else none) else (bif Nat.beq pc 1 then some (.aload_n 0) else none)) else (bif Nat.blt pc 5 then (bif Nat.beq pc 2 then some (.getfield 7) else none) else (bif Nat.blt pc 8 then (bif Nat.beq pc 5 then some (.invokestatic 16) else none) else (bif Nat.beq pc 8 then some (.ireturn) else none)))
def q_x8 : Nat → Option Instr := q_g 9 q_t8
def q_y8 : MethodName := ⟨"RatchetPost$Pair", "sharedWith", "(I)I"⟩
def q_m8 : q_MI := (q_y8, prog_5_method_3_code, 2, (some .int), 1, 1, false, q_x8)
def q_t9 (pc : Nat) : Option Instr := bif Nat.blt pc 19 then (bif Nat.blt pc 9 then (bif Nat.blt pc 4 then (bif Nat.blt pc 1 then (bif Nat.beq pc 0 then some (.aload_n 0) else none) else (bif Nat.beq pc 1 then some (.invokespecial 3) else none)) else (bif Nat.blt pc 5 then (bif Nat.beq pc 4 then some (.aload_n 0) else none) else (bif Nat.blt pc 6 then (bif Nat.beq pc 5 then some (.iconst 0) else none) else (bif Nat.beq pc 6 then some (.putfield 9) else none)))) else (bif Nat.blt pc 14 then (bif Nat.blt pc 10 then (bif Nat.beq pc 9 then some (.aload_n 0) else none) else (bif Nat.blt pc 11 then (bif Nat.beq pc 10 then some (.iconst 0) else none) else (bif Nat.beq pc 11 then some (.putfield 15) else none))) else (bif Nat.blt pc 15 then (bif Nat.beq pc 14 then some (.aload_n 0) else none) else (bif Nat.blt pc 16 then (bif Nat.beq pc 15 then some (.iconst 0) else none) else (bif Nat.beq pc 16 then some (.putfield 18) else none))))) else (bif Nat.blt pc 27 then (bif Nat.blt pc 21 then (bif Nat.blt pc 20 then (bif Nat.beq pc 19 then some (.aload_n 0) else none) else (bif Nat.beq pc 20 then some (.iconst 0) else none)) else (bif Nat.blt pc 24 then (bif Nat.beq pc 21 then some (.putfield 21) else none) else (bif Nat.blt pc 25 then (bif Nat.beq pc 24 then some (.aload_n 0) else none) else (bif Nat.beq pc 25 then some (.bipush 6) else none)))) else (bif Nat.blt pc 33 then (bif Nat.blt pc 29 then (bif Nat.beq pc 27 then some (.newarray .int) else none) else (bif Nat.blt pc 32 then (bif Nat.beq pc 29 then some (.putfield 24) else none) else (bif Nat.beq pc 32 then some (.aload_n 0) else none))) else (bif Nat.blt pc 34 then (bif Nat.beq pc 33 then some (.iconst 0) else none) else (bif Nat.blt pc 37 then (bif Nat.beq pc 34 then some (.putfield 28) else none) else (bif Nat.beq pc 37 then some (.return_) else none)))))
def q_x9 : Nat → Option Instr := q_g 38 q_t9
def q_y9 : MethodName := ⟨"RatchetPost$Entry", "<init>", "()V"⟩
def q_m9 : q_MI := (q_y9, prog_3_method_1_code, 1, none, 2, 0, true, q_x9)
def q_t10 (pc : Nat) : Option Instr := bif Nat.blt pc 21 then (bif Nat.blt pc 10 then (bif Nat.blt pc 7 then (bif Nat.blt pc 1 then (bif Nat.beq pc 0 then some (.aload_n 0) else none) else (bif Nat.blt pc 4 then (bif Nat.beq pc 1 then some (.getfield 28) else none) else (bif Nat.beq pc 4 then some (.ifCond .ne 5) else none))) else (bif Nat.blt pc 8 then (bif Nat.beq pc 7 then some (.iconst 0) else none) else (bif Nat.blt pc 9 then (bif Nat.beq pc 8 then some (.ireturn) else none) else (bif Nat.beq pc 9 then some (.aload_n 0) else none)))) else (bif Nat.blt pc 15 then (bif Nat.blt pc 13 then (bif Nat.beq pc 10 then some (.getfield 24) else none) else (bif Nat.blt pc 14 then (bif Nat.beq pc 13 then some (.iconst 0) else none) else (bif Nat.beq pc 14 then some (.iaload) else none))) else (bif Nat.blt pc 17 then (bif Nat.blt pc 16 then (bif Nat.beq pc 15 then some (.istore_n 1) else none) else (bif Nat.beq pc 16 then some (.aload_n 0) else none)) else (bif Nat.blt pc 18 then (bif Nat.beq pc 17 then some (.dup) else none) else (bif Nat.beq pc 18 then some (.getfield 28) else none))))) else (bif Nat.blt pc 32 then (bif Nat.blt pc 26 then (bif Nat.blt pc 22 then (bif Nat.beq pc 21 then some (.iconst 1) else none) else (bif Nat.blt pc 23 then (bif Nat.beq pc 22 then some (.isub) else none) else (bif Nat.beq pc 23 then some (.putfield 28) else none))) else (bif Nat.blt pc 30 then (bif Nat.blt pc 27 then (bif Nat.beq pc 26 then some (.aload_n 0) else none) else (bif Nat.beq pc 27 then some (.getfield 24) else none)) else (bif Nat.blt pc 31 then (bif Nat.beq pc 30 then some (.iconst 1) else none) else (bif Nat.beq pc 31 then some (.aload_n 0) else none)))) else (bif Nat.blt pc 37 then (bif Nat.blt pc 35 then (bif Nat.beq pc 32 then some (.getfield 24) else none) else (bif Nat.blt pc 36 then (bif Nat.beq pc 35 then some (.iconst 0) else none) else (bif Nat.beq pc 36 then some (.aload_n 0) else none))) else (bif Nat.blt pc 43 then (bif Nat.blt pc 40 then (bif Nat.beq pc 37 then some (.getfield 28) else none) else (bif Nat.beq pc 40 then some (.invokestatic 31) else none)) else (bif Nat.blt pc 44 then (bif Nat.beq pc 43 then some (.iload_n 1) else none) else (bif Nat.beq pc 44 then some (.ireturn) else none)))))
def q_x10 : Nat → Option Instr := q_g 45 q_t10
def q_y10 : MethodName := ⟨"RatchetPost$Entry", "handOut", "()I"⟩
def q_m10 : q_MI := (q_y10, prog_3_method_2_code, 2, (some .int), 2, 1, false, q_x10)
def q_t11 (pc : Nat) : Option Instr := bif Nat.blt pc 10 then (bif Nat.blt pc 5 then (bif Nat.blt pc 1 then (bif Nat.beq pc 0 then some (.aload_n 0) else none) else (bif Nat.blt pc 4 then (bif Nat.beq pc 1 then some (.getfield 24) else none) else (bif Nat.beq pc 4 then some (.aload_n 0) else none))) else (bif Nat.blt pc 8 then (bif Nat.beq pc 5 then some (.getfield 28) else none) else (bif Nat.blt pc 9 then (bif Nat.beq pc 8 then some (.iload_n 1) else none) else (bif Nat.beq pc 9 then some (.iastore) else none)))) else (bif Nat.blt pc 15 then (bif Nat.blt pc 11 then (bif Nat.beq pc 10 then some (.aload_n 0) else none) else (bif Nat.blt pc 12 then (bif Nat.beq pc 11 then some (.dup) else none) else (bif Nat.beq pc 12 then some (.getfield 28) else none))) else (bif Nat.blt pc 17 then (bif Nat.blt pc 16 then (bif Nat.beq pc 15 then some (.iconst 1) else none) else (bif Nat.beq pc 16 then some (.iadd) else none)) else (bif Nat.blt pc 20 then (bif Nat.beq pc 17 then some (.putfield 28) else none) else (bif Nat.beq pc 20 then some (.return_) else none))))
def q_x11 : Nat → Option Instr := q_g 21 q_t11
def q_y11 : MethodName := ⟨"RatchetPost$Entry", "offer", "(I)V"⟩
def q_m11 : q_MI := (q_y11, prog_3_method_3_code, 2, none, 2, 0, false, q_x11)
def q_t12 (pc : Nat) : Option Instr := bif Nat.blt pc 52 then (bif Nat.blt pc 27 then (bif Nat.blt pc 11 then (bif Nat.blt pc 4 then (bif Nat.blt pc 1 then (bif Nat.beq pc 0 then some (.aload_n 0) else none) else (bif Nat.beq pc 1 then some (.getfield 9) else none)) else (bif Nat.blt pc 7 then (bif Nat.beq pc 4 then some (.invokestatic 37) else none) else (bif Nat.blt pc 10 then (bif Nat.beq pc 7 then some (.ifCond .eq 39) else none) else (bif Nat.beq pc 10 then some (.aload_n 0) else none)))) else (bif Nat.blt pc 20 then (bif Nat.blt pc 14 then (bif Nat.beq pc 11 then some (.getfield 15) else none) else (bif Nat.blt pc 17 then (bif Nat.beq pc 14 then some (.invokestatic 37) else none) else (bif Nat.beq pc 17 then some (.ifCond .eq 29) else none))) else (bif Nat.blt pc 21 then (bif Nat.beq pc 20 then some (.aload_n 0) else none) else (bif Nat.blt pc 24 then (bif Nat.beq pc 21 then some (.getfield 18) else none) else (bif Nat.beq pc 24 then some (.invokestatic 37) else none))))) else (bif Nat.blt pc 41 then (bif Nat.blt pc 34 then (bif Nat.blt pc 30 then (bif Nat.beq pc 27 then some (.ifCond .eq 19) else none) else (bif Nat.blt pc 31 then (bif Nat.beq pc 30 then some (.aload_n 0) else none) else (bif Nat.beq pc 31 then some (.getfield 21) else none))) else (bif Nat.blt pc 37 then (bif Nat.beq pc 34 then some (.ifCond .lt 12) else none) else (bif Nat.blt pc 38 then (bif Nat.beq pc 37 then some (.aload_n 0) else none) else (bif Nat.beq pc 38 then some (.getfield 21) else none)))) else (bif Nat.blt pc 47 then (bif Nat.blt pc 43 then (bif Nat.beq pc 41 then some (.ldc 41) else none) else (bif Nat.blt pc 46 then (bif Nat.beq pc 43 then some (.if_icmp .le 5) else none) else (bif Nat.beq pc 46 then some (.iconst 0) else none))) else (bif Nat.blt pc 48 then (bif Nat.beq pc 47 then some (.ireturn) else none) else (bif Nat.blt pc 49 then (bif Nat.beq pc 48 then some (.aload_n 0) else none) else (bif Nat.beq pc 49 then some (.getfield 18) else none)))))) else (bif Nat.blt pc 72 then (bif Nat.blt pc 62 then (bif Nat.blt pc 57 then (bif Nat.blt pc 53 then (bif Nat.beq pc 52 then some (.i2l) else none) else (bif Nat.blt pc 54 then (bif Nat.beq pc 53 then some (.aload_n 0) else none) else (bif Nat.beq pc 54 then some (.getfield 9) else none))) else (bif Nat.blt pc 58 then (bif Nat.beq pc 57 then some (.aload_n 0) else none) else (bif Nat.blt pc 59 then (bif Nat.beq pc 58 then some (.aload_n 1) else none) else (bif Nat.beq pc 59 then some (.invokevirtual 42) else none)))) else (bif Nat.blt pc 67 then (bif Nat.blt pc 65 then (bif Nat.beq pc 62 then some (.invokestatic 46) else none) else (bif Nat.blt pc 66 then (bif Nat.beq pc 65 then some (.i2l) else none) else (bif Nat.beq pc 66 then some (.lmul) else none))) else (bif Nat.blt pc 70 then (bif Nat.beq pc 67 then some (.ldc2_w 50) else none) else (bif Nat.blt pc 71 then (bif Nat.beq pc 70 then some (.lrem) else none) else (bif Nat.beq pc 71 then some (.lstore_n 2) else none))))) else (bif Nat.blt pc 83 then (bif Nat.blt pc 78 then (bif Nat.blt pc 74 then (bif Nat.beq pc 72 then some (.bipush 7) else none) else (bif Nat.blt pc 75 then (bif Nat.beq pc 74 then some (.aload_n 0) else none) else (bif Nat.beq pc 75 then some (.getfield 21) else none))) else (bif Nat.blt pc 81 then (bif Nat.beq pc 78 then some (.invokestatic 46) else none) else (bif Nat.blt pc 82 then (bif Nat.beq pc 81 then some (.i2l) else none) else (bif Nat.beq pc 82 then some (.lload_n 2) else none)))) else (bif Nat.blt pc 88 then (bif Nat.blt pc 84 then (bif Nat.beq pc 83 then some (.lcmp) else none) else (bif Nat.blt pc 87 then (bif Nat.beq pc 84 then some (.ifCond .ne 7) else none) else (bif Nat.beq pc 87 then some (.iconst 1) else none))) else (bif Nat.blt pc 91 then (bif Nat.beq pc 88 then some (.goto 4) else none) else (bif Nat.blt pc 92 then (bif Nat.beq pc 91 then some (.iconst 0) else none) else (bif Nat.beq pc 92 then some (.ireturn) else none))))))
def q_x12 : Nat → Option Instr := q_g 93 q_t12
def q_y12 : MethodName := ⟨"RatchetPost$Entry", "holds", "(LRatchetPost$Mixer;)Z"⟩
def q_m12 : q_MI := (q_y12, prog_3_method_4_code, 4, (some .boolean), 2, 2, false, q_x12)
def q_t13 (pc : Nat) : Option Instr := bif Nat.blt pc 12 then (bif Nat.blt pc 5 then (bif Nat.blt pc 1 then (bif Nat.beq pc 0 then some (.aload_n 1) else none) else (bif Nat.blt pc 4 then (bif Nat.beq pc 1 then some (.getstatic 52) else none) else (bif Nat.beq pc 4 then some (.aload_n 0) else none))) else (bif Nat.blt pc 8 then (bif Nat.beq pc 5 then some (.getfield 9) else none) else (bif Nat.blt pc 9 then (bif Nat.beq pc 8 then some (.aload_n 0) else none) else (bif Nat.beq pc 9 then some (.getfield 15) else none)))) else (bif Nat.blt pc 17 then (bif Nat.blt pc 13 then (bif Nat.beq pc 12 then some (.aload_n 0) else none) else (bif Nat.blt pc 16 then (bif Nat.beq pc 13 then some (.getfield 18) else none) else (bif Nat.beq pc 16 then some (.iconst 3) else none))) else (bif Nat.blt pc 21 then (bif Nat.blt pc 20 then (bif Nat.beq pc 17 then some (.invokevirtual 55) else none) else (bif Nat.beq pc 20 then some (.iconst 1) else none)) else (bif Nat.blt pc 22 then (bif Nat.beq pc 21 then some (.iushr) else none) else (bif Nat.beq pc 22 then some (.ireturn) else none))))
def q_x13 : Nat → Option Instr := q_g 23 q_t13
def q_y13 : MethodName := ⟨"RatchetPost$Entry", "challenge", "(LRatchetPost$Mixer;)I"⟩
def q_m13 : q_MI := (q_y13, prog_3_method_5_code, 2, (some .int), 2, 1, false, q_x13)
def q_t14 (pc : Nat) : Option Instr := bif Nat.blt pc 8 then (bif Nat.blt pc 2 then (bif Nat.blt pc 1 then (bif Nat.beq pc 0 then some (.iload_n 0) else none) else (bif Nat.beq pc 1 then some (.iconst 1) else none)) else (bif Nat.blt pc 5 then (bif Nat.beq pc 2 then some (.if_icmp .lt 13) else none) else (bif Nat.blt pc 6 then (bif Nat.beq pc 5 then some (.iload_n 0) else none) else (bif Nat.beq pc 6 then some (.ldc 61) else none)))) else (bif Nat.blt pc 12 then (bif Nat.blt pc 11 then (bif Nat.beq pc 8 then some (.if_icmp .gt 7) else none) else (bif Nat.beq pc 11 then some (.iconst 1) else none)) else (bif Nat.blt pc 15 then (bif Nat.beq pc 12 then some (.goto 4) else none) else (bif Nat.blt pc 16 then (bif Nat.beq pc 15 then some (.iconst 0) else none) else (bif Nat.beq pc 16 then some (.ireturn) else none))))
def q_x14 : Nat → Option Instr := q_g 17 q_t14
def q_y14 : MethodName := ⟨"RatchetPost$Entry", "isGroupKey", "(I)Z"⟩
def q_m14 : q_MI := (q_y14, prog_3_method_6_code, 1, (some .boolean), 2, 2, false, q_x14)
def q_t15 (pc : Nat) : Option Instr := bif Nat.blt pc 66 then (bif Nat.blt pc 30 then (bif Nat.blt pc 14 then (bif Nat.blt pc 6 then (bif Nat.blt pc 4 then (bif Nat.blt pc 1 then (bif Nat.beq pc 0 then some (.aload_n 0) else none) else (bif Nat.beq pc 1 then some (.invokespecial 3) else none)) else (bif Nat.blt pc 5 then (bif Nat.beq pc 4 then some (.aload_n 0) else none) else (bif Nat.beq pc 5 then some (.iconst 0) else none))) else (bif Nat.blt pc 10 then (bif Nat.blt pc 9 then (bif Nat.beq pc 6 then some (.putfield 9) else none) else (bif Nat.beq pc 9 then some (.aload_n 0) else none)) else (bif Nat.blt pc 11 then (bif Nat.beq pc 10 then some (.iconst 0) else none) else (bif Nat.beq pc 11 then some (.putfield 15) else none)))) else (bif Nat.blt pc 22 then (bif Nat.blt pc 18 then (bif Nat.blt pc 15 then (bif Nat.beq pc 14 then some (.aload_n 0) else none) else (bif Nat.beq pc 15 then some (.new 19) else none)) else (bif Nat.blt pc 19 then (bif Nat.beq pc 18 then some (.dup) else none) else (bif Nat.beq pc 19 then some (.invokespecial 21) else none))) else (bif Nat.blt pc 26 then (bif Nat.blt pc 25 then (bif Nat.beq pc 22 then some (.putfield 22) else none) else (bif Nat.beq pc 25 then some (.aload_n 0) else none)) else (bif Nat.blt pc 29 then (bif Nat.beq pc 26 then some (.new 19) else none) else (bif Nat.beq pc 29 then some (.dup) else none))))) else (bif Nat.blt pc 48 then (bif Nat.blt pc 40 then (bif Nat.blt pc 36 then (bif Nat.blt pc 33 then (bif Nat.beq pc 30 then some (.invokespecial 21) else none) else (bif Nat.beq pc 33 then some (.putfield 26) else none)) else (bif Nat.blt pc 37 then (bif Nat.beq pc 36 then some (.aload_n 0) else none) else (bif Nat.beq pc 37 then some (.new 19) else none))) else (bif Nat.blt pc 44 then (bif Nat.blt pc 41 then (bif Nat.beq pc 40 then some (.dup) else none) else (bif Nat.beq pc 41 then some (.invokespecial 21) else none)) else (bif Nat.blt pc 47 then (bif Nat.beq pc 44 then some (.putfield 29) else none) else (bif Nat.beq pc 47 then some (.aload_n 0) else none)))) else (bif Nat.blt pc 55 then (bif Nat.blt pc 52 then (bif Nat.blt pc 49 then (bif Nat.beq pc 48 then some (.iconst 0) else none) else (bif Nat.beq pc 49 then some (.putfield 32) else none)) else (bif Nat.blt pc 53 then (bif Nat.beq pc 52 then some (.aload_n 0) else none) else (bif Nat.beq pc 53 then some (.bipush 10) else none))) else (bif Nat.blt pc 61 then (bif Nat.blt pc 58 then (bif Nat.beq pc 55 then some (.anewarray 19) else none) else (bif Nat.beq pc 58 then some (.putfield 35) else none)) else (bif Nat.blt pc 62 then (bif Nat.beq pc 61 then some (.aload_n 0) else none) else (bif Nat.blt pc 63 then (bif Nat.beq pc 62 then some (.iconst 0) else none) else (bif Nat.beq pc 63 then some (.putfield 39) else none))))))) else (bif Nat.blt pc 101 then (bif Nat.blt pc 82 then (bif Nat.blt pc 74 then (bif Nat.blt pc 70 then (bif Nat.blt pc 67 then (bif Nat.beq pc 66 then some (.aload_n 0) else none) else (bif Nat.beq pc 67 then some (.new 42) else none)) else (bif Nat.blt pc 71 then (bif Nat.beq pc 70 then some (.dup) else none) else (bif Nat.beq pc 71 then some (.invokespecial 44) else none))) else (bif Nat.blt pc 78 then (bif Nat.blt pc 77 then (bif Nat.beq pc 74 then some (.putfield 45) else none) else (bif Nat.beq pc 77 then some (.aload_n 0) else none)) else (bif Nat.blt pc 81 then (bif Nat.beq pc 78 then some (.new 19) else none) else (bif Nat.beq pc 81 then some (.dup) else none)))) else (bif Nat.blt pc 91 then (bif Nat.blt pc 88 then (bif Nat.blt pc 85 then (bif Nat.beq pc 82 then some (.invokespecial 21) else none) else (bif Nat.beq pc 85 then some (.putfield 49) else none)) else (bif Nat.blt pc 89 then (bif Nat.beq pc 88 then some (.aload_n 0) else none) else (bif Nat.beq pc 89 then some (.bipush 8) else none))) else (bif Nat.blt pc 96 then (bif Nat.blt pc 93 then (bif Nat.beq pc 91 then some (.newarray .int) else none) else (bif Nat.beq pc 93 then some (.putfield 52) else none)) else (bif Nat.blt pc 97 then (bif Nat.beq pc 96 then some (.aload_n 0) else none) else (bif Nat.blt pc 100 then (bif Nat.beq pc 97 then some (.getfield 52) else none) else (bif Nat.beq pc 100 then some (.iconst 2) else none)))))) else (bif Nat.blt pc 112 then (bif Nat.blt pc 105 then (bif Nat.blt pc 103 then (bif Nat.blt pc 102 then (bif Nat.beq pc 101 then some (.iload_n 1) else none) else (bif Nat.beq pc 102 then some (.iastore) else none)) else (bif Nat.blt pc 104 then (bif Nat.beq pc 103 then some (.iconst 0) else none) else (bif Nat.beq pc 104 then some (.istore_n 2) else none))) else (bif Nat.blt pc 108 then (bif Nat.blt pc 106 then (bif Nat.beq pc 105 then some (.iload_n 2) else none) else (bif Nat.beq pc 106 then some (.bipush 10) else none)) else (bif Nat.blt pc 111 then (bif Nat.beq pc 108 then some (.if_icmp .ge 22) else none) else (bif Nat.beq pc 111 then some (.aload_n 0) else none)))) else (bif Nat.blt pc 120 then (bif Nat.blt pc 116 then (bif Nat.blt pc 115 then (bif Nat.beq pc 112 then some (.getfield 35) else none) else (bif Nat.beq pc 115 then some (.iload_n 2) else none)) else (bif Nat.blt pc 119 then (bif Nat.beq pc 116 then some (.new 19) else none) else (bif Nat.beq pc 119 then some (.dup) else none))) else (bif Nat.blt pc 124 then (bif Nat.blt pc 123 then (bif Nat.beq pc 120 then some (.invokespecial 21) else none) else (bif Nat.beq pc 123 then some (.aastore) else none)) else (bif Nat.blt pc 127 then (bif Nat.beq pc 124 then some (.iinc 2 1) else none) else (bif Nat.blt pc 130 then (bif Nat.beq pc 127 then some (.goto (-22)) else none) else (bif Nat.beq pc 130 then some (.return_) else none)))))))
def q_x15 : Nat → Option Instr := q_g 131 q_t15
def q_y15 : MethodName := ⟨"RatchetPost$Account", "<init>", "(I)V"⟩
def q_m15 : q_MI := (q_y15, prog_2_method_1_code, 3, none, 3, 0, true, q_x15)
def q_t16 (pc : Nat) : Option Instr := bif Nat.blt pc 24 then (bif Nat.blt pc 11 then (bif Nat.blt pc 5 then (bif Nat.blt pc 1 then (bif Nat.beq pc 0 then some (.aload_n 0) else none) else (bif Nat.blt pc 2 then (bif Nat.beq pc 1 then some (.iconst 1) else none) else (bif Nat.beq pc 2 then some (.putfield 9) else none))) else (bif Nat.blt pc 9 then (bif Nat.blt pc 6 then (bif Nat.beq pc 5 then some (.aload_n 0) else none) else (bif Nat.beq pc 6 then some (.getfield 52) else none)) else (bif Nat.blt pc 10 then (bif Nat.beq pc 9 then some (.iconst 0) else none) else (bif Nat.beq pc 10 then some (.lload_n 2) else none)))) else (bif Nat.blt pc 16 then (bif Nat.blt pc 14 then (bif Nat.beq pc 11 then some (.invokestatic 56) else none) else (bif Nat.blt pc 15 then (bif Nat.beq pc 14 then some (.iastore) else none) else (bif Nat.beq pc 15 then some (.aload_n 0) else none))) else (bif Nat.blt pc 20 then (bif Nat.blt pc 19 then (bif Nat.beq pc 16 then some (.getfield 52) else none) else (bif Nat.beq pc 19 then some (.iconst 1) else none)) else (bif Nat.blt pc 21 then (bif Nat.beq pc 20 then some (.lload_n 2) else none) else (bif Nat.beq pc 21 then some (.invokestatic 60) else none))))) else (bif Nat.blt pc 35 then (bif Nat.blt pc 27 then (bif Nat.blt pc 25 then (bif Nat.beq pc 24 then some (.iastore) else none) else (bif Nat.blt pc 26 then (bif Nat.beq pc 25 then some (.aload_n 0) else none) else (bif Nat.beq pc 26 then some (.aload_n 1) else none))) else (bif Nat.blt pc 31 then (bif Nat.blt pc 28 then (bif Nat.beq pc 27 then some (.aload_n 0) else none) else (bif Nat.beq pc 28 then some (.getfield 22) else none)) else (bif Nat.blt pc 34 then (bif Nat.beq pc 31 then some (.invokevirtual 63) else none) else (bif Nat.beq pc 34 then some (.aload_n 0) else none)))) else (bif Nat.blt pc 43 then (bif Nat.blt pc 37 then (bif Nat.blt pc 36 then (bif Nat.beq pc 35 then some (.aload_n 1) else none) else (bif Nat.beq pc 36 then some (.aload_n 0) else none)) else (bif Nat.blt pc 40 then (bif Nat.beq pc 37 then some (.getfield 26) else none) else (bif Nat.beq pc 40 then some (.invokevirtual 63) else none))) else (bif Nat.blt pc 45 then (bif Nat.blt pc 44 then (bif Nat.beq pc 43 then some (.aload_n 0) else none) else (bif Nat.beq pc 44 then some (.aload_n 1) else none)) else (bif Nat.blt pc 48 then (bif Nat.beq pc 45 then some (.invokevirtual 67) else none) else (bif Nat.beq pc 48 then some (.return_) else none)))))
def q_x16 : Nat → Option Instr := q_g 49 q_t16
def q_y16 : MethodName := ⟨"RatchetPost$Account", "enter", "(LRatchetPost$Mixer;J)V"⟩
def q_m16 : q_MI := (q_y16, prog_2_method_2_code, 4, none, 3, 0, false, q_x16)
def q_t17 (pc : Nat) : Option Instr := bif Nat.blt pc 23 then (bif Nat.blt pc 11 then (bif Nat.blt pc 5 then (bif Nat.blt pc 1 then (bif Nat.beq pc 0 then some (.aload_n 0) else none) else (bif Nat.blt pc 2 then (bif Nat.beq pc 1 then some (.dup) else none) else (bif Nat.beq pc 2 then some (.getfield 15) else none))) else (bif Nat.blt pc 7 then (bif Nat.blt pc 6 then (bif Nat.beq pc 5 then some (.iconst 1) else none) else (bif Nat.beq pc 6 then some (.iadd) else none)) else (bif Nat.blt pc 10 then (bif Nat.beq pc 7 then some (.putfield 15) else none) else (bif Nat.beq pc 10 then some (.aload_n 2) else none)))) else (bif Nat.blt pc 17 then (bif Nat.blt pc 13 then (bif Nat.blt pc 12 then (bif Nat.beq pc 11 then some (.iconst 2) else none) else (bif Nat.beq pc 12 then some (.aload_n 1) else none)) else (bif Nat.blt pc 14 then (bif Nat.beq pc 13 then some (.aload_n 0) else none) else (bif Nat.beq pc 14 then some (.getfield 52) else none))) else (bif Nat.blt pc 21 then (bif Nat.blt pc 18 then (bif Nat.beq pc 17 then some (.aload_n 0) else none) else (bif Nat.beq pc 18 then some (.getfield 15) else none)) else (bif Nat.blt pc 22 then (bif Nat.beq pc 21 then some (.iconst 1) else none) else (bif Nat.beq pc 22 then some (.iconst 0) else none))))) else (bif Nat.blt pc 33 then (bif Nat.blt pc 28 then (bif Nat.blt pc 24 then (bif Nat.beq pc 23 then some (.iconst 0) else none) else (bif Nat.blt pc 27 then (bif Nat.beq pc 24 then some (.invokevirtual 71) else none) else (bif Nat.beq pc 27 then some (.iconst 1) else none))) else (bif Nat.blt pc 31 then (bif Nat.blt pc 29 then (bif Nat.beq pc 28 then some (.iushr) else none) else (bif Nat.beq pc 29 then some (.ldc 77) else none)) else (bif Nat.blt pc 32 then (bif Nat.beq pc 31 then some (.irem) else none) else (bif Nat.beq pc 32 then some (.iadd) else none)))) else (bif Nat.blt pc 40 then (bif Nat.blt pc 37 then (bif Nat.blt pc 36 then (bif Nat.beq pc 33 then some (.putfield 78) else none) else (bif Nat.beq pc 36 then some (.aload_n 2) else none)) else (bif Nat.blt pc 39 then (bif Nat.beq pc 37 then some (.bipush 7) else none) else (bif Nat.beq pc 39 then some (.aload_n 2) else none))) else (bif Nat.blt pc 46 then (bif Nat.blt pc 43 then (bif Nat.beq pc 40 then some (.getfield 78) else none) else (bif Nat.beq pc 43 then some (.invokestatic 81) else none)) else (bif Nat.blt pc 49 then (bif Nat.beq pc 46 then some (.putfield 85) else none) else (bif Nat.beq pc 49 then some (.return_) else none)))))
def q_x17 : Nat → Option Instr := q_g 50 q_t17
def q_y17 : MethodName := ⟨"RatchetPost$Account", "draw", "(LRatchetPost$Mixer;LRatchetPost$Pair;)V"⟩
def q_m17 : q_MI := (q_y17, prog_2_method_3_code, 3, none, 3, 0, false, q_x17)
def q_t18 (pc : Nat) : Option Instr := bif Nat.blt pc 16 then (bif Nat.blt pc 8 then (bif Nat.blt pc 4 then (bif Nat.blt pc 1 then (bif Nat.beq pc 0 then some (.aload_n 0) else none) else (bif Nat.beq pc 1 then some (.getfield 29) else none)) else (bif Nat.blt pc 5 then (bif Nat.beq pc 4 then some (.aload_n 0) else none) else (bif Nat.beq pc 5 then some (.getfield 26) else none))) else (bif Nat.blt pc 12 then (bif Nat.blt pc 11 then (bif Nat.beq pc 8 then some (.invokevirtual 88) else none) else (bif Nat.beq pc 11 then some (.aload_n 0) else none)) else (bif Nat.blt pc 13 then (bif Nat.beq pc 12 then some (.iconst 1) else none) else (bif Nat.beq pc 13 then some (.putfield 32) else none)))) else (bif Nat.blt pc 22 then (bif Nat.blt pc 18 then (bif Nat.blt pc 17 then (bif Nat.beq pc 16 then some (.aload_n 0) else none) else (bif Nat.beq pc 17 then some (.aload_n 1) else none)) else (bif Nat.blt pc 19 then (bif Nat.beq pc 18 then some (.aload_n 0) else none) else (bif Nat.beq pc 19 then some (.getfield 26) else none))) else (bif Nat.blt pc 26 then (bif Nat.blt pc 25 then (bif Nat.beq pc 22 then some (.invokevirtual 63) else none) else (bif Nat.beq pc 25 then some (.aload_n 0) else none)) else (bif Nat.blt pc 27 then (bif Nat.beq pc 26 then some (.aload_n 1) else none) else (bif Nat.blt pc 30 then (bif Nat.beq pc 27 then some (.invokevirtual 67) else none) else (bif Nat.beq pc 30 then some (.return_) else none)))))
def q_x18 : Nat → Option Instr := q_g 31 q_t18
def q_y18 : MethodName := ⟨"RatchetPost$Account", "renewSigned", "(LRatchetPost$Mixer;)V"⟩
def q_m18 : q_MI := (q_y18, prog_2_method_4_code, 2, none, 3, 0, false, q_x18)
def q_t19 (pc : Nat) : Option Instr := bif Nat.blt pc 51 then (bif Nat.blt pc 23 then (bif Nat.blt pc 9 then (bif Nat.blt pc 2 then (bif Nat.blt pc 1 then (bif Nat.beq pc 0 then some (.aload_n 0) else none) else (bif Nat.beq pc 1 then some (.aload_n 1) else none)) else (bif Nat.blt pc 3 then (bif Nat.beq pc 2 then some (.aload_n 0) else none) else (bif Nat.blt pc 6 then (bif Nat.beq pc 3 then some (.getfield 49) else none) else (bif Nat.beq pc 6 then some (.invokevirtual 63) else none)))) else (bif Nat.blt pc 14 then (bif Nat.blt pc 10 then (bif Nat.beq pc 9 then some (.aload_n 0) else none) else (bif Nat.blt pc 13 then (bif Nat.beq pc 10 then some (.getfield 45) else none) else (bif Nat.beq pc 13 then some (.aload_n 0) else none))) else (bif Nat.blt pc 17 then (bif Nat.beq pc 14 then some (.getfield 22) else none) else (bif Nat.blt pc 20 then (bif Nat.beq pc 17 then some (.getfield 85) else none) else (bif Nat.beq pc 20 then some (.putfield 92) else none))))) else (bif Nat.blt pc 37 then (bif Nat.blt pc 28 then (bif Nat.blt pc 24 then (bif Nat.beq pc 23 then some (.aload_n 0) else none) else (bif Nat.blt pc 27 then (bif Nat.beq pc 24 then some (.getfield 45) else none) else (bif Nat.beq pc 27 then some (.aload_n 0) else none))) else (bif Nat.blt pc 31 then (bif Nat.beq pc 28 then some (.getfield 26) else none) else (bif Nat.blt pc 34 then (bif Nat.beq pc 31 then some (.getfield 85) else none) else (bif Nat.beq pc 34 then some (.putfield 94) else none)))) else (bif Nat.blt pc 42 then (bif Nat.blt pc 38 then (bif Nat.beq pc 37 then some (.aload_n 0) else none) else (bif Nat.blt pc 41 then (bif Nat.beq pc 38 then some (.getfield 45) else none) else (bif Nat.beq pc 41 then some (.aload_n 0) else none))) else (bif Nat.blt pc 45 then (bif Nat.beq pc 42 then some (.getfield 49) else none) else (bif Nat.blt pc 48 then (bif Nat.beq pc 45 then some (.getfield 85) else none) else (bif Nat.beq pc 48 then some (.putfield 96) else none)))))) else (bif Nat.blt pc 73 then (bif Nat.blt pc 61 then (bif Nat.blt pc 56 then (bif Nat.blt pc 52 then (bif Nat.beq pc 51 then some (.aload_n 0) else none) else (bif Nat.blt pc 55 then (bif Nat.beq pc 52 then some (.getfield 45) else none) else (bif Nat.beq pc 55 then some (.aload_n 1) else none))) else (bif Nat.blt pc 59 then (bif Nat.beq pc 56 then some (.invokevirtual 98) else none) else (bif Nat.blt pc 60 then (bif Nat.beq pc 59 then some (.i2l) else none) else (bif Nat.beq pc 60 then some (.lstore_n 2) else none)))) else (bif Nat.blt pc 66 then (bif Nat.blt pc 62 then (bif Nat.beq pc 61 then some (.aload_n 0) else none) else (bif Nat.blt pc 65 then (bif Nat.beq pc 62 then some (.getfield 45) else none) else (bif Nat.beq pc 65 then some (.aload_n 0) else none))) else (bif Nat.blt pc 69 then (bif Nat.beq pc 66 then some (.getfield 49) else none) else (bif Nat.blt pc 72 then (bif Nat.beq pc 69 then some (.getfield 78) else none) else (bif Nat.beq pc 72 then some (.i2l) else none))))) else (bif Nat.blt pc 83 then (bif Nat.blt pc 80 then (bif Nat.blt pc 74 then (bif Nat.beq pc 73 then some (.aload_n 0) else none) else (bif Nat.blt pc 77 then (bif Nat.beq pc 74 then some (.getfield 22) else none) else (bif Nat.beq pc 77 then some (.getfield 78) else none))) else (bif Nat.blt pc 81 then (bif Nat.beq pc 80 then some (.i2l) else none) else (bif Nat.blt pc 82 then (bif Nat.beq pc 81 then some (.lload_n 2) else none) else (bif Nat.beq pc 82 then some (.lmul) else none)))) else (bif Nat.blt pc 88 then (bif Nat.blt pc 84 then (bif Nat.beq pc 83 then some (.ladd) else none) else (bif Nat.blt pc 87 then (bif Nat.beq pc 84 then some (.ldc2_w 102) else none) else (bif Nat.beq pc 87 then some (.lrem) else none))) else (bif Nat.blt pc 89 then (bif Nat.beq pc 88 then some (.l2i) else none) else (bif Nat.blt pc 92 then (bif Nat.beq pc 89 then some (.putfield 104) else none) else (bif Nat.beq pc 92 then some (.return_) else none))))))
def q_x19 : Nat → Option Instr := q_g 93 q_t19
def q_y19 : MethodName := ⟨"RatchetPost$Account", "publishSigned", "(LRatchetPost$Mixer;)V"⟩
def q_m19 : q_MI := (q_y19, prog_2_method_5_code, 4, none, 3, 0, false, q_x19)
def q_t20 (pc : Nat) : Option Instr := bif Nat.blt pc 42 then (bif Nat.blt pc 21 then (bif Nat.blt pc 10 then (bif Nat.blt pc 3 then (bif Nat.blt pc 2 then (bif Nat.beq pc 0 then some (.bipush 6) else none) else (bif Nat.beq pc 2 then some (.aload_n 0) else none)) else (bif Nat.blt pc 6 then (bif Nat.beq pc 3 then some (.getfield 45) else none) else (bif Nat.blt pc 9 then (bif Nat.beq pc 6 then some (.getfield 107) else none) else (bif Nat.beq pc 9 then some (.isub) else none)))) else (bif Nat.blt pc 16 then (bif Nat.blt pc 12 then (bif Nat.beq pc 10 then some (.bipush 10) else none) else (bif Nat.blt pc 13 then (bif Nat.beq pc 12 then some (.aload_n 0) else none) else (bif Nat.beq pc 13 then some (.getfield 39) else none))) else (bif Nat.blt pc 17 then (bif Nat.beq pc 16 then some (.isub) else none) else (bif Nat.blt pc 20 then (bif Nat.beq pc 17 then some (.invokestatic 110) else none) else (bif Nat.beq pc 20 then some (.istore_n 3) else none))))) else (bif Nat.blt pc 29 then (bif Nat.blt pc 23 then (bif Nat.blt pc 22 then (bif Nat.beq pc 21 then some (.iload_n 2) else none) else (bif Nat.beq pc 22 then some (.iload_n 3) else none)) else (bif Nat.blt pc 26 then (bif Nat.beq pc 23 then some (.invokestatic 110) else none) else (bif Nat.blt pc 28 then (bif Nat.beq pc 26 then some (.istore 4) else none) else (bif Nat.beq pc 28 then some (.iconst 0) else none)))) else (bif Nat.blt pc 35 then (bif Nat.blt pc 31 then (bif Nat.beq pc 29 then some (.istore 5) else none) else (bif Nat.blt pc 33 then (bif Nat.beq pc 31 then some (.iload 5) else none) else (bif Nat.beq pc 33 then some (.iload 4) else none))) else (bif Nat.blt pc 38 then (bif Nat.beq pc 35 then some (.if_icmp .ge 49) else none) else (bif Nat.blt pc 39 then (bif Nat.beq pc 38 then some (.aload_n 0) else none) else (bif Nat.beq pc 39 then some (.getfield 35) else none)))))) else (bif Nat.blt pc 61 then (bif Nat.blt pc 50 then (bif Nat.blt pc 46 then (bif Nat.blt pc 43 then (bif Nat.beq pc 42 then some (.aload_n 0) else none) else (bif Nat.beq pc 43 then some (.getfield 39) else none)) else (bif Nat.blt pc 47 then (bif Nat.beq pc 46 then some (.aaload) else none) else (bif Nat.blt pc 49 then (bif Nat.beq pc 47 then some (.astore 6) else none) else (bif Nat.beq pc 49 then some (.aload_n 0) else none)))) else (bif Nat.blt pc 56 then (bif Nat.blt pc 51 then (bif Nat.beq pc 50 then some (.aload_n 1) else none) else (bif Nat.blt pc 53 then (bif Nat.beq pc 51 then some (.aload 6) else none) else (bif Nat.beq pc 53 then some (.invokevirtual 63) else none))) else (bif Nat.blt pc 57 then (bif Nat.beq pc 56 then some (.aload_n 0) else none) else (bif Nat.blt pc 58 then (bif Nat.beq pc 57 then some (.dup) else none) else (bif Nat.beq pc 58 then some (.getfield 39) else none))))) else (bif Nat.blt pc 72 then (bif Nat.blt pc 66 then (bif Nat.blt pc 62 then (bif Nat.beq pc 61 then some (.iconst 1) else none) else (bif Nat.blt pc 63 then (bif Nat.beq pc 62 then some (.iadd) else none) else (bif Nat.beq pc 63 then some (.putfield 39) else none))) else (bif Nat.blt pc 67 then (bif Nat.beq pc 66 then some (.aload_n 0) else none) else (bif Nat.blt pc 70 then (bif Nat.beq pc 67 then some (.getfield 45) else none) else (bif Nat.beq pc 70 then some (.aload 6) else none)))) else (bif Nat.blt pc 81 then (bif Nat.blt pc 75 then (bif Nat.beq pc 72 then some (.getfield 85) else none) else (bif Nat.blt pc 78 then (bif Nat.beq pc 75 then some (.invokevirtual 115) else none) else (bif Nat.beq pc 78 then some (.iinc 5 1) else none))) else (bif Nat.blt pc 84 then (bif Nat.beq pc 81 then some (.goto (-50)) else none) else (bif Nat.blt pc 86 then (bif Nat.beq pc 84 then some (.iload 4) else none) else (bif Nat.beq pc 86 then some (.ireturn) else none))))))
def q_x20 : Nat → Option Instr := q_g 87 q_t20
def q_y20 : MethodName := ⟨"RatchetPost$Account", "offerOneTime", "(LRatchetPost$Mixer;I)I"⟩
def q_m20 : q_MI := (q_y20, prog_2_method_6_code, 7, (some .int), 3, 1, false, q_x20)
def q_t21 (pc : Nat) : Option Instr := bif Nat.blt pc 16 then (bif Nat.blt pc 7 then (bif Nat.blt pc 2 then (bif Nat.blt pc 1 then (bif Nat.beq pc 0 then some (.iconst 0) else none) else (bif Nat.beq pc 1 then some (.istore_n 3) else none)) else (bif Nat.blt pc 3 then (bif Nat.beq pc 2 then some (.iload_n 3) else none) else (bif Nat.blt pc 4 then (bif Nat.beq pc 3 then some (.aload_n 0) else none) else (bif Nat.beq pc 4 then some (.getfield 39) else none)))) else (bif Nat.blt pc 11 then (bif Nat.blt pc 10 then (bif Nat.beq pc 7 then some (.if_icmp .ge 26) else none) else (bif Nat.beq pc 10 then some (.aload_n 0) else none)) else (bif Nat.blt pc 14 then (bif Nat.beq pc 11 then some (.getfield 35) else none) else (bif Nat.blt pc 15 then (bif Nat.beq pc 14 then some (.iload_n 3) else none) else (bif Nat.beq pc 15 then some (.aaload) else none))))) else (bif Nat.blt pc 25 then (bif Nat.blt pc 20 then (bif Nat.blt pc 19 then (bif Nat.beq pc 16 then some (.getfield 85) else none) else (bif Nat.beq pc 19 then some (.i2l) else none)) else (bif Nat.blt pc 21 then (bif Nat.beq pc 20 then some (.lload_n 1) else none) else (bif Nat.blt pc 22 then (bif Nat.beq pc 21 then some (.lcmp) else none) else (bif Nat.beq pc 22 then some (.ifCond .ne 5) else none)))) else (bif Nat.blt pc 30 then (bif Nat.blt pc 26 then (bif Nat.beq pc 25 then some (.iload_n 3) else none) else (bif Nat.blt pc 27 then (bif Nat.beq pc 26 then some (.ireturn) else none) else (bif Nat.beq pc 27 then some (.iinc 3 1) else none))) else (bif Nat.blt pc 33 then (bif Nat.beq pc 30 then some (.goto (-28)) else none) else (bif Nat.blt pc 34 then (bif Nat.beq pc 33 then some (.iconst (-1)) else none) else (bif Nat.beq pc 34 then some (.ireturn) else none)))))
def q_x21 : Nat → Option Instr := q_g 35 q_t21
def q_y21 : MethodName := ⟨"RatchetPost$Account", "placeOfOneTime", "(J)I"⟩
def q_m21 : q_MI := (q_y21, prog_2_method_7_code, 4, (some .int), 3, 1, false, q_x21)
def q_t22 (pc : Nat) : Option Instr := bif Nat.blt pc 28 then (bif Nat.blt pc 13 then (bif Nat.blt pc 6 then (bif Nat.blt pc 4 then (bif Nat.blt pc 1 then (bif Nat.beq pc 0 then some (.aload_n 0) else none) else (bif Nat.beq pc 1 then some (.getfield 35) else none)) else (bif Nat.blt pc 5 then (bif Nat.beq pc 4 then some (.iload_n 1) else none) else (bif Nat.beq pc 5 then some (.aaload) else none))) else (bif Nat.blt pc 8 then (bif Nat.blt pc 7 then (bif Nat.beq pc 6 then some (.astore_n 2) else none) else (bif Nat.beq pc 7 then some (.aload_n 0) else none)) else (bif Nat.blt pc 9 then (bif Nat.beq pc 8 then some (.dup) else none) else (bif Nat.blt pc 12 then (bif Nat.beq pc 9 then some (.getfield 39) else none) else (bif Nat.beq pc 12 then some (.iconst 1) else none))))) else (bif Nat.blt pc 19 then (bif Nat.blt pc 17 then (bif Nat.blt pc 14 then (bif Nat.beq pc 13 then some (.isub) else none) else (bif Nat.beq pc 14 then some (.putfield 39) else none)) else (bif Nat.blt pc 18 then (bif Nat.beq pc 17 then some (.iload_n 1) else none) else (bif Nat.beq pc 18 then some (.istore_n 3) else none))) else (bif Nat.blt pc 21 then (bif Nat.blt pc 20 then (bif Nat.beq pc 19 then some (.iload_n 3) else none) else (bif Nat.beq pc 20 then some (.aload_n 0) else none)) else (bif Nat.blt pc 24 then (bif Nat.beq pc 21 then some (.getfield 39) else none) else (bif Nat.blt pc 27 then (bif Nat.beq pc 24 then some (.if_icmp .ge 23) else none) else (bif Nat.beq pc 27 then some (.aload_n 0) else none)))))) else (bif Nat.blt pc 41 then (bif Nat.blt pc 36 then (bif Nat.blt pc 32 then (bif Nat.blt pc 31 then (bif Nat.beq pc 28 then some (.getfield 35) else none) else (bif Nat.beq pc 31 then some (.iload_n 3) else none)) else (bif Nat.blt pc 33 then (bif Nat.beq pc 32 then some (.aload_n 0) else none) else (bif Nat.beq pc 33 then some (.getfield 35) else none))) else (bif Nat.blt pc 38 then (bif Nat.blt pc 37 then (bif Nat.beq pc 36 then some (.iload_n 3) else none) else (bif Nat.beq pc 37 then some (.iconst 1) else none)) else (bif Nat.blt pc 39 then (bif Nat.beq pc 38 then some (.iadd) else none) else (bif Nat.blt pc 40 then (bif Nat.beq pc 39 then some (.aaload) else none) else (bif Nat.beq pc 40 then some (.aastore) else none))))) else (bif Nat.blt pc 51 then (bif Nat.blt pc 47 then (bif Nat.blt pc 44 then (bif Nat.beq pc 41 then some (.iinc 3 1) else none) else (bif Nat.beq pc 44 then some (.goto (-25)) else none)) else (bif Nat.blt pc 48 then (bif Nat.beq pc 47 then some (.aload_n 0) else none) else (bif Nat.beq pc 48 then some (.getfield 35) else none))) else (bif Nat.blt pc 55 then (bif Nat.blt pc 52 then (bif Nat.beq pc 51 then some (.aload_n 0) else none) else (bif Nat.beq pc 52 then some (.getfield 39) else none)) else (bif Nat.blt pc 56 then (bif Nat.beq pc 55 then some (.aload_n 2) else none) else (bif Nat.blt pc 57 then (bif Nat.beq pc 56 then some (.aastore) else none) else (bif Nat.beq pc 57 then some (.return_) else none))))))
def q_x22 : Nat → Option Instr := q_g 58 q_t22
def q_y22 : MethodName := ⟨"RatchetPost$Account", "removeOneTime", "(I)V"⟩
def q_m22 : q_MI := (q_y22, prog_2_method_8_code, 4, none, 3, 0, false, q_x22)
def q_t23 (pc : Nat) : Option Instr := bif Nat.blt pc 20 then (bif Nat.blt pc 9 then (bif Nat.blt pc 2 then (bif Nat.blt pc 1 then (bif Nat.beq pc 0 then some (.lload_n 1) else none) else (bif Nat.beq pc 1 then some (.aload_n 0) else none)) else (bif Nat.blt pc 5 then (bif Nat.beq pc 2 then some (.getfield 26) else none) else (bif Nat.blt pc 8 then (bif Nat.beq pc 5 then some (.getfield 85) else none) else (bif Nat.beq pc 8 then some (.i2l) else none)))) else (bif Nat.blt pc 13 then (bif Nat.blt pc 10 then (bif Nat.beq pc 9 then some (.lcmp) else none) else (bif Nat.beq pc 10 then some (.ifCond .eq 23) else none)) else (bif Nat.blt pc 14 then (bif Nat.beq pc 13 then some (.aload_n 0) else none) else (bif Nat.blt pc 17 then (bif Nat.beq pc 14 then some (.getfield 32) else none) else (bif Nat.beq pc 17 then some (.ifCond .eq 20) else none))))) else (bif Nat.blt pc 29 then (bif Nat.blt pc 22 then (bif Nat.blt pc 21 then (bif Nat.beq pc 20 then some (.lload_n 1) else none) else (bif Nat.beq pc 21 then some (.aload_n 0) else none)) else (bif Nat.blt pc 25 then (bif Nat.beq pc 22 then some (.getfield 29) else none) else (bif Nat.blt pc 28 then (bif Nat.beq pc 25 then some (.getfield 85) else none) else (bif Nat.beq pc 28 then some (.i2l) else none)))) else (bif Nat.blt pc 34 then (bif Nat.blt pc 30 then (bif Nat.beq pc 29 then some (.lcmp) else none) else (bif Nat.blt pc 33 then (bif Nat.beq pc 30 then some (.ifCond .ne 7) else none) else (bif Nat.beq pc 33 then some (.iconst 1) else none))) else (bif Nat.blt pc 37 then (bif Nat.beq pc 34 then some (.goto 4) else none) else (bif Nat.blt pc 38 then (bif Nat.beq pc 37 then some (.iconst 0) else none) else (bif Nat.beq pc 38 then some (.ireturn) else none)))))
def q_x23 : Nat → Option Instr := q_g 39 q_t23
def q_y23 : MethodName := ⟨"RatchetPost$Account", "hasSigned", "(J)Z"⟩
def q_m23 : q_MI := (q_y23, prog_2_method_9_code, 3, (some .boolean), 3, 2, false, q_x23)
def q_t24 (pc : Nat) : Option Instr := bif Nat.blt pc 10 then (bif Nat.blt pc 5 then (bif Nat.blt pc 1 then (bif Nat.beq pc 0 then some (.lload_n 1) else none) else (bif Nat.blt pc 2 then (bif Nat.beq pc 1 then some (.aload_n 0) else none) else (bif Nat.beq pc 2 then some (.getfield 26) else none))) else (bif Nat.blt pc 8 then (bif Nat.beq pc 5 then some (.getfield 85) else none) else (bif Nat.blt pc 9 then (bif Nat.beq pc 8 then some (.i2l) else none) else (bif Nat.beq pc 9 then some (.lcmp) else none)))) else (bif Nat.blt pc 17 then (bif Nat.blt pc 13 then (bif Nat.beq pc 10 then some (.ifCond .ne 10) else none) else (bif Nat.blt pc 14 then (bif Nat.beq pc 13 then some (.aload_n 0) else none) else (bif Nat.beq pc 14 then some (.getfield 26) else none))) else (bif Nat.blt pc 21 then (bif Nat.blt pc 20 then (bif Nat.beq pc 17 then some (.goto 7) else none) else (bif Nat.beq pc 20 then some (.aload_n 0) else none)) else (bif Nat.blt pc 24 then (bif Nat.beq pc 21 then some (.getfield 29) else none) else (bif Nat.beq pc 24 then some (.areturn) else none))))
def q_x24 : Nat → Option Instr := q_g 25 q_t24
def q_y24 : MethodName := ⟨"RatchetPost$Account", "signedOf", "(J)LRatchetPost$Pair;"⟩
def q_m24 : q_MI := (q_y24, prog_2_method_10_code, 3, (some (.object "RatchetPost$Pair")), 3, 4, false, q_x24)
def q_t25 (pc : Nat) : Option Instr := bif Nat.blt pc 17 then (bif Nat.blt pc 6 then (bif Nat.blt pc 4 then (bif Nat.blt pc 1 then (bif Nat.beq pc 0 then some (.aload_n 0) else none) else (bif Nat.beq pc 1 then some (.invokespecial 3) else none)) else (bif Nat.blt pc 5 then (bif Nat.beq pc 4 then some (.aload_n 0) else none) else (bif Nat.beq pc 5 then some (.iconst 0) else none))) else (bif Nat.blt pc 10 then (bif Nat.blt pc 9 then (bif Nat.beq pc 6 then some (.putfield 9) else none) else (bif Nat.beq pc 9 then some (.aload_n 0) else none)) else (bif Nat.blt pc 12 then (bif Nat.beq pc 10 then some (.bipush 28) else none) else (bif Nat.blt pc 14 then (bif Nat.beq pc 12 then some (.newarray .int) else none) else (bif Nat.beq pc 14 then some (.putfield 15) else none))))) else (bif Nat.blt pc 25 then (bif Nat.blt pc 20 then (bif Nat.blt pc 18 then (bif Nat.beq pc 17 then some (.aload_n 0) else none) else (bif Nat.beq pc 18 then some (.bipush 28) else none)) else (bif Nat.blt pc 22 then (bif Nat.beq pc 20 then some (.newarray .int) else none) else (bif Nat.beq pc 22 then some (.putfield 19) else none))) else (bif Nat.blt pc 29 then (bif Nat.blt pc 26 then (bif Nat.beq pc 25 then some (.aload_n 0) else none) else (bif Nat.beq pc 26 then some (.sipush 224) else none)) else (bif Nat.blt pc 31 then (bif Nat.beq pc 29 then some (.newarray .int) else none) else (bif Nat.blt pc 34 then (bif Nat.beq pc 31 then some (.putfield 22) else none) else (bif Nat.beq pc 34 then some (.return_) else none)))))
def q_x25 : Nat → Option Instr := q_g 35 q_t25
def q_y25 : MethodName := ⟨"RatchetPost$SkippedKeys", "<init>", "()V"⟩
def q_m25 : q_MI := (q_y25, prog_8_method_1_code, 1, none, 4, 0, true, q_x25)
def q_t26 (pc : Nat) : Option Instr := bif Nat.blt pc 31 then (bif Nat.blt pc 14 then (bif Nat.blt pc 8 then (bif Nat.blt pc 2 then (bif Nat.blt pc 1 then (bif Nat.beq pc 0 then some (.aload_n 0) else none) else (bif Nat.beq pc 1 then some (.aload_n 1) else none)) else (bif Nat.blt pc 5 then (bif Nat.beq pc 2 then some (.getfield 9) else none) else (bif Nat.beq pc 5 then some (.putfield 9) else none))) else (bif Nat.blt pc 12 then (bif Nat.blt pc 9 then (bif Nat.beq pc 8 then some (.aload_n 1) else none) else (bif Nat.beq pc 9 then some (.getfield 15) else none)) else (bif Nat.blt pc 13 then (bif Nat.beq pc 12 then some (.iconst 0) else none) else (bif Nat.beq pc 13 then some (.aload_n 0) else none)))) else (bif Nat.blt pc 22 then (bif Nat.blt pc 18 then (bif Nat.blt pc 17 then (bif Nat.beq pc 14 then some (.getfield 15) else none) else (bif Nat.beq pc 17 then some (.iconst 0) else none)) else (bif Nat.blt pc 19 then (bif Nat.beq pc 18 then some (.aload_n 0) else none) else (bif Nat.beq pc 19 then some (.getfield 9) else none))) else (bif Nat.blt pc 26 then (bif Nat.blt pc 25 then (bif Nat.beq pc 22 then some (.invokestatic 25) else none) else (bif Nat.beq pc 25 then some (.aload_n 1) else none)) else (bif Nat.blt pc 29 then (bif Nat.beq pc 26 then some (.getfield 19) else none) else (bif Nat.blt pc 30 then (bif Nat.beq pc 29 then some (.iconst 0) else none) else (bif Nat.beq pc 30 then some (.aload_n 0) else none)))))) else (bif Nat.blt pc 47 then (bif Nat.blt pc 39 then (bif Nat.blt pc 35 then (bif Nat.blt pc 34 then (bif Nat.beq pc 31 then some (.getfield 19) else none) else (bif Nat.beq pc 34 then some (.iconst 0) else none)) else (bif Nat.blt pc 36 then (bif Nat.beq pc 35 then some (.aload_n 0) else none) else (bif Nat.beq pc 36 then some (.getfield 9) else none))) else (bif Nat.blt pc 43 then (bif Nat.blt pc 42 then (bif Nat.beq pc 39 then some (.invokestatic 25) else none) else (bif Nat.beq pc 42 then some (.aload_n 1) else none)) else (bif Nat.blt pc 46 then (bif Nat.beq pc 43 then some (.getfield 22) else none) else (bif Nat.beq pc 46 then some (.iconst 0) else none)))) else (bif Nat.blt pc 53 then (bif Nat.blt pc 51 then (bif Nat.blt pc 48 then (bif Nat.beq pc 47 then some (.aload_n 0) else none) else (bif Nat.beq pc 48 then some (.getfield 22) else none)) else (bif Nat.blt pc 52 then (bif Nat.beq pc 51 then some (.iconst 0) else none) else (bif Nat.beq pc 52 then some (.aload_n 0) else none))) else (bif Nat.blt pc 58 then (bif Nat.blt pc 56 then (bif Nat.beq pc 53 then some (.getfield 9) else none) else (bif Nat.beq pc 56 then some (.bipush 8) else none)) else (bif Nat.blt pc 59 then (bif Nat.beq pc 58 then some (.imul) else none) else (bif Nat.blt pc 62 then (bif Nat.beq pc 59 then some (.invokestatic 25) else none) else (bif Nat.beq pc 62 then some (.return_) else none))))))
def q_x26 : Nat → Option Instr := q_g 63 q_t26
def q_y26 : MethodName := ⟨"RatchetPost$SkippedKeys", "become", "(LRatchetPost$SkippedKeys;)V"⟩
def q_m26 : q_MI := (q_y26, prog_8_method_2_code, 2, none, 4, 0, false, q_x26)
def q_t27 (pc : Nat) : Option Instr := bif Nat.blt pc 22 then (bif Nat.blt pc 11 then (bif Nat.blt pc 5 then (bif Nat.blt pc 1 then (bif Nat.beq pc 0 then some (.aload_n 0) else none) else (bif Nat.blt pc 4 then (bif Nat.beq pc 1 then some (.getfield 15) else none) else (bif Nat.beq pc 4 then some (.aload_n 0) else none))) else (bif Nat.blt pc 9 then (bif Nat.blt pc 8 then (bif Nat.beq pc 5 then some (.getfield 9) else none) else (bif Nat.beq pc 8 then some (.iload_n 1) else none)) else (bif Nat.blt pc 10 then (bif Nat.beq pc 9 then some (.iastore) else none) else (bif Nat.beq pc 10 then some (.aload_n 0) else none)))) else (bif Nat.blt pc 18 then (bif Nat.blt pc 14 then (bif Nat.beq pc 11 then some (.getfield 19) else none) else (bif Nat.blt pc 15 then (bif Nat.beq pc 14 then some (.aload_n 0) else none) else (bif Nat.beq pc 15 then some (.getfield 9) else none))) else (bif Nat.blt pc 20 then (bif Nat.blt pc 19 then (bif Nat.beq pc 18 then some (.iload_n 2) else none) else (bif Nat.beq pc 19 then some (.iastore) else none)) else (bif Nat.blt pc 21 then (bif Nat.beq pc 20 then some (.aload_n 3) else none) else (bif Nat.beq pc 21 then some (.iconst 0) else none))))) else (bif Nat.blt pc 35 then (bif Nat.blt pc 27 then (bif Nat.blt pc 23 then (bif Nat.beq pc 22 then some (.aload_n 0) else none) else (bif Nat.blt pc 26 then (bif Nat.beq pc 23 then some (.getfield 22) else none) else (bif Nat.beq pc 26 then some (.aload_n 0) else none))) else (bif Nat.blt pc 32 then (bif Nat.blt pc 30 then (bif Nat.beq pc 27 then some (.getfield 9) else none) else (bif Nat.beq pc 30 then some (.bipush 8) else none)) else (bif Nat.blt pc 33 then (bif Nat.beq pc 32 then some (.imul) else none) else (bif Nat.beq pc 33 then some (.bipush 8) else none)))) else (bif Nat.blt pc 43 then (bif Nat.blt pc 39 then (bif Nat.blt pc 38 then (bif Nat.beq pc 35 then some (.invokestatic 25) else none) else (bif Nat.beq pc 38 then some (.aload_n 0) else none)) else (bif Nat.blt pc 40 then (bif Nat.beq pc 39 then some (.dup) else none) else (bif Nat.beq pc 40 then some (.getfield 9) else none))) else (bif Nat.blt pc 45 then (bif Nat.blt pc 44 then (bif Nat.beq pc 43 then some (.iconst 1) else none) else (bif Nat.beq pc 44 then some (.iadd) else none)) else (bif Nat.blt pc 48 then (bif Nat.beq pc 45 then some (.putfield 9) else none) else (bif Nat.beq pc 48 then some (.return_) else none)))))
def q_x27 : Nat → Option Instr := q_g 49 q_t27
def q_y27 : MethodName := ⟨"RatchetPost$SkippedKeys", "keep", "(II[I)V"⟩
def q_m27 : q_MI := (q_y27, prog_8_method_3_code, 4, none, 4, 0, false, q_x27)
def q_t28 (pc : Nat) : Option Instr := bif Nat.blt pc 20 then (bif Nat.blt pc 10 then (bif Nat.blt pc 3 then (bif Nat.blt pc 1 then (bif Nat.beq pc 0 then some (.iconst 0) else none) else (bif Nat.blt pc 2 then (bif Nat.beq pc 1 then some (.istore_n 3) else none) else (bif Nat.beq pc 2 then some (.iload_n 3) else none))) else (bif Nat.blt pc 4 then (bif Nat.beq pc 3 then some (.aload_n 0) else none) else (bif Nat.blt pc 7 then (bif Nat.beq pc 4 then some (.getfield 9) else none) else (bif Nat.beq pc 7 then some (.if_icmp .ge 31) else none)))) else (bif Nat.blt pc 15 then (bif Nat.blt pc 11 then (bif Nat.beq pc 10 then some (.aload_n 0) else none) else (bif Nat.blt pc 14 then (bif Nat.beq pc 11 then some (.getfield 15) else none) else (bif Nat.beq pc 14 then some (.iload_n 3) else none))) else (bif Nat.blt pc 16 then (bif Nat.beq pc 15 then some (.iaload) else none) else (bif Nat.blt pc 17 then (bif Nat.beq pc 16 then some (.iload_n 1) else none) else (bif Nat.beq pc 17 then some (.if_icmp .ne 15) else none))))) else (bif Nat.blt pc 30 then (bif Nat.blt pc 25 then (bif Nat.blt pc 21 then (bif Nat.beq pc 20 then some (.aload_n 0) else none) else (bif Nat.blt pc 24 then (bif Nat.beq pc 21 then some (.getfield 19) else none) else (bif Nat.beq pc 24 then some (.iload_n 3) else none))) else (bif Nat.blt pc 26 then (bif Nat.beq pc 25 then some (.iaload) else none) else (bif Nat.blt pc 27 then (bif Nat.beq pc 26 then some (.iload_n 2) else none) else (bif Nat.beq pc 27 then some (.if_icmp .ne 5) else none)))) else (bif Nat.blt pc 35 then (bif Nat.blt pc 31 then (bif Nat.beq pc 30 then some (.iload_n 3) else none) else (bif Nat.blt pc 32 then (bif Nat.beq pc 31 then some (.ireturn) else none) else (bif Nat.beq pc 32 then some (.iinc 3 1) else none))) else (bif Nat.blt pc 38 then (bif Nat.beq pc 35 then some (.goto (-33)) else none) else (bif Nat.blt pc 39 then (bif Nat.beq pc 38 then some (.iconst (-1)) else none) else (bif Nat.beq pc 39 then some (.ireturn) else none)))))
def q_x28 : Nat → Option Instr := q_g 40 q_t28
def q_y28 : MethodName := ⟨"RatchetPost$SkippedKeys", "placeOf", "(II)I"⟩
def q_m28 : q_MI := (q_y28, prog_8_method_4_code, 4, (some .int), 4, 1, false, q_x28)
def q_t29 (pc : Nat) : Option Instr := bif Nat.blt pc 44 then (bif Nat.blt pc 22 then (bif Nat.blt pc 10 then (bif Nat.blt pc 5 then (bif Nat.blt pc 1 then (bif Nat.beq pc 0 then some (.aload_n 0) else none) else (bif Nat.blt pc 4 then (bif Nat.beq pc 1 then some (.getfield 22) else none) else (bif Nat.beq pc 4 then some (.iload_n 1) else none))) else (bif Nat.blt pc 8 then (bif Nat.blt pc 7 then (bif Nat.beq pc 5 then some (.bipush 8) else none) else (bif Nat.beq pc 7 then some (.imul) else none)) else (bif Nat.blt pc 9 then (bif Nat.beq pc 8 then some (.aload_n 2) else none) else (bif Nat.beq pc 9 then some (.iconst 0) else none)))) else (bif Nat.blt pc 16 then (bif Nat.blt pc 12 then (bif Nat.beq pc 10 then some (.bipush 8) else none) else (bif Nat.blt pc 15 then (bif Nat.beq pc 12 then some (.invokestatic 25) else none) else (bif Nat.beq pc 15 then some (.aload_n 0) else none))) else (bif Nat.blt pc 20 then (bif Nat.blt pc 17 then (bif Nat.beq pc 16 then some (.dup) else none) else (bif Nat.beq pc 17 then some (.getfield 9) else none)) else (bif Nat.blt pc 21 then (bif Nat.beq pc 20 then some (.iconst 1) else none) else (bif Nat.beq pc 21 then some (.isub) else none))))) else (bif Nat.blt pc 33 then (bif Nat.blt pc 29 then (bif Nat.blt pc 25 then (bif Nat.beq pc 22 then some (.putfield 9) else none) else (bif Nat.blt pc 26 then (bif Nat.beq pc 25 then some (.aload_n 0) else none) else (bif Nat.beq pc 26 then some (.getfield 9) else none))) else (bif Nat.blt pc 31 then (bif Nat.blt pc 30 then (bif Nat.beq pc 29 then some (.iload_n 1) else none) else (bif Nat.beq pc 30 then some (.isub) else none)) else (bif Nat.blt pc 32 then (bif Nat.beq pc 31 then some (.istore_n 3) else none) else (bif Nat.beq pc 32 then some (.aload_n 0) else none)))) else (bif Nat.blt pc 38 then (bif Nat.blt pc 36 then (bif Nat.beq pc 33 then some (.getfield 15) else none) else (bif Nat.blt pc 37 then (bif Nat.beq pc 36 then some (.iload_n 1) else none) else (bif Nat.beq pc 37 then some (.iconst 1) else none))) else (bif Nat.blt pc 40 then (bif Nat.blt pc 39 then (bif Nat.beq pc 38 then some (.iadd) else none) else (bif Nat.beq pc 39 then some (.aload_n 0) else none)) else (bif Nat.blt pc 43 then (bif Nat.beq pc 40 then some (.getfield 15) else none) else (bif Nat.beq pc 43 then some (.iload_n 1) else none)))))) else (bif Nat.blt pc 68 then (bif Nat.blt pc 55 then (bif Nat.blt pc 49 then (bif Nat.blt pc 45 then (bif Nat.beq pc 44 then some (.iload_n 3) else none) else (bif Nat.blt pc 48 then (bif Nat.beq pc 45 then some (.invokestatic 25) else none) else (bif Nat.beq pc 48 then some (.aload_n 0) else none))) else (bif Nat.blt pc 53 then (bif Nat.blt pc 52 then (bif Nat.beq pc 49 then some (.getfield 19) else none) else (bif Nat.beq pc 52 then some (.iload_n 1) else none)) else (bif Nat.blt pc 54 then (bif Nat.beq pc 53 then some (.iconst 1) else none) else (bif Nat.beq pc 54 then some (.iadd) else none)))) else (bif Nat.blt pc 60 then (bif Nat.blt pc 56 then (bif Nat.beq pc 55 then some (.aload_n 0) else none) else (bif Nat.blt pc 59 then (bif Nat.beq pc 56 then some (.getfield 19) else none) else (bif Nat.beq pc 59 then some (.iload_n 1) else none))) else (bif Nat.blt pc 64 then (bif Nat.blt pc 61 then (bif Nat.beq pc 60 then some (.iload_n 3) else none) else (bif Nat.beq pc 61 then some (.invokestatic 25) else none)) else (bif Nat.blt pc 65 then (bif Nat.beq pc 64 then some (.aload_n 0) else none) else (bif Nat.beq pc 65 then some (.getfield 22) else none))))) else (bif Nat.blt pc 78 then (bif Nat.blt pc 71 then (bif Nat.blt pc 69 then (bif Nat.beq pc 68 then some (.iload_n 1) else none) else (bif Nat.blt pc 70 then (bif Nat.beq pc 69 then some (.iconst 1) else none) else (bif Nat.beq pc 70 then some (.iadd) else none))) else (bif Nat.blt pc 74 then (bif Nat.blt pc 73 then (bif Nat.beq pc 71 then some (.bipush 8) else none) else (bif Nat.beq pc 73 then some (.imul) else none)) else (bif Nat.blt pc 75 then (bif Nat.beq pc 74 then some (.aload_n 0) else none) else (bif Nat.beq pc 75 then some (.getfield 22) else none)))) else (bif Nat.blt pc 83 then (bif Nat.blt pc 81 then (bif Nat.blt pc 79 then (bif Nat.beq pc 78 then some (.iload_n 1) else none) else (bif Nat.beq pc 79 then some (.bipush 8) else none)) else (bif Nat.blt pc 82 then (bif Nat.beq pc 81 then some (.imul) else none) else (bif Nat.beq pc 82 then some (.iload_n 3) else none))) else (bif Nat.blt pc 86 then (bif Nat.blt pc 85 then (bif Nat.beq pc 83 then some (.bipush 8) else none) else (bif Nat.beq pc 85 then some (.imul) else none)) else (bif Nat.blt pc 89 then (bif Nat.beq pc 86 then some (.invokestatic 25) else none) else (bif Nat.beq pc 89 then some (.return_) else none))))))
def q_x29 : Nat → Option Instr := q_g 90 q_t29
def q_y29 : MethodName := ⟨"RatchetPost$SkippedKeys", "takeOut", "(I[I)V"⟩
def q_m29 : q_MI := (q_y29, prog_8_method_5_code, 4, none, 4, 0, false, q_x29)
def q_t30 (pc : Nat) : Option Instr := bif Nat.blt pc 55 then (bif Nat.blt pc 28 then (bif Nat.blt pc 12 then (bif Nat.blt pc 5 then (bif Nat.blt pc 1 then (bif Nat.beq pc 0 then some (.aload_n 0) else none) else (bif Nat.blt pc 4 then (bif Nat.beq pc 1 then some (.invokespecial 3) else none) else (bif Nat.beq pc 4 then some (.aload_n 0) else none))) else (bif Nat.blt pc 9 then (bif Nat.blt pc 6 then (bif Nat.beq pc 5 then some (.iconst 0) else none) else (bif Nat.beq pc 6 then some (.putfield 9) else none)) else (bif Nat.blt pc 10 then (bif Nat.beq pc 9 then some (.aload_n 0) else none) else (bif Nat.beq pc 10 then some (.bipush 8) else none)))) else (bif Nat.blt pc 18 then (bif Nat.blt pc 14 then (bif Nat.beq pc 12 then some (.newarray .int) else none) else (bif Nat.blt pc 17 then (bif Nat.beq pc 14 then some (.putfield 15) else none) else (bif Nat.beq pc 17 then some (.aload_n 0) else none))) else (bif Nat.blt pc 22 then (bif Nat.blt pc 21 then (bif Nat.beq pc 18 then some (.new 19) else none) else (bif Nat.beq pc 21 then some (.dup) else none)) else (bif Nat.blt pc 25 then (bif Nat.beq pc 22 then some (.invokespecial 21) else none) else (bif Nat.beq pc 25 then some (.putfield 22) else none))))) else (bif Nat.blt pc 41 then (bif Nat.blt pc 33 then (bif Nat.blt pc 29 then (bif Nat.beq pc 28 then some (.aload_n 0) else none) else (bif Nat.blt pc 30 then (bif Nat.beq pc 29 then some (.iconst 0) else none) else (bif Nat.beq pc 30 then some (.putfield 26) else none))) else (bif Nat.blt pc 36 then (bif Nat.blt pc 34 then (bif Nat.beq pc 33 then some (.aload_n 0) else none) else (bif Nat.beq pc 34 then some (.bipush 8) else none)) else (bif Nat.blt pc 38 then (bif Nat.beq pc 36 then some (.newarray .int) else none) else (bif Nat.beq pc 38 then some (.putfield 29) else none)))) else (bif Nat.blt pc 49 then (bif Nat.blt pc 44 then (bif Nat.blt pc 42 then (bif Nat.beq pc 41 then some (.aload_n 0) else none) else (bif Nat.beq pc 42 then some (.bipush 8) else none)) else (bif Nat.blt pc 46 then (bif Nat.beq pc 44 then some (.newarray .int) else none) else (bif Nat.beq pc 46 then some (.putfield 32) else none))) else (bif Nat.blt pc 51 then (bif Nat.blt pc 50 then (bif Nat.beq pc 49 then some (.aload_n 0) else none) else (bif Nat.beq pc 50 then some (.iconst 0) else none)) else (bif Nat.blt pc 54 then (bif Nat.beq pc 51 then some (.putfield 35) else none) else (bif Nat.beq pc 54 then some (.aload_n 0) else none)))))) else (bif Nat.blt pc 82 then (bif Nat.blt pc 66 then (bif Nat.blt pc 60 then (bif Nat.blt pc 56 then (bif Nat.beq pc 55 then some (.iconst 0) else none) else (bif Nat.blt pc 59 then (bif Nat.beq pc 56 then some (.putfield 39) else none) else (bif Nat.beq pc 59 then some (.aload_n 0) else none))) else (bif Nat.blt pc 64 then (bif Nat.blt pc 61 then (bif Nat.beq pc 60 then some (.iconst 0) else none) else (bif Nat.beq pc 61 then some (.putfield 42) else none)) else (bif Nat.blt pc 65 then (bif Nat.beq pc 64 then some (.aload_n 0) else none) else (bif Nat.beq pc 65 then some (.iconst 0) else none)))) else (bif Nat.blt pc 74 then (bif Nat.blt pc 70 then (bif Nat.blt pc 69 then (bif Nat.beq pc 66 then some (.putfield 45) else none) else (bif Nat.beq pc 69 then some (.aload_n 0) else none)) else (bif Nat.blt pc 73 then (bif Nat.beq pc 70 then some (.new 48) else none) else (bif Nat.beq pc 73 then some (.dup) else none))) else (bif Nat.blt pc 80 then (bif Nat.blt pc 77 then (bif Nat.beq pc 74 then some (.invokespecial 50) else none) else (bif Nat.beq pc 77 then some (.putfield 51) else none)) else (bif Nat.blt pc 81 then (bif Nat.beq pc 80 then some (.aload_n 0) else none) else (bif Nat.beq pc 81 then some (.iconst 0) else none))))) else (bif Nat.blt pc 95 then (bif Nat.blt pc 87 then (bif Nat.blt pc 85 then (bif Nat.beq pc 82 then some (.putfield 55) else none) else (bif Nat.blt pc 86 then (bif Nat.beq pc 85 then some (.aload_n 0) else none) else (bif Nat.beq pc 86 then some (.iconst 0) else none))) else (bif Nat.blt pc 91 then (bif Nat.blt pc 90 then (bif Nat.beq pc 87 then some (.putfield 58) else none) else (bif Nat.beq pc 90 then some (.aload_n 0) else none)) else (bif Nat.blt pc 92 then (bif Nat.beq pc 91 then some (.iconst 0) else none) else (bif Nat.beq pc 92 then some (.putfield 61) else none)))) else (bif Nat.blt pc 101 then (bif Nat.blt pc 97 then (bif Nat.blt pc 96 then (bif Nat.beq pc 95 then some (.aload_n 0) else none) else (bif Nat.beq pc 96 then some (.iconst 0) else none)) else (bif Nat.blt pc 100 then (bif Nat.beq pc 97 then some (.putfield 64) else none) else (bif Nat.beq pc 100 then some (.aload_n 0) else none))) else (bif Nat.blt pc 105 then (bif Nat.blt pc 103 then (bif Nat.beq pc 101 then some (.bipush 8) else none) else (bif Nat.beq pc 103 then some (.newarray .int) else none)) else (bif Nat.blt pc 108 then (bif Nat.beq pc 105 then some (.putfield 67) else none) else (bif Nat.beq pc 108 then some (.return_) else none))))))
def q_x30 : Nat → Option Instr := q_g 109 q_t30
def q_y30 : MethodName := ⟨"RatchetPost$Session", "<init>", "()V"⟩
def q_m30 : q_MI := (q_y30, prog_6_method_1_code, 1, none, 5, 0, true, q_x30)
def q_t31 (pc : Nat) : Option Instr := bif Nat.blt pc 27 then (bif Nat.blt pc 12 then (bif Nat.blt pc 6 then (bif Nat.blt pc 2 then (bif Nat.blt pc 1 then (bif Nat.beq pc 0 then some (.aload_n 0) else none) else (bif Nat.beq pc 1 then some (.iconst 0) else none)) else (bif Nat.blt pc 5 then (bif Nat.beq pc 2 then some (.putfield 9) else none) else (bif Nat.beq pc 5 then some (.aload_n 0) else none))) else (bif Nat.blt pc 10 then (bif Nat.blt pc 7 then (bif Nat.beq pc 6 then some (.iconst 0) else none) else (bif Nat.beq pc 7 then some (.putfield 26) else none)) else (bif Nat.blt pc 11 then (bif Nat.beq pc 10 then some (.aload_n 0) else none) else (bif Nat.beq pc 11 then some (.iconst 0) else none)))) else (bif Nat.blt pc 20 then (bif Nat.blt pc 16 then (bif Nat.blt pc 15 then (bif Nat.beq pc 12 then some (.putfield 35) else none) else (bif Nat.beq pc 15 then some (.aload_n 0) else none)) else (bif Nat.blt pc 17 then (bif Nat.beq pc 16 then some (.iconst 0) else none) else (bif Nat.beq pc 17 then some (.putfield 39) else none))) else (bif Nat.blt pc 22 then (bif Nat.blt pc 21 then (bif Nat.beq pc 20 then some (.aload_n 0) else none) else (bif Nat.beq pc 21 then some (.iconst 0) else none)) else (bif Nat.blt pc 25 then (bif Nat.beq pc 22 then some (.putfield 42) else none) else (bif Nat.blt pc 26 then (bif Nat.beq pc 25 then some (.aload_n 0) else none) else (bif Nat.beq pc 26 then some (.iconst 0) else none)))))) else (bif Nat.blt pc 44 then (bif Nat.blt pc 35 then (bif Nat.blt pc 31 then (bif Nat.blt pc 30 then (bif Nat.beq pc 27 then some (.putfield 45) else none) else (bif Nat.beq pc 30 then some (.aload_n 0) else none)) else (bif Nat.blt pc 34 then (bif Nat.beq pc 31 then some (.getfield 51) else none) else (bif Nat.beq pc 34 then some (.iconst 0) else none))) else (bif Nat.blt pc 39 then (bif Nat.blt pc 38 then (bif Nat.beq pc 35 then some (.putfield 70) else none) else (bif Nat.beq pc 38 then some (.aload_n 0) else none)) else (bif Nat.blt pc 40 then (bif Nat.beq pc 39 then some (.iconst 0) else none) else (bif Nat.blt pc 43 then (bif Nat.beq pc 40 then some (.putfield 55) else none) else (bif Nat.beq pc 43 then some (.aload_n 0) else none))))) else (bif Nat.blt pc 50 then (bif Nat.blt pc 48 then (bif Nat.blt pc 45 then (bif Nat.beq pc 44 then some (.iconst 0) else none) else (bif Nat.beq pc 45 then some (.putfield 58) else none)) else (bif Nat.blt pc 49 then (bif Nat.beq pc 48 then some (.aload_n 0) else none) else (bif Nat.beq pc 49 then some (.iconst 0) else none))) else (bif Nat.blt pc 54 then (bif Nat.blt pc 53 then (bif Nat.beq pc 50 then some (.putfield 61) else none) else (bif Nat.beq pc 53 then some (.aload_n 0) else none)) else (bif Nat.blt pc 55 then (bif Nat.beq pc 54 then some (.iconst 0) else none) else (bif Nat.blt pc 58 then (bif Nat.beq pc 55 then some (.putfield 64) else none) else (bif Nat.beq pc 58 then some (.return_) else none))))))
def q_x31 : Nat → Option Instr := q_g 59 q_t31
def q_y31 : MethodName := ⟨"RatchetPost$Session", "clear", "()V"⟩
def q_m31 : q_MI := (q_y31, prog_6_method_2_code, 1, none, 5, 0, false, q_x31)
def q_t32 (pc : Nat) : Option Instr := bif Nat.blt pc 72 then (bif Nat.blt pc 35 then (bif Nat.blt pc 17 then (bif Nat.blt pc 8 then (bif Nat.blt pc 2 then (bif Nat.blt pc 1 then (bif Nat.beq pc 0 then some (.aload_n 0) else none) else (bif Nat.beq pc 1 then some (.aload_n 1) else none)) else (bif Nat.blt pc 5 then (bif Nat.beq pc 2 then some (.getfield 9) else none) else (bif Nat.beq pc 5 then some (.putfield 9) else none))) else (bif Nat.blt pc 12 then (bif Nat.blt pc 9 then (bif Nat.beq pc 8 then some (.aload_n 1) else none) else (bif Nat.beq pc 9 then some (.getfield 15) else none)) else (bif Nat.blt pc 13 then (bif Nat.beq pc 12 then some (.iconst 0) else none) else (bif Nat.blt pc 14 then (bif Nat.beq pc 13 then some (.aload_n 0) else none) else (bif Nat.beq pc 14 then some (.getfield 15) else none))))) else (bif Nat.blt pc 24 then (bif Nat.blt pc 20 then (bif Nat.blt pc 18 then (bif Nat.beq pc 17 then some (.iconst 0) else none) else (bif Nat.beq pc 18 then some (.bipush 8) else none)) else (bif Nat.blt pc 23 then (bif Nat.beq pc 20 then some (.invokestatic 73) else none) else (bif Nat.beq pc 23 then some (.aload_n 0) else none))) else (bif Nat.blt pc 28 then (bif Nat.blt pc 27 then (bif Nat.beq pc 24 then some (.getfield 22) else none) else (bif Nat.beq pc 27 then some (.aload_n 1) else none)) else (bif Nat.blt pc 31 then (bif Nat.beq pc 28 then some (.getfield 22) else none) else (bif Nat.blt pc 34 then (bif Nat.beq pc 31 then some (.invokevirtual 79) else none) else (bif Nat.beq pc 34 then some (.aload_n 0) else none)))))) else (bif Nat.blt pc 52 then (bif Nat.blt pc 43 then (bif Nat.blt pc 39 then (bif Nat.blt pc 36 then (bif Nat.beq pc 35 then some (.aload_n 1) else none) else (bif Nat.beq pc 36 then some (.getfield 26) else none)) else (bif Nat.blt pc 42 then (bif Nat.beq pc 39 then some (.putfield 26) else none) else (bif Nat.beq pc 42 then some (.aload_n 1) else none))) else (bif Nat.blt pc 47 then (bif Nat.blt pc 46 then (bif Nat.beq pc 43 then some (.getfield 29) else none) else (bif Nat.beq pc 46 then some (.iconst 0) else none)) else (bif Nat.blt pc 48 then (bif Nat.beq pc 47 then some (.aload_n 0) else none) else (bif Nat.blt pc 51 then (bif Nat.beq pc 48 then some (.getfield 29) else none) else (bif Nat.beq pc 51 then some (.iconst 0) else none))))) else (bif Nat.blt pc 62 then (bif Nat.blt pc 57 then (bif Nat.blt pc 54 then (bif Nat.beq pc 52 then some (.bipush 8) else none) else (bif Nat.beq pc 54 then some (.invokestatic 73) else none)) else (bif Nat.blt pc 58 then (bif Nat.beq pc 57 then some (.aload_n 1) else none) else (bif Nat.blt pc 61 then (bif Nat.beq pc 58 then some (.getfield 32) else none) else (bif Nat.beq pc 61 then some (.iconst 0) else none)))) else (bif Nat.blt pc 66 then (bif Nat.blt pc 63 then (bif Nat.beq pc 62 then some (.aload_n 0) else none) else (bif Nat.beq pc 63 then some (.getfield 32) else none)) else (bif Nat.blt pc 67 then (bif Nat.beq pc 66 then some (.iconst 0) else none) else (bif Nat.blt pc 69 then (bif Nat.beq pc 67 then some (.bipush 8) else none) else (bif Nat.beq pc 69 then some (.invokestatic 73) else none))))))) else (bif Nat.blt pc 109 then (bif Nat.blt pc 89 then (bif Nat.blt pc 80 then (bif Nat.blt pc 74 then (bif Nat.blt pc 73 then (bif Nat.beq pc 72 then some (.aload_n 0) else none) else (bif Nat.beq pc 73 then some (.aload_n 1) else none)) else (bif Nat.blt pc 77 then (bif Nat.beq pc 74 then some (.getfield 35) else none) else (bif Nat.beq pc 77 then some (.putfield 35) else none))) else (bif Nat.blt pc 82 then (bif Nat.blt pc 81 then (bif Nat.beq pc 80 then some (.aload_n 0) else none) else (bif Nat.beq pc 81 then some (.aload_n 1) else none)) else (bif Nat.blt pc 85 then (bif Nat.beq pc 82 then some (.getfield 39) else none) else (bif Nat.blt pc 88 then (bif Nat.beq pc 85 then some (.putfield 39) else none) else (bif Nat.beq pc 88 then some (.aload_n 0) else none))))) else (bif Nat.blt pc 98 then (bif Nat.blt pc 93 then (bif Nat.blt pc 90 then (bif Nat.beq pc 89 then some (.aload_n 1) else none) else (bif Nat.beq pc 90 then some (.getfield 42) else none)) else (bif Nat.blt pc 96 then (bif Nat.beq pc 93 then some (.putfield 42) else none) else (bif Nat.blt pc 97 then (bif Nat.beq pc 96 then some (.aload_n 0) else none) else (bif Nat.beq pc 97 then some (.aload_n 1) else none)))) else (bif Nat.blt pc 104 then (bif Nat.blt pc 101 then (bif Nat.beq pc 98 then some (.getfield 45) else none) else (bif Nat.beq pc 101 then some (.putfield 45) else none)) else (bif Nat.blt pc 105 then (bif Nat.beq pc 104 then some (.aload_n 0) else none) else (bif Nat.blt pc 108 then (bif Nat.beq pc 105 then some (.getfield 51) else none) else (bif Nat.beq pc 108 then some (.aload_n 1) else none)))))) else (bif Nat.blt pc 128 then (bif Nat.blt pc 117 then (bif Nat.blt pc 115 then (bif Nat.blt pc 112 then (bif Nat.beq pc 109 then some (.getfield 51) else none) else (bif Nat.beq pc 112 then some (.invokevirtual 83) else none)) else (bif Nat.blt pc 116 then (bif Nat.beq pc 115 then some (.aload_n 0) else none) else (bif Nat.beq pc 116 then some (.aload_n 1) else none))) else (bif Nat.blt pc 123 then (bif Nat.blt pc 120 then (bif Nat.beq pc 117 then some (.getfield 55) else none) else (bif Nat.beq pc 120 then some (.putfield 55) else none)) else (bif Nat.blt pc 124 then (bif Nat.beq pc 123 then some (.aload_n 0) else none) else (bif Nat.blt pc 125 then (bif Nat.beq pc 124 then some (.aload_n 1) else none) else (bif Nat.beq pc 125 then some (.getfield 58) else none))))) else (bif Nat.blt pc 139 then (bif Nat.blt pc 132 then (bif Nat.blt pc 131 then (bif Nat.beq pc 128 then some (.putfield 58) else none) else (bif Nat.beq pc 131 then some (.aload_n 0) else none)) else (bif Nat.blt pc 133 then (bif Nat.beq pc 132 then some (.aload_n 1) else none) else (bif Nat.blt pc 136 then (bif Nat.beq pc 133 then some (.getfield 61) else none) else (bif Nat.beq pc 136 then some (.putfield 61) else none)))) else (bif Nat.blt pc 141 then (bif Nat.blt pc 140 then (bif Nat.beq pc 139 then some (.aload_n 0) else none) else (bif Nat.beq pc 140 then some (.aload_n 1) else none)) else (bif Nat.blt pc 144 then (bif Nat.beq pc 141 then some (.getfield 64) else none) else (bif Nat.blt pc 147 then (bif Nat.beq pc 144 then some (.putfield 64) else none) else (bif Nat.beq pc 147 then some (.return_) else none)))))))
def q_x32 : Nat → Option Instr := q_g 148 q_t32
def q_y32 : MethodName := ⟨"RatchetPost$Session", "become", "(LRatchetPost$Session;)V"⟩
def q_m32 : q_MI := (q_y32, prog_6_method_3_code, 2, none, 5, 0, false, q_x32)
def q_t33 (pc : Nat) : Option Instr := bif Nat.blt pc 11 then (bif Nat.blt pc 4 then (bif Nat.blt pc 1 then (bif Nat.beq pc 0 then some (.aload_n 0) else none) else (bif Nat.beq pc 1 then some (.getfield 55) else none)) else (bif Nat.blt pc 7 then (bif Nat.beq pc 4 then some (.ifCond .eq 14) else none) else (bif Nat.blt pc 8 then (bif Nat.beq pc 7 then some (.aload_n 0) else none) else (bif Nat.beq pc 8 then some (.getfield 58) else none)))) else (bif Nat.blt pc 15 then (bif Nat.blt pc 14 then (bif Nat.beq pc 11 then some (.ifCond .ne 7) else none) else (bif Nat.beq pc 14 then some (.iconst 1) else none)) else (bif Nat.blt pc 18 then (bif Nat.beq pc 15 then some (.goto 4) else none) else (bif Nat.blt pc 19 then (bif Nat.beq pc 18 then some (.iconst 0) else none) else (bif Nat.beq pc 19 then some (.ireturn) else none))))
def q_x33 : Nat → Option Instr := q_g 20 q_t33
def q_y33 : MethodName := ⟨"RatchetPost$Session", "isUnanswered", "()Z"⟩
def q_m33 : q_MI := (q_y33, prog_6_method_4_code, 1, (some .boolean), 5, 2, false, q_x33)
def q_t34 (pc : Nat) : Option Instr := bif Nat.blt pc 22 then (bif Nat.blt pc 12 then (bif Nat.blt pc 5 then (bif Nat.blt pc 1 then (bif Nat.beq pc 0 then some (.aload_n 0) else none) else (bif Nat.blt pc 4 then (bif Nat.beq pc 1 then some (.getfield 22) else none) else (bif Nat.beq pc 4 then some (.aload_n 0) else none))) else (bif Nat.blt pc 8 then (bif Nat.beq pc 5 then some (.getfield 26) else none) else (bif Nat.blt pc 11 then (bif Nat.beq pc 8 then some (.invokevirtual 86) else none) else (bif Nat.beq pc 11 then some (.istore_n 3) else none)))) else (bif Nat.blt pc 15 then (bif Nat.blt pc 13 then (bif Nat.beq pc 12 then some (.aload_n 1) else none) else (bif Nat.blt pc 14 then (bif Nat.beq pc 13 then some (.aload_n 2) else none) else (bif Nat.beq pc 14 then some (.aload_n 0) else none))) else (bif Nat.blt pc 19 then (bif Nat.blt pc 18 then (bif Nat.beq pc 15 then some (.getfield 15) else none) else (bif Nat.beq pc 18 then some (.iload_n 3) else none)) else (bif Nat.blt pc 21 then (bif Nat.beq pc 19 then some (.bipush 6) else none) else (bif Nat.beq pc 21 then some (.iconst 0) else none))))) else (bif Nat.blt pc 32 then (bif Nat.blt pc 27 then (bif Nat.blt pc 23 then (bif Nat.beq pc 22 then some (.iconst 0) else none) else (bif Nat.blt pc 26 then (bif Nat.beq pc 23 then some (.invokevirtual 90) else none) else (bif Nat.beq pc 26 then some (.aload_n 1) else none))) else (bif Nat.blt pc 28 then (bif Nat.beq pc 27 then some (.aload_n 0) else none) else (bif Nat.blt pc 31 then (bif Nat.beq pc 28 then some (.getfield 15) else none) else (bif Nat.beq pc 31 then some (.aload_n 0) else none)))) else (bif Nat.blt pc 37 then (bif Nat.blt pc 35 then (bif Nat.beq pc 32 then some (.getfield 15) else none) else (bif Nat.blt pc 36 then (bif Nat.beq pc 35 then some (.iload_n 3) else none) else (bif Nat.beq pc 36 then some (.iconst 5) else none))) else (bif Nat.blt pc 39 then (bif Nat.blt pc 38 then (bif Nat.beq pc 37 then some (.iconst 0) else none) else (bif Nat.beq pc 38 then some (.iconst 0) else none)) else (bif Nat.blt pc 42 then (bif Nat.beq pc 39 then some (.invokevirtual 90) else none) else (bif Nat.beq pc 42 then some (.return_) else none)))))
def q_x34 : Nat → Option Instr := q_g 43 q_t34
def q_y34 : MethodName := ⟨"RatchetPost$Session", "step", "(LRatchetPost$Mixer;[I)V"⟩
def q_m34 : q_MI := (q_y34, prog_6_method_5_code, 4, none, 5, 0, false, q_x34)
def q_t35 (pc : Nat) : Option Instr := bif Nat.blt pc 19 then (bif Nat.blt pc 9 then (bif Nat.blt pc 2 then (bif Nat.blt pc 1 then (bif Nat.beq pc 0 then some (.aload_n 0) else none) else (bif Nat.beq pc 1 then some (.aload_n 0) else none)) else (bif Nat.blt pc 5 then (bif Nat.beq pc 2 then some (.getfield 39) else none) else (bif Nat.blt pc 8 then (bif Nat.beq pc 5 then some (.putfield 45) else none) else (bif Nat.beq pc 8 then some (.aload_n 0) else none)))) else (bif Nat.blt pc 14 then (bif Nat.blt pc 10 then (bif Nat.beq pc 9 then some (.iconst 0) else none) else (bif Nat.blt pc 13 then (bif Nat.beq pc 10 then some (.putfield 39) else none) else (bif Nat.beq pc 13 then some (.aload_n 0) else none))) else (bif Nat.blt pc 15 then (bif Nat.beq pc 14 then some (.iconst 0) else none) else (bif Nat.blt pc 18 then (bif Nat.beq pc 15 then some (.putfield 42) else none) else (bif Nat.beq pc 18 then some (.aload_n 0) else none))))) else (bif Nat.blt pc 26 then (bif Nat.blt pc 23 then (bif Nat.blt pc 20 then (bif Nat.beq pc 19 then some (.iload_n 2) else none) else (bif Nat.beq pc 20 then some (.putfield 26) else none)) else (bif Nat.blt pc 24 then (bif Nat.beq pc 23 then some (.aload_n 0) else none) else (bif Nat.blt pc 25 then (bif Nat.beq pc 24 then some (.aload_n 1) else none) else (bif Nat.beq pc 25 then some (.aload_n 0) else none)))) else (bif Nat.blt pc 33 then (bif Nat.blt pc 29 then (bif Nat.beq pc 26 then some (.getfield 32) else none) else (bif Nat.blt pc 32 then (bif Nat.beq pc 29 then some (.invokevirtual 96) else none) else (bif Nat.beq pc 32 then some (.aload_n 0) else none))) else (bif Nat.blt pc 34 then (bif Nat.beq pc 33 then some (.iconst 1) else none) else (bif Nat.blt pc 37 then (bif Nat.beq pc 34 then some (.putfield 35) else none) else (bif Nat.beq pc 37 then some (.return_) else none)))))
def q_x35 : Nat → Option Instr := q_g 38 q_t35
def q_y35 : MethodName := ⟨"RatchetPost$Session", "turnReceiving", "(LRatchetPost$Mixer;I)V"⟩
def q_m35 : q_MI := (q_y35, prog_6_method_6_code, 3, none, 5, 0, false, q_x35)
def q_t36 (pc : Nat) : Option Instr := bif Nat.blt pc 33 then (bif Nat.blt pc 14 then (bif Nat.blt pc 6 then (bif Nat.blt pc 2 then (bif Nat.blt pc 1 then (bif Nat.beq pc 0 then some (.iload_n 2) else none) else (bif Nat.beq pc 1 then some (.aload_n 0) else none)) else (bif Nat.blt pc 5 then (bif Nat.beq pc 2 then some (.getfield 42) else none) else (bif Nat.beq pc 5 then some (.isub) else none))) else (bif Nat.blt pc 11 then (bif Nat.blt pc 8 then (bif Nat.beq pc 6 then some (.bipush 8) else none) else (bif Nat.beq pc 8 then some (.if_icmp .le 5) else none)) else (bif Nat.blt pc 12 then (bif Nat.beq pc 11 then some (.iconst 0) else none) else (bif Nat.blt pc 13 then (bif Nat.beq pc 12 then some (.ireturn) else none) else (bif Nat.beq pc 13 then some (.aload_n 0) else none))))) else (bif Nat.blt pc 22 then (bif Nat.blt pc 18 then (bif Nat.blt pc 17 then (bif Nat.beq pc 14 then some (.getfield 42) else none) else (bif Nat.beq pc 17 then some (.iload_n 2) else none)) else (bif Nat.blt pc 21 then (bif Nat.beq pc 18 then some (.if_icmp .ge 47) else none) else (bif Nat.beq pc 21 then some (.aload_n 1) else none))) else (bif Nat.blt pc 26 then (bif Nat.blt pc 23 then (bif Nat.beq pc 22 then some (.aload_n 0) else none) else (bif Nat.beq pc 23 then some (.getfield 67) else none)) else (bif Nat.blt pc 27 then (bif Nat.beq pc 26 then some (.aload_n 0) else none) else (bif Nat.blt pc 30 then (bif Nat.beq pc 27 then some (.getfield 32) else none) else (bif Nat.beq pc 30 then some (.invokevirtual 100) else none)))))) else (bif Nat.blt pc 52 then (bif Nat.blt pc 41 then (bif Nat.blt pc 37 then (bif Nat.blt pc 34 then (bif Nat.beq pc 33 then some (.aload_n 0) else none) else (bif Nat.beq pc 34 then some (.getfield 51) else none)) else (bif Nat.blt pc 38 then (bif Nat.beq pc 37 then some (.aload_n 0) else none) else (bif Nat.beq pc 38 then some (.getfield 26) else none))) else (bif Nat.blt pc 45 then (bif Nat.blt pc 42 then (bif Nat.beq pc 41 then some (.aload_n 0) else none) else (bif Nat.beq pc 42 then some (.getfield 42) else none)) else (bif Nat.blt pc 46 then (bif Nat.beq pc 45 then some (.aload_n 0) else none) else (bif Nat.blt pc 49 then (bif Nat.beq pc 46 then some (.getfield 67) else none) else (bif Nat.beq pc 49 then some (.invokevirtual 104) else none))))) else (bif Nat.blt pc 58 then (bif Nat.blt pc 54 then (bif Nat.blt pc 53 then (bif Nat.beq pc 52 then some (.aload_n 0) else none) else (bif Nat.beq pc 53 then some (.dup) else none)) else (bif Nat.blt pc 57 then (bif Nat.beq pc 54 then some (.getfield 42) else none) else (bif Nat.beq pc 57 then some (.iconst 1) else none))) else (bif Nat.blt pc 62 then (bif Nat.blt pc 59 then (bif Nat.beq pc 58 then some (.iadd) else none) else (bif Nat.beq pc 59 then some (.putfield 42) else none)) else (bif Nat.blt pc 65 then (bif Nat.beq pc 62 then some (.goto (-49)) else none) else (bif Nat.blt pc 66 then (bif Nat.beq pc 65 then some (.iconst 1) else none) else (bif Nat.beq pc 66 then some (.ireturn) else none))))))
def q_x36 : Nat → Option Instr := q_g 67 q_t36
def q_y36 : MethodName := ⟨"RatchetPost$Session", "skipTo", "(LRatchetPost$Mixer;I)Z"⟩
def q_m36 : q_MI := (q_y36, prog_6_method_7_code, 3, (some .boolean), 5, 2, false, q_x36)
def q_t37 (pc : Nat) : Option Instr := bif Nat.blt pc 9 then (bif Nat.blt pc 4 then (bif Nat.blt pc 1 then (bif Nat.beq pc 0 then some (.aload_n 0) else none) else (bif Nat.beq pc 1 then some (.invokespecial 3) else none)) else (bif Nat.blt pc 5 then (bif Nat.beq pc 4 then some (.aload_n 0) else none) else (bif Nat.blt pc 6 then (bif Nat.beq pc 5 then some (.iconst 3) else none) else (bif Nat.beq pc 6 then some (.anewarray 9) else none)))) else (bif Nat.blt pc 13 then (bif Nat.blt pc 12 then (bif Nat.beq pc 9 then some (.putfield 11) else none) else (bif Nat.beq pc 12 then some (.aload_n 0) else none)) else (bif Nat.blt pc 14 then (bif Nat.beq pc 13 then some (.iconst 0) else none) else (bif Nat.blt pc 17 then (bif Nat.beq pc 14 then some (.putfield 17) else none) else (bif Nat.beq pc 17 then some (.return_) else none))))
def q_x37 : Nat → Option Instr := q_g 18 q_t37
def q_y37 : MethodName := ⟨"RatchetPost$SessionList", "<init>", "()V"⟩
def q_m37 : q_MI := (q_y37, prog_7_method_1_code, 1, none, 6, 0, true, q_x37)
def q_t38 (pc : Nat) : Option Instr := bif Nat.blt pc 43 then (bif Nat.blt pc 21 then (bif Nat.blt pc 9 then (bif Nat.blt pc 4 then (bif Nat.blt pc 1 then (bif Nat.beq pc 0 then some (.aload_n 0) else none) else (bif Nat.beq pc 1 then some (.getfield 17) else none)) else (bif Nat.blt pc 5 then (bif Nat.beq pc 4 then some (.iconst 3) else none) else (bif Nat.blt pc 8 then (bif Nat.beq pc 5 then some (.if_icmp .ne 12) else none) else (bif Nat.beq pc 8 then some (.aload_n 0) else none)))) else (bif Nat.blt pc 14 then (bif Nat.blt pc 12 then (bif Nat.beq pc 9 then some (.getfield 11) else none) else (bif Nat.blt pc 13 then (bif Nat.beq pc 12 then some (.iconst 2) else none) else (bif Nat.beq pc 13 then some (.aaload) else none))) else (bif Nat.blt pc 17 then (bif Nat.beq pc 14 then some (.goto 10) else none) else (bif Nat.blt pc 20 then (bif Nat.beq pc 17 then some (.new 9) else none) else (bif Nat.beq pc 20 then some (.dup) else none))))) else (bif Nat.blt pc 31 then (bif Nat.blt pc 26 then (bif Nat.blt pc 24 then (bif Nat.beq pc 21 then some (.invokespecial 21) else none) else (bif Nat.blt pc 25 then (bif Nat.beq pc 24 then some (.astore_n 2) else none) else (bif Nat.beq pc 25 then some (.aload_n 0) else none))) else (bif Nat.blt pc 27 then (bif Nat.beq pc 26 then some (.aload_n 0) else none) else (bif Nat.blt pc 30 then (bif Nat.beq pc 27 then some (.getfield 17) else none) else (bif Nat.beq pc 30 then some (.iconst 1) else none)))) else (bif Nat.blt pc 36 then (bif Nat.blt pc 32 then (bif Nat.beq pc 31 then some (.iadd) else none) else (bif Nat.blt pc 33 then (bif Nat.beq pc 32 then some (.iconst 3) else none) else (bif Nat.beq pc 33 then some (.invokestatic 22) else none))) else (bif Nat.blt pc 39 then (bif Nat.beq pc 36 then some (.putfield 17) else none) else (bif Nat.blt pc 40 then (bif Nat.beq pc 39 then some (.aload_n 0) else none) else (bif Nat.beq pc 40 then some (.getfield 17) else none)))))) else (bif Nat.blt pc 61 then (bif Nat.blt pc 51 then (bif Nat.blt pc 46 then (bif Nat.blt pc 44 then (bif Nat.beq pc 43 then some (.iconst 1) else none) else (bif Nat.blt pc 45 then (bif Nat.beq pc 44 then some (.isub) else none) else (bif Nat.beq pc 45 then some (.istore_n 3) else none))) else (bif Nat.blt pc 47 then (bif Nat.beq pc 46 then some (.iload_n 3) else none) else (bif Nat.blt pc 50 then (bif Nat.beq pc 47 then some (.ifCond .le 23) else none) else (bif Nat.beq pc 50 then some (.aload_n 0) else none)))) else (bif Nat.blt pc 56 then (bif Nat.blt pc 54 then (bif Nat.beq pc 51 then some (.getfield 11) else none) else (bif Nat.blt pc 55 then (bif Nat.beq pc 54 then some (.iload_n 3) else none) else (bif Nat.beq pc 55 then some (.aload_n 0) else none))) else (bif Nat.blt pc 59 then (bif Nat.beq pc 56 then some (.getfield 11) else none) else (bif Nat.blt pc 60 then (bif Nat.beq pc 59 then some (.iload_n 3) else none) else (bif Nat.beq pc 60 then some (.iconst 1) else none))))) else (bif Nat.blt pc 71 then (bif Nat.blt pc 64 then (bif Nat.blt pc 62 then (bif Nat.beq pc 61 then some (.isub) else none) else (bif Nat.blt pc 63 then (bif Nat.beq pc 62 then some (.aaload) else none) else (bif Nat.beq pc 63 then some (.aastore) else none))) else (bif Nat.blt pc 67 then (bif Nat.beq pc 64 then some (.iinc 3 (-1)) else none) else (bif Nat.blt pc 70 then (bif Nat.beq pc 67 then some (.goto (-21)) else none) else (bif Nat.beq pc 70 then some (.aload_n 0) else none)))) else (bif Nat.blt pc 76 then (bif Nat.blt pc 74 then (bif Nat.beq pc 71 then some (.getfield 11) else none) else (bif Nat.blt pc 75 then (bif Nat.beq pc 74 then some (.iconst 0) else none) else (bif Nat.beq pc 75 then some (.aload_n 1) else none))) else (bif Nat.blt pc 77 then (bif Nat.beq pc 76 then some (.aastore) else none) else (bif Nat.blt pc 78 then (bif Nat.beq pc 77 then some (.aload_n 2) else none) else (bif Nat.beq pc 78 then some (.areturn) else none))))))
def q_x38 : Nat → Option Instr := q_g 79 q_t38
def q_y38 : MethodName := ⟨"RatchetPost$SessionList", "putInFront", "(LRatchetPost$Session;)LRatchetPost$Session;"⟩
def q_m38 : q_MI := (q_y38, prog_7_method_2_code, 4, (some (.object "RatchetPost$Session")), 6, 4, false, q_x38)
def q_t39 (pc : Nat) : Option Instr := bif Nat.blt pc 8 then (bif Nat.blt pc 5 then (bif Nat.blt pc 1 then (bif Nat.beq pc 0 then some (.aload_n 0) else none) else (bif Nat.blt pc 4 then (bif Nat.beq pc 1 then some (.getfield 11) else none) else (bif Nat.beq pc 4 then some (.iload_n 1) else none))) else (bif Nat.blt pc 6 then (bif Nat.beq pc 5 then some (.aaload) else none) else (bif Nat.blt pc 7 then (bif Nat.beq pc 6 then some (.astore_n 3) else none) else (bif Nat.beq pc 7 then some (.aload_n 0) else none)))) else (bif Nat.blt pc 13 then (bif Nat.blt pc 11 then (bif Nat.beq pc 8 then some (.getfield 11) else none) else (bif Nat.blt pc 12 then (bif Nat.beq pc 11 then some (.iload_n 1) else none) else (bif Nat.beq pc 12 then some (.aload_n 2) else none))) else (bif Nat.blt pc 14 then (bif Nat.beq pc 13 then some (.aastore) else none) else (bif Nat.blt pc 15 then (bif Nat.beq pc 14 then some (.aload_n 3) else none) else (bif Nat.beq pc 15 then some (.areturn) else none))))
def q_x39 : Nat → Option Instr := q_g 16 q_t39
def q_y39 : MethodName := ⟨"RatchetPost$SessionList", "exchange", "(ILRatchetPost$Session;)LRatchetPost$Session;"⟩
def q_m39 : q_MI := (q_y39, prog_7_method_3_code, 4, (some (.object "RatchetPost$Session")), 6, 4, false, q_x39)
def q_t40 (pc : Nat) : Option Instr := bif Nat.blt pc 19 then (bif Nat.blt pc 8 then (bif Nat.blt pc 5 then (bif Nat.blt pc 1 then (bif Nat.beq pc 0 then some (.aload_n 0) else none) else (bif Nat.blt pc 4 then (bif Nat.beq pc 1 then some (.getfield 11) else none) else (bif Nat.beq pc 4 then some (.iload_n 1) else none))) else (bif Nat.blt pc 6 then (bif Nat.beq pc 5 then some (.aaload) else none) else (bif Nat.blt pc 7 then (bif Nat.beq pc 6 then some (.astore_n 2) else none) else (bif Nat.beq pc 7 then some (.iload_n 1) else none)))) else (bif Nat.blt pc 13 then (bif Nat.blt pc 9 then (bif Nat.beq pc 8 then some (.istore_n 3) else none) else (bif Nat.blt pc 10 then (bif Nat.beq pc 9 then some (.iload_n 3) else none) else (bif Nat.beq pc 10 then some (.ifCond .le 23) else none))) else (bif Nat.blt pc 17 then (bif Nat.blt pc 14 then (bif Nat.beq pc 13 then some (.aload_n 0) else none) else (bif Nat.beq pc 14 then some (.getfield 11) else none)) else (bif Nat.blt pc 18 then (bif Nat.beq pc 17 then some (.iload_n 3) else none) else (bif Nat.beq pc 18 then some (.aload_n 0) else none))))) else (bif Nat.blt pc 30 then (bif Nat.blt pc 24 then (bif Nat.blt pc 22 then (bif Nat.beq pc 19 then some (.getfield 11) else none) else (bif Nat.blt pc 23 then (bif Nat.beq pc 22 then some (.iload_n 3) else none) else (bif Nat.beq pc 23 then some (.iconst 1) else none))) else (bif Nat.blt pc 26 then (bif Nat.blt pc 25 then (bif Nat.beq pc 24 then some (.isub) else none) else (bif Nat.beq pc 25 then some (.aaload) else none)) else (bif Nat.blt pc 27 then (bif Nat.beq pc 26 then some (.aastore) else none) else (bif Nat.beq pc 27 then some (.iinc 3 (-1)) else none)))) else (bif Nat.blt pc 37 then (bif Nat.blt pc 33 then (bif Nat.beq pc 30 then some (.goto (-21)) else none) else (bif Nat.blt pc 34 then (bif Nat.beq pc 33 then some (.aload_n 0) else none) else (bif Nat.beq pc 34 then some (.getfield 11) else none))) else (bif Nat.blt pc 39 then (bif Nat.blt pc 38 then (bif Nat.beq pc 37 then some (.iconst 0) else none) else (bif Nat.beq pc 38 then some (.aload_n 2) else none)) else (bif Nat.blt pc 40 then (bif Nat.beq pc 39 then some (.aastore) else none) else (bif Nat.beq pc 40 then some (.return_) else none)))))
def q_x40 : Nat → Option Instr := q_g 41 q_t40
def q_y40 : MethodName := ⟨"RatchetPost$SessionList", "moveToFront", "(I)V"⟩
def q_m40 : q_MI := (q_y40, prog_7_method_4_code, 4, none, 6, 0, false, q_x40)
def q_t41 (pc : Nat) : Option Instr := bif Nat.blt pc 15 then (bif Nat.blt pc 4 then (bif Nat.blt pc 2 then (bif Nat.blt pc 1 then (bif Nat.beq pc 0 then some (.iconst 0) else none) else (bif Nat.beq pc 1 then some (.istore_n 2) else none)) else (bif Nat.blt pc 3 then (bif Nat.beq pc 2 then some (.iload_n 2) else none) else (bif Nat.beq pc 3 then some (.aload_n 0) else none))) else (bif Nat.blt pc 10 then (bif Nat.blt pc 7 then (bif Nat.beq pc 4 then some (.getfield 17) else none) else (bif Nat.beq pc 7 then some (.if_icmp .ge 24) else none)) else (bif Nat.blt pc 11 then (bif Nat.beq pc 10 then some (.aload_n 0) else none) else (bif Nat.blt pc 14 then (bif Nat.beq pc 11 then some (.getfield 11) else none) else (bif Nat.beq pc 14 then some (.iload_n 2) else none))))) else (bif Nat.blt pc 24 then (bif Nat.blt pc 19 then (bif Nat.blt pc 16 then (bif Nat.beq pc 15 then some (.aaload) else none) else (bif Nat.beq pc 16 then some (.getfield 28) else none)) else (bif Nat.blt pc 20 then (bif Nat.beq pc 19 then some (.iload_n 1) else none) else (bif Nat.blt pc 23 then (bif Nat.beq pc 20 then some (.if_icmp .ne 5) else none) else (bif Nat.beq pc 23 then some (.iload_n 2) else none)))) else (bif Nat.blt pc 28 then (bif Nat.blt pc 25 then (bif Nat.beq pc 24 then some (.ireturn) else none) else (bif Nat.beq pc 25 then some (.iinc 2 1) else none)) else (bif Nat.blt pc 31 then (bif Nat.beq pc 28 then some (.goto (-26)) else none) else (bif Nat.blt pc 32 then (bif Nat.beq pc 31 then some (.iconst (-1)) else none) else (bif Nat.beq pc 32 then some (.ireturn) else none)))))
def q_x41 : Nat → Option Instr := q_g 33 q_t41
def q_y41 : MethodName := ⟨"RatchetPost$SessionList", "placeOfBase", "(I)I"⟩
def q_m41 : q_MI := (q_y41, prog_7_method_5_code, 3, (some .int), 6, 1, false, q_x41)
def q_t42 (pc : Nat) : Option Instr := bif Nat.blt pc 77 then (bif Nat.blt pc 37 then (bif Nat.blt pc 17 then (bif Nat.blt pc 8 then (bif Nat.blt pc 4 then (bif Nat.blt pc 1 then (bif Nat.beq pc 0 then some (.aload_n 0) else none) else (bif Nat.beq pc 1 then some (.invokespecial 1) else none)) else (bif Nat.blt pc 5 then (bif Nat.beq pc 4 then some (.aload_n 0) else none) else (bif Nat.beq pc 5 then some (.new 7) else none))) else (bif Nat.blt pc 12 then (bif Nat.blt pc 9 then (bif Nat.beq pc 8 then some (.dup) else none) else (bif Nat.beq pc 9 then some (.invokespecial 9) else none)) else (bif Nat.blt pc 15 then (bif Nat.beq pc 12 then some (.putfield 10) else none) else (bif Nat.blt pc 16 then (bif Nat.beq pc 15 then some (.aload_n 0) else none) else (bif Nat.beq pc 16 then some (.iconst 4) else none))))) else (bif Nat.blt pc 26 then (bif Nat.blt pc 23 then (bif Nat.blt pc 20 then (bif Nat.beq pc 17 then some (.anewarray 16) else none) else (bif Nat.beq pc 20 then some (.putfield 18) else none)) else (bif Nat.blt pc 24 then (bif Nat.beq pc 23 then some (.aload_n 0) else none) else (bif Nat.beq pc 24 then some (.bipush 16) else none))) else (bif Nat.blt pc 32 then (bif Nat.blt pc 29 then (bif Nat.beq pc 26 then some (.anewarray 22) else none) else (bif Nat.beq pc 29 then some (.putfield 24) else none)) else (bif Nat.blt pc 33 then (bif Nat.beq pc 32 then some (.aload_n 0) else none) else (bif Nat.blt pc 35 then (bif Nat.beq pc 33 then some (.bipush 60) else none) else (bif Nat.beq pc 35 then some (.bipush 12) else none)))))) else (bif Nat.blt pc 55 then (bif Nat.blt pc 46 then (bif Nat.blt pc 44 then (bif Nat.blt pc 41 then (bif Nat.beq pc 37 then some (.multianewarray 28 2) else none) else (bif Nat.beq pc 41 then some (.putfield 30) else none)) else (bif Nat.blt pc 45 then (bif Nat.beq pc 44 then some (.aload_n 0) else none) else (bif Nat.beq pc 45 then some (.iconst 0) else none))) else (bif Nat.blt pc 50 then (bif Nat.blt pc 49 then (bif Nat.beq pc 46 then some (.putfield 33) else none) else (bif Nat.beq pc 49 then some (.aload_n 0) else none)) else (bif Nat.blt pc 51 then (bif Nat.beq pc 50 then some (.lconst 0) else none) else (bif Nat.blt pc 54 then (bif Nat.beq pc 51 then some (.putfield 37) else none) else (bif Nat.beq pc 54 then some (.aload_n 0) else none))))) else (bif Nat.blt pc 66 then (bif Nat.blt pc 59 then (bif Nat.blt pc 58 then (bif Nat.beq pc 55 then some (.new 41) else none) else (bif Nat.beq pc 58 then some (.dup) else none)) else (bif Nat.blt pc 62 then (bif Nat.beq pc 59 then some (.invokespecial 43) else none) else (bif Nat.blt pc 65 then (bif Nat.beq pc 62 then some (.putfield 44) else none) else (bif Nat.beq pc 65 then some (.aload_n 0) else none)))) else (bif Nat.blt pc 70 then (bif Nat.blt pc 69 then (bif Nat.beq pc 66 then some (.new 48) else none) else (bif Nat.beq pc 69 then some (.dup) else none)) else (bif Nat.blt pc 73 then (bif Nat.beq pc 70 then some (.invokespecial 50) else none) else (bif Nat.blt pc 76 then (bif Nat.beq pc 73 then some (.putfield 51) else none) else (bif Nat.beq pc 76 then some (.aload_n 0) else none))))))) else (bif Nat.blt pc 109 then (bif Nat.blt pc 94 then (bif Nat.blt pc 85 then (bif Nat.blt pc 81 then (bif Nat.blt pc 79 then (bif Nat.beq pc 77 then some (.bipush 8) else none) else (bif Nat.beq pc 79 then some (.newarray .int) else none)) else (bif Nat.blt pc 84 then (bif Nat.beq pc 81 then some (.putfield 55) else none) else (bif Nat.beq pc 84 then some (.aload_n 0) else none))) else (bif Nat.blt pc 89 then (bif Nat.blt pc 87 then (bif Nat.beq pc 85 then some (.bipush 8) else none) else (bif Nat.beq pc 87 then some (.newarray .int) else none)) else (bif Nat.blt pc 92 then (bif Nat.beq pc 89 then some (.putfield 59) else none) else (bif Nat.blt pc 93 then (bif Nat.beq pc 92 then some (.iconst 0) else none) else (bif Nat.beq pc 93 then some (.istore_n 1) else none))))) else (bif Nat.blt pc 100 then (bif Nat.blt pc 96 then (bif Nat.blt pc 95 then (bif Nat.beq pc 94 then some (.iload_n 1) else none) else (bif Nat.beq pc 95 then some (.iconst 4) else none)) else (bif Nat.blt pc 99 then (bif Nat.beq pc 96 then some (.if_icmp .ge 23) else none) else (bif Nat.beq pc 99 then some (.aload_n 0) else none))) else (bif Nat.blt pc 104 then (bif Nat.blt pc 103 then (bif Nat.beq pc 100 then some (.getfield 18) else none) else (bif Nat.beq pc 103 then some (.iload_n 1) else none)) else (bif Nat.blt pc 107 then (bif Nat.beq pc 104 then some (.new 16) else none) else (bif Nat.blt pc 108 then (bif Nat.beq pc 107 then some (.dup) else none) else (bif Nat.beq pc 108 then some (.iload_n 1) else none)))))) else (bif Nat.blt pc 127 then (bif Nat.blt pc 119 then (bif Nat.blt pc 113 then (bif Nat.blt pc 112 then (bif Nat.beq pc 109 then some (.invokespecial 62) else none) else (bif Nat.beq pc 112 then some (.aastore) else none)) else (bif Nat.blt pc 116 then (bif Nat.beq pc 113 then some (.iinc 1 1) else none) else (bif Nat.beq pc 116 then some (.goto (-22)) else none))) else (bif Nat.blt pc 121 then (bif Nat.blt pc 120 then (bif Nat.beq pc 119 then some (.iconst 0) else none) else (bif Nat.beq pc 120 then some (.istore_n 1) else none)) else (bif Nat.blt pc 122 then (bif Nat.beq pc 121 then some (.iload_n 1) else none) else (bif Nat.blt pc 124 then (bif Nat.beq pc 122 then some (.bipush 16) else none) else (bif Nat.beq pc 124 then some (.if_icmp .ge 22) else none))))) else (bif Nat.blt pc 136 then (bif Nat.blt pc 131 then (bif Nat.blt pc 128 then (bif Nat.beq pc 127 then some (.aload_n 0) else none) else (bif Nat.beq pc 128 then some (.getfield 24) else none)) else (bif Nat.blt pc 132 then (bif Nat.beq pc 131 then some (.iload_n 1) else none) else (bif Nat.blt pc 135 then (bif Nat.beq pc 132 then some (.new 22) else none) else (bif Nat.beq pc 135 then some (.dup) else none)))) else (bif Nat.blt pc 140 then (bif Nat.blt pc 139 then (bif Nat.beq pc 136 then some (.invokespecial 65) else none) else (bif Nat.beq pc 139 then some (.aastore) else none)) else (bif Nat.blt pc 143 then (bif Nat.beq pc 140 then some (.iinc 1 1) else none) else (bif Nat.blt pc 146 then (bif Nat.beq pc 143 then some (.goto (-22)) else none) else (bif Nat.beq pc 146 then some (.return_) else none)))))))
def q_x42 : Nat → Option Instr := q_g 147 q_t42
def q_y42 : MethodName := ⟨"RatchetPost", "<init>", "()V"⟩
def q_m42 : q_MI := (q_y42, prog_1_method_1_code, 2, none, 7, 0, true, q_x42)
def q_t43 (pc : Nat) : Option Instr := bif Nat.blt pc 21 then (bif Nat.blt pc 9 then (bif Nat.blt pc 4 then (bif Nat.blt pc 1 then (bif Nat.beq pc 0 then some (.iload_n 1) else none) else (bif Nat.beq pc 1 then some (.ifCond .lt 20) else none)) else (bif Nat.blt pc 5 then (bif Nat.beq pc 4 then some (.iload_n 1) else none) else (bif Nat.blt pc 6 then (bif Nat.beq pc 5 then some (.iconst 4) else none) else (bif Nat.beq pc 6 then some (.if_icmp .ge 15) else none)))) else (bif Nat.blt pc 14 then (bif Nat.blt pc 10 then (bif Nat.beq pc 9 then some (.aload_n 0) else none) else (bif Nat.blt pc 13 then (bif Nat.beq pc 10 then some (.getfield 18) else none) else (bif Nat.beq pc 13 then some (.iload_n 1) else none))) else (bif Nat.blt pc 15 then (bif Nat.beq pc 14 then some (.aaload) else none) else (bif Nat.blt pc 18 then (bif Nat.beq pc 15 then some (.getfield 66) else none) else (bif Nat.beq pc 18 then some (.ifCond .eq 5) else none))))) else (bif Nat.blt pc 29 then (bif Nat.blt pc 24 then (bif Nat.blt pc 22 then (bif Nat.beq pc 21 then some (.iconst 0) else none) else (bif Nat.blt pc 23 then (bif Nat.beq pc 22 then some (.ireturn) else none) else (bif Nat.beq pc 23 then some (.aload_n 0) else none))) else (bif Nat.blt pc 27 then (bif Nat.beq pc 24 then some (.getfield 18) else none) else (bif Nat.blt pc 28 then (bif Nat.beq pc 27 then some (.iload_n 1) else none) else (bif Nat.beq pc 28 then some (.aaload) else none)))) else (bif Nat.blt pc 34 then (bif Nat.blt pc 30 then (bif Nat.beq pc 29 then some (.aload_n 0) else none) else (bif Nat.blt pc 33 then (bif Nat.beq pc 30 then some (.getfield 10) else none) else (bif Nat.beq pc 33 then some (.lload_n 2) else none))) else (bif Nat.blt pc 37 then (bif Nat.beq pc 34 then some (.invokevirtual 70) else none) else (bif Nat.blt pc 38 then (bif Nat.beq pc 37 then some (.iconst 1) else none) else (bif Nat.beq pc 38 then some (.ireturn) else none)))))
def q_x43 : Nat → Option Instr := q_g 39 q_t43
def q_y43 : MethodName := ⟨"RatchetPost", "register", "(IJ)Z"⟩
def q_m43 : q_MI := (q_y43, prog_1_method_2_code, 4, (some .boolean), 7, 2, false, q_x43)
def q_t44 (pc : Nat) : Option Instr := bif Nat.blt pc 12 then (bif Nat.blt pc 6 then (bif Nat.blt pc 2 then (bif Nat.blt pc 1 then (bif Nat.beq pc 0 then some (.aload_n 0) else none) else (bif Nat.beq pc 1 then some (.iload_n 1) else none)) else (bif Nat.blt pc 3 then (bif Nat.beq pc 2 then some (.i2l) else none) else (bif Nat.beq pc 3 then some (.invokevirtual 74) else none))) else (bif Nat.blt pc 10 then (bif Nat.blt pc 9 then (bif Nat.beq pc 6 then some (.ifCond .ne 5) else none) else (bif Nat.beq pc 9 then some (.iconst 0) else none)) else (bif Nat.blt pc 11 then (bif Nat.beq pc 10 then some (.ireturn) else none) else (bif Nat.beq pc 11 then some (.aload_n 0) else none)))) else (bif Nat.blt pc 18 then (bif Nat.blt pc 16 then (bif Nat.blt pc 15 then (bif Nat.beq pc 12 then some (.getfield 18) else none) else (bif Nat.beq pc 15 then some (.iload_n 1) else none)) else (bif Nat.blt pc 17 then (bif Nat.beq pc 16 then some (.aaload) else none) else (bif Nat.beq pc 17 then some (.aload_n 0) else none))) else (bif Nat.blt pc 24 then (bif Nat.blt pc 21 then (bif Nat.beq pc 18 then some (.getfield 10) else none) else (bif Nat.beq pc 21 then some (.invokevirtual 78) else none)) else (bif Nat.blt pc 25 then (bif Nat.beq pc 24 then some (.iconst 1) else none) else (bif Nat.beq pc 25 then some (.ireturn) else none))))
def q_x44 : Nat → Option Instr := q_g 26 q_t44
def q_y44 : MethodName := ⟨"RatchetPost", "rotate", "(I)Z"⟩
def q_m44 : q_MI := (q_y44, prog_1_method_3_code, 2, (some .boolean), 7, 2, false, q_x44)
def q_t45 (pc : Nat) : Option Instr := bif Nat.blt pc 20 then (bif Nat.blt pc 9 then (bif Nat.blt pc 2 then (bif Nat.blt pc 1 then (bif Nat.beq pc 0 then some (.aload_n 0) else none) else (bif Nat.beq pc 1 then some (.iload_n 1) else none)) else (bif Nat.blt pc 3 then (bif Nat.beq pc 2 then some (.i2l) else none) else (bif Nat.blt pc 6 then (bif Nat.beq pc 3 then some (.invokevirtual 74) else none) else (bif Nat.beq pc 6 then some (.ifCond .eq 14) else none)))) else (bif Nat.blt pc 14 then (bif Nat.blt pc 10 then (bif Nat.beq pc 9 then some (.iload_n 2) else none) else (bif Nat.blt pc 11 then (bif Nat.beq pc 10 then some (.iconst 1) else none) else (bif Nat.beq pc 11 then some (.if_icmp .lt 9) else none))) else (bif Nat.blt pc 15 then (bif Nat.beq pc 14 then some (.iload_n 2) else none) else (bif Nat.blt pc 17 then (bif Nat.beq pc 15 then some (.bipush 6) else none) else (bif Nat.beq pc 17 then some (.if_icmp .le 5) else none))))) else (bif Nat.blt pc 27 then (bif Nat.blt pc 22 then (bif Nat.blt pc 21 then (bif Nat.beq pc 20 then some (.iconst (-1)) else none) else (bif Nat.beq pc 21 then some (.ireturn) else none)) else (bif Nat.blt pc 23 then (bif Nat.beq pc 22 then some (.aload_n 0) else none) else (bif Nat.blt pc 26 then (bif Nat.beq pc 23 then some (.getfield 18) else none) else (bif Nat.beq pc 26 then some (.iload_n 1) else none)))) else (bif Nat.blt pc 32 then (bif Nat.blt pc 28 then (bif Nat.beq pc 27 then some (.aaload) else none) else (bif Nat.blt pc 29 then (bif Nat.beq pc 28 then some (.aload_n 0) else none) else (bif Nat.beq pc 29 then some (.getfield 10) else none))) else (bif Nat.blt pc 33 then (bif Nat.beq pc 32 then some (.iload_n 2) else none) else (bif Nat.blt pc 36 then (bif Nat.beq pc 33 then some (.invokevirtual 82) else none) else (bif Nat.beq pc 36 then some (.ireturn) else none)))))
def q_x45 : Nat → Option Instr := q_g 37 q_t45
def q_y45 : MethodName := ⟨"RatchetPost", "prekeys", "(II)I"⟩
def q_m45 : q_MI := (q_y45, prog_1_method_4_code, 3, (some .int), 7, 1, false, q_x45)
def q_t46 (pc : Nat) : Option Instr := bif Nat.blt pc 67 then (bif Nat.blt pc 20 then (bif Nat.blt pc 10 then (bif Nat.blt pc 3 then (bif Nat.blt pc 1 then (bif Nat.beq pc 0 then some (.aload_n 0) else none) else (bif Nat.blt pc 2 then (bif Nat.beq pc 1 then some (.iload_n 1) else none) else (bif Nat.beq pc 2 then some (.i2l) else none))) else (bif Nat.blt pc 6 then (bif Nat.beq pc 3 then some (.invokevirtual 74) else none) else (bif Nat.blt pc 9 then (bif Nat.beq pc 6 then some (.ifCond .ne 5) else none) else (bif Nat.beq pc 9 then some (.iconst 0) else none)))) else (bif Nat.blt pc 15 then (bif Nat.blt pc 11 then (bif Nat.beq pc 10 then some (.ireturn) else none) else (bif Nat.blt pc 12 then (bif Nat.beq pc 11 then some (.aload_n 0) else none) else (bif Nat.beq pc 12 then some (.getfield 18) else none))) else (bif Nat.blt pc 16 then (bif Nat.beq pc 15 then some (.iload_n 1) else none) else (bif Nat.blt pc 17 then (bif Nat.beq pc 16 then some (.aaload) else none) else (bif Nat.beq pc 17 then some (.getfield 86) else none))))) else (bif Nat.blt pc 58 then (bif Nat.blt pc 52 then (bif Nat.blt pc 22 then (bif Nat.beq pc 20 then some (.astore 4) else none) else (bif Nat.blt pc 23 then (bif Nat.beq pc 22 then some (.iload_n 2) else none) else (bif Nat.beq pc 23 then some (.tableswitch 81 0 3 #[29, 42, 55, 68]) else none))) else (bif Nat.blt pc 54 then (bif Nat.beq pc 52 then some (.aload 4) else none) else (bif Nat.blt pc 55 then (bif Nat.beq pc 54 then some (.dup) else none) else (bif Nat.beq pc 55 then some (.getfield 90) else none)))) else (bif Nat.blt pc 63 then (bif Nat.blt pc 59 then (bif Nat.beq pc 58 then some (.iload_n 3) else none) else (bif Nat.blt pc 60 then (bif Nat.beq pc 59 then some (.ixor) else none) else (bif Nat.beq pc 60 then some (.putfield 90) else none))) else (bif Nat.blt pc 64 then (bif Nat.beq pc 63 then some (.iconst 1) else none) else (bif Nat.blt pc 65 then (bif Nat.beq pc 64 then some (.ireturn) else none) else (bif Nat.beq pc 65 then some (.aload 4) else none)))))) else (bif Nat.blt pc 86 then (bif Nat.blt pc 77 then (bif Nat.blt pc 72 then (bif Nat.blt pc 68 then (bif Nat.beq pc 67 then some (.dup) else none) else (bif Nat.blt pc 71 then (bif Nat.beq pc 68 then some (.getfield 95) else none) else (bif Nat.beq pc 71 then some (.iload_n 3) else none))) else (bif Nat.blt pc 73 then (bif Nat.beq pc 72 then some (.ixor) else none) else (bif Nat.blt pc 76 then (bif Nat.beq pc 73 then some (.putfield 95) else none) else (bif Nat.beq pc 76 then some (.iconst 1) else none)))) else (bif Nat.blt pc 81 then (bif Nat.blt pc 78 then (bif Nat.beq pc 77 then some (.ireturn) else none) else (bif Nat.blt pc 80 then (bif Nat.beq pc 78 then some (.aload 4) else none) else (bif Nat.beq pc 80 then some (.dup) else none))) else (bif Nat.blt pc 84 then (bif Nat.beq pc 81 then some (.getfield 98) else none) else (bif Nat.blt pc 85 then (bif Nat.beq pc 84 then some (.iload_n 3) else none) else (bif Nat.beq pc 85 then some (.ixor) else none))))) else (bif Nat.blt pc 97 then (bif Nat.blt pc 91 then (bif Nat.blt pc 89 then (bif Nat.beq pc 86 then some (.putfield 98) else none) else (bif Nat.blt pc 90 then (bif Nat.beq pc 89 then some (.iconst 1) else none) else (bif Nat.beq pc 90 then some (.ireturn) else none))) else (bif Nat.blt pc 93 then (bif Nat.beq pc 91 then some (.aload 4) else none) else (bif Nat.blt pc 94 then (bif Nat.beq pc 93 then some (.dup) else none) else (bif Nat.beq pc 94 then some (.getfield 101) else none)))) else (bif Nat.blt pc 102 then (bif Nat.blt pc 98 then (bif Nat.beq pc 97 then some (.iload_n 3) else none) else (bif Nat.blt pc 99 then (bif Nat.beq pc 98 then some (.ixor) else none) else (bif Nat.beq pc 99 then some (.putfield 101) else none))) else (bif Nat.blt pc 104 then (bif Nat.blt pc 103 then (bif Nat.beq pc 102 then some (.iconst 1) else none) else (bif Nat.beq pc 103 then some (.ireturn) else none)) else (bif Nat.blt pc 105 then (bif Nat.beq pc 104 then some (.iconst 0) else none) else (bif Nat.beq pc 105 then some (.ireturn) else none))))))
def q_x46 : Nat → Option Instr := q_g 106 q_t46
def q_y46 : MethodName := ⟨"RatchetPost", "spoil", "(III)Z"⟩
def q_m46 : q_MI := (q_y46, prog_1_method_5_code, 5, (some .boolean), 7, 2, false, q_x46)
def q_t47 (pc : Nat) : Option Instr := bif Nat.blt pc 92 then (bif Nat.blt pc 41 then (bif Nat.blt pc 18 then (bif Nat.blt pc 8 then (bif Nat.blt pc 3 then (bif Nat.blt pc 1 then (bif Nat.beq pc 0 then some (.aload_n 0) else none) else (bif Nat.blt pc 2 then (bif Nat.beq pc 1 then some (.iload_n 1) else none) else (bif Nat.beq pc 2 then some (.i2l) else none))) else (bif Nat.blt pc 4 then (bif Nat.beq pc 3 then some (.iload_n 2) else none) else (bif Nat.blt pc 5 then (bif Nat.beq pc 4 then some (.i2l) else none) else (bif Nat.beq pc 5 then some (.invokevirtual 104) else none)))) else (bif Nat.blt pc 13 then (bif Nat.blt pc 11 then (bif Nat.beq pc 8 then some (.ifCond .ne 5) else none) else (bif Nat.blt pc 12 then (bif Nat.beq pc 11 then some (.iconst (-1)) else none) else (bif Nat.beq pc 12 then some (.ireturn) else none))) else (bif Nat.blt pc 14 then (bif Nat.beq pc 13 then some (.aload_n 0) else none) else (bif Nat.blt pc 17 then (bif Nat.beq pc 14 then some (.getfield 18) else none) else (bif Nat.beq pc 17 then some (.iload_n 2) else none))))) else (bif Nat.blt pc 29 then (bif Nat.blt pc 23 then (bif Nat.blt pc 19 then (bif Nat.beq pc 18 then some (.aaload) else none) else (bif Nat.blt pc 22 then (bif Nat.beq pc 19 then some (.getfield 86) else none) else (bif Nat.beq pc 22 then some (.astore_n 3) else none))) else (bif Nat.blt pc 24 then (bif Nat.beq pc 23 then some (.aload_n 3) else none) else (bif Nat.blt pc 27 then (bif Nat.beq pc 24 then some (.invokevirtual 108) else none) else (bif Nat.beq pc 27 then some (.istore 4) else none)))) else (bif Nat.blt pc 34 then (bif Nat.blt pc 30 then (bif Nat.beq pc 29 then some (.aload_n 3) else none) else (bif Nat.blt pc 31 then (bif Nat.beq pc 30 then some (.aload_n 0) else none) else (bif Nat.beq pc 31 then some (.getfield 10) else none))) else (bif Nat.blt pc 37 then (bif Nat.beq pc 34 then some (.invokevirtual 112) else none) else (bif Nat.blt pc 40 then (bif Nat.beq pc 37 then some (.ifCond .ne 5) else none) else (bif Nat.beq pc 40 then some (.iconst 1) else none)))))) else (bif Nat.blt pc 63 then (bif Nat.blt pc 49 then (bif Nat.blt pc 46 then (bif Nat.blt pc 42 then (bif Nat.beq pc 41 then some (.ireturn) else none) else (bif Nat.blt pc 43 then (bif Nat.beq pc 42 then some (.aload_n 0) else none) else (bif Nat.beq pc 43 then some (.getfield 18) else none))) else (bif Nat.blt pc 47 then (bif Nat.beq pc 46 then some (.iload_n 1) else none) else (bif Nat.blt pc 48 then (bif Nat.beq pc 47 then some (.aaload) else none) else (bif Nat.beq pc 48 then some (.aload_n 0) else none)))) else (bif Nat.blt pc 56 then (bif Nat.blt pc 52 then (bif Nat.beq pc 49 then some (.getfield 10) else none) else (bif Nat.blt pc 53 then (bif Nat.beq pc 52 then some (.aload_n 0) else none) else (bif Nat.beq pc 53 then some (.getfield 51) else none))) else (bif Nat.blt pc 59 then (bif Nat.beq pc 56 then some (.invokevirtual 116) else none) else (bif Nat.blt pc 60 then (bif Nat.beq pc 59 then some (.aload_n 0) else none) else (bif Nat.beq pc 60 then some (.getfield 44) else none))))) else (bif Nat.blt pc 77 then (bif Nat.blt pc 70 then (bif Nat.blt pc 66 then (bif Nat.beq pc 63 then some (.invokevirtual 120) else none) else (bif Nat.blt pc 67 then (bif Nat.beq pc 66 then some (.aload_n 0) else none) else (bif Nat.beq pc 67 then some (.getfield 44) else none))) else (bif Nat.blt pc 71 then (bif Nat.beq pc 70 then some (.aload_n 0) else none) else (bif Nat.blt pc 74 then (bif Nat.beq pc 71 then some (.getfield 51) else none) else (bif Nat.beq pc 74 then some (.getfield 123) else none)))) else (bif Nat.blt pc 84 then (bif Nat.blt pc 80 then (bif Nat.beq pc 77 then some (.putfield 126) else none) else (bif Nat.blt pc 81 then (bif Nat.beq pc 80 then some (.aload_n 0) else none) else (bif Nat.beq pc 81 then some (.getfield 44) else none))) else (bif Nat.blt pc 88 then (bif Nat.blt pc 85 then (bif Nat.beq pc 84 then some (.iconst 1) else none) else (bif Nat.beq pc 85 then some (.putfield 129) else none)) else (bif Nat.blt pc 89 then (bif Nat.beq pc 88 then some (.aload_n 0) else none) else (bif Nat.beq pc 89 then some (.getfield 44) else none))))))) else (bif Nat.blt pc 141 then (bif Nat.blt pc 115 then (bif Nat.blt pc 105 then (bif Nat.blt pc 99 then (bif Nat.blt pc 93 then (bif Nat.beq pc 92 then some (.aload_n 3) else none) else (bif Nat.blt pc 96 then (bif Nat.beq pc 93 then some (.getfield 95) else none) else (bif Nat.beq pc 96 then some (.putfield 132) else none))) else (bif Nat.blt pc 100 then (bif Nat.beq pc 99 then some (.aload_n 0) else none) else (bif Nat.blt pc 103 then (bif Nat.beq pc 100 then some (.getfield 44) else none) else (bif Nat.beq pc 103 then some (.iload 4) else none)))) else (bif Nat.blt pc 110 then (bif Nat.blt pc 108 then (bif Nat.beq pc 105 then some (.putfield 135) else none) else (bif Nat.blt pc 109 then (bif Nat.beq pc 108 then some (.aload_n 0) else none) else (bif Nat.beq pc 109 then some (.aload_n 0) else none))) else (bif Nat.blt pc 113 then (bif Nat.beq pc 110 then some (.getfield 18) else none) else (bif Nat.blt pc 114 then (bif Nat.beq pc 113 then some (.iload_n 1) else none) else (bif Nat.beq pc 114 then some (.aaload) else none))))) else (bif Nat.blt pc 128 then (bif Nat.blt pc 121 then (bif Nat.blt pc 118 then (bif Nat.beq pc 115 then some (.getfield 138) else none) else (bif Nat.blt pc 119 then (bif Nat.beq pc 118 then some (.aload_n 3) else none) else (bif Nat.beq pc 119 then some (.iload 4) else none))) else (bif Nat.blt pc 124 then (bif Nat.beq pc 121 then some (.invokevirtual 140) else none) else (bif Nat.blt pc 125 then (bif Nat.beq pc 124 then some (.aload_n 0) else none) else (bif Nat.beq pc 125 then some (.getfield 18) else none)))) else (bif Nat.blt pc 131 then (bif Nat.blt pc 129 then (bif Nat.beq pc 128 then some (.iload_n 1) else none) else (bif Nat.blt pc 130 then (bif Nat.beq pc 129 then some (.aaload) else none) else (bif Nat.beq pc 130 then some (.aload_n 0) else none))) else (bif Nat.blt pc 135 then (bif Nat.blt pc 134 then (bif Nat.beq pc 131 then some (.getfield 10) else none) else (bif Nat.beq pc 134 then some (.aload_n 0) else none)) else (bif Nat.blt pc 138 then (bif Nat.beq pc 135 then some (.getfield 44) else none) else (bif Nat.beq pc 138 then some (.getfield 144) else none)))))) else (bif Nat.blt pc 167 then (bif Nat.blt pc 155 then (bif Nat.blt pc 148 then (bif Nat.blt pc 144 then (bif Nat.beq pc 141 then some (.invokevirtual 116) else none) else (bif Nat.blt pc 145 then (bif Nat.beq pc 144 then some (.aload_n 0) else none) else (bif Nat.beq pc 145 then some (.getfield 44) else none))) else (bif Nat.blt pc 149 then (bif Nat.beq pc 148 then some (.aload_n 3) else none) else (bif Nat.blt pc 152 then (bif Nat.beq pc 149 then some (.getfield 95) else none) else (bif Nat.beq pc 152 then some (.putfield 147) else none)))) else (bif Nat.blt pc 160 then (bif Nat.blt pc 156 then (bif Nat.beq pc 155 then some (.aload_n 0) else none) else (bif Nat.blt pc 159 then (bif Nat.beq pc 156 then some (.getfield 44) else none) else (bif Nat.beq pc 159 then some (.aload_n 0) else none))) else (bif Nat.blt pc 163 then (bif Nat.beq pc 160 then some (.getfield 10) else none) else (bif Nat.blt pc 164 then (bif Nat.beq pc 163 then some (.aload_n 0) else none) else (bif Nat.beq pc 164 then some (.getfield 44) else none))))) else (bif Nat.blt pc 177 then (bif Nat.blt pc 174 then (bif Nat.blt pc 170 then (bif Nat.beq pc 167 then some (.getfield 150) else none) else (bif Nat.blt pc 173 then (bif Nat.beq pc 170 then some (.invokevirtual 153) else none) else (bif Nat.beq pc 173 then some (.aload_n 0) else none))) else (bif Nat.blt pc 175 then (bif Nat.beq pc 174 then some (.aload_n 0) else none) else (bif Nat.blt pc 176 then (bif Nat.beq pc 175 then some (.iload_n 1) else none) else (bif Nat.beq pc 176 then some (.iload_n 2) else none)))) else (bif Nat.blt pc 184 then (bif Nat.blt pc 180 then (bif Nat.beq pc 177 then some (.invokevirtual 157) else none) else (bif Nat.blt pc 181 then (bif Nat.beq pc 180 then some (.aload_n 0) else none) else (bif Nat.beq pc 181 then some (.getfield 44) else none))) else (bif Nat.blt pc 190 then (bif Nat.blt pc 187 then (bif Nat.beq pc 184 then some (.invokevirtual 161) else none) else (bif Nat.beq pc 187 then some (.putfield 44) else none)) else (bif Nat.blt pc 191 then (bif Nat.beq pc 190 then some (.iconst 0) else none) else (bif Nat.beq pc 191 then some (.ireturn) else none)))))))
def q_x47 : Nat → Option Instr := q_g 192 q_t47
def q_y47 : MethodName := ⟨"RatchetPost", "begin", "(II)I"⟩
def q_m47 : q_MI := (q_y47, prog_1_method_6_code, 5, (some .int), 7, 1, false, q_x47)
def q_t48 (pc : Nat) : Option Instr := bif Nat.blt pc 125 then (bif Nat.blt pc 62 then (bif Nat.blt pc 33 then (bif Nat.blt pc 13 then (bif Nat.blt pc 4 then (bif Nat.blt pc 2 then (bif Nat.blt pc 1 then (bif Nat.beq pc 0 then some (.aload_n 0) else none) else (bif Nat.beq pc 1 then some (.iload_n 1) else none)) else (bif Nat.blt pc 3 then (bif Nat.beq pc 2 then some (.i2l) else none) else (bif Nat.beq pc 3 then some (.iload_n 2) else none))) else (bif Nat.blt pc 8 then (bif Nat.blt pc 5 then (bif Nat.beq pc 4 then some (.i2l) else none) else (bif Nat.beq pc 5 then some (.invokevirtual 104) else none)) else (bif Nat.blt pc 11 then (bif Nat.beq pc 8 then some (.ifCond .eq 24) else none) else (bif Nat.blt pc 12 then (bif Nat.beq pc 11 then some (.aload_n 0) else none) else (bif Nat.beq pc 12 then some (.iload_n 1) else none))))) else (bif Nat.blt pc 23 then (bif Nat.blt pc 17 then (bif Nat.blt pc 14 then (bif Nat.beq pc 13 then some (.iload_n 2) else none) else (bif Nat.beq pc 14 then some (.invokevirtual 157) else none)) else (bif Nat.blt pc 20 then (bif Nat.beq pc 17 then some (.getfield 165) else none) else (bif Nat.beq pc 20 then some (.ifCond .eq 12) else none))) else (bif Nat.blt pc 27 then (bif Nat.blt pc 24 then (bif Nat.beq pc 23 then some (.aload_n 0) else none) else (bif Nat.beq pc 24 then some (.getfield 33) else none)) else (bif Nat.blt pc 29 then (bif Nat.beq pc 27 then some (.bipush 60) else none) else (bif Nat.blt pc 32 then (bif Nat.beq pc 29 then some (.if_icmp .lt 5) else none) else (bif Nat.beq pc 32 then some (.iconst (-1)) else none)))))) else (bif Nat.blt pc 47 then (bif Nat.blt pc 37 then (bif Nat.blt pc 35 then (bif Nat.blt pc 34 then (bif Nat.beq pc 33 then some (.ireturn) else none) else (bif Nat.beq pc 34 then some (.aload_n 0) else none)) else (bif Nat.blt pc 36 then (bif Nat.beq pc 35 then some (.iload_n 1) else none) else (bif Nat.beq pc 36 then some (.iload_n 2) else none))) else (bif Nat.blt pc 43 then (bif Nat.blt pc 40 then (bif Nat.beq pc 37 then some (.invokevirtual 157) else none) else (bif Nat.beq pc 40 then some (.getfield 168) else none)) else (bif Nat.blt pc 44 then (bif Nat.beq pc 43 then some (.iconst 0) else none) else (bif Nat.blt pc 45 then (bif Nat.beq pc 44 then some (.aaload) else none) else (bif Nat.beq pc 45 then some (.astore 5) else none))))) else (bif Nat.blt pc 55 then (bif Nat.blt pc 51 then (bif Nat.blt pc 48 then (bif Nat.beq pc 47 then some (.aload_n 0) else none) else (bif Nat.beq pc 48 then some (.getfield 30) else none)) else (bif Nat.blt pc 52 then (bif Nat.beq pc 51 then some (.aload_n 0) else none) else (bif Nat.beq pc 52 then some (.getfield 33) else none))) else (bif Nat.blt pc 58 then (bif Nat.blt pc 56 then (bif Nat.beq pc 55 then some (.aaload) else none) else (bif Nat.beq pc 56 then some (.astore 6) else none)) else (bif Nat.blt pc 60 then (bif Nat.beq pc 58 then some (.aload 6) else none) else (bif Nat.blt pc 61 then (bif Nat.beq pc 60 then some (.iconst 0) else none) else (bif Nat.beq pc 61 then some (.iload_n 1) else none))))))) else (bif Nat.blt pc 92 then (bif Nat.blt pc 73 then (bif Nat.blt pc 67 then (bif Nat.blt pc 64 then (bif Nat.blt pc 63 then (bif Nat.beq pc 62 then some (.i2l) else none) else (bif Nat.beq pc 63 then some (.lastore) else none)) else (bif Nat.blt pc 66 then (bif Nat.beq pc 64 then some (.aload 6) else none) else (bif Nat.beq pc 66 then some (.iconst 1) else none))) else (bif Nat.blt pc 69 then (bif Nat.blt pc 68 then (bif Nat.beq pc 67 then some (.iload_n 2) else none) else (bif Nat.beq pc 68 then some (.i2l) else none)) else (bif Nat.blt pc 70 then (bif Nat.beq pc 69 then some (.lastore) else none) else (bif Nat.blt pc 72 then (bif Nat.beq pc 70 then some (.aload 6) else none) else (bif Nat.beq pc 72 then some (.iconst 2) else none))))) else (bif Nat.blt pc 82 then (bif Nat.blt pc 78 then (bif Nat.blt pc 75 then (bif Nat.beq pc 73 then some (.aload 5) else none) else (bif Nat.beq pc 75 then some (.invokevirtual 172) else none)) else (bif Nat.blt pc 81 then (bif Nat.beq pc 78 then some (.ifCond .eq 7) else none) else (bif Nat.beq pc 81 then some (.lconst 0) else none))) else (bif Nat.blt pc 86 then (bif Nat.blt pc 85 then (bif Nat.beq pc 82 then some (.goto 4) else none) else (bif Nat.beq pc 85 then some (.lconst 1) else none)) else (bif Nat.blt pc 87 then (bif Nat.beq pc 86 then some (.lastore) else none) else (bif Nat.blt pc 89 then (bif Nat.beq pc 87 then some (.aload 5) else none) else (bif Nat.beq pc 89 then some (.invokevirtual 172) else none)))))) else (bif Nat.blt pc 110 then (bif Nat.blt pc 99 then (bif Nat.blt pc 97 then (bif Nat.blt pc 95 then (bif Nat.beq pc 92 then some (.ifCond .eq 51) else none) else (bif Nat.beq pc 95 then some (.aload 6) else none)) else (bif Nat.blt pc 98 then (bif Nat.beq pc 97 then some (.iconst 3) else none) else (bif Nat.beq pc 98 then some (.aload_n 0) else none))) else (bif Nat.blt pc 103 then (bif Nat.blt pc 102 then (bif Nat.beq pc 99 then some (.getfield 18) else none) else (bif Nat.beq pc 102 then some (.iload_n 1) else none)) else (bif Nat.blt pc 104 then (bif Nat.beq pc 103 then some (.aaload) else none) else (bif Nat.blt pc 107 then (bif Nat.beq pc 104 then some (.getfield 138) else none) else (bif Nat.beq pc 107 then some (.getfield 123) else none))))) else (bif Nat.blt pc 117 then (bif Nat.blt pc 112 then (bif Nat.blt pc 111 then (bif Nat.beq pc 110 then some (.i2l) else none) else (bif Nat.beq pc 111 then some (.lastore) else none)) else (bif Nat.blt pc 114 then (bif Nat.beq pc 112 then some (.aload 6) else none) else (bif Nat.blt pc 115 then (bif Nat.beq pc 114 then some (.iconst 4) else none) else (bif Nat.beq pc 115 then some (.aload 5) else none)))) else (bif Nat.blt pc 121 then (bif Nat.blt pc 120 then (bif Nat.beq pc 117 then some (.getfield 126) else none) else (bif Nat.beq pc 120 then some (.i2l) else none)) else (bif Nat.blt pc 122 then (bif Nat.beq pc 121 then some (.lastore) else none) else (bif Nat.blt pc 124 then (bif Nat.beq pc 122 then some (.aload 6) else none) else (bif Nat.beq pc 124 then some (.iconst 5) else none)))))))) else (bif Nat.blt pc 195 then (bif Nat.blt pc 159 then (bif Nat.blt pc 142 then (bif Nat.blt pc 132 then (bif Nat.blt pc 130 then (bif Nat.blt pc 127 then (bif Nat.beq pc 125 then some (.aload 5) else none) else (bif Nat.beq pc 127 then some (.getfield 132) else none)) else (bif Nat.blt pc 131 then (bif Nat.beq pc 130 then some (.i2l) else none) else (bif Nat.beq pc 131 then some (.lastore) else none))) else (bif Nat.blt pc 136 then (bif Nat.blt pc 134 then (bif Nat.beq pc 132 then some (.aload 6) else none) else (bif Nat.beq pc 134 then some (.bipush 6) else none)) else (bif Nat.blt pc 138 then (bif Nat.beq pc 136 then some (.aload 5) else none) else (bif Nat.blt pc 141 then (bif Nat.beq pc 138 then some (.getfield 135) else none) else (bif Nat.beq pc 141 then some (.i2l) else none))))) else (bif Nat.blt pc 149 then (bif Nat.blt pc 145 then (bif Nat.blt pc 143 then (bif Nat.beq pc 142 then some (.lastore) else none) else (bif Nat.beq pc 143 then some (.aload 6) else none)) else (bif Nat.blt pc 147 then (bif Nat.beq pc 145 then some (.bipush 7) else none) else (bif Nat.beq pc 147 then some (.aload 5) else none))) else (bif Nat.blt pc 155 then (bif Nat.blt pc 152 then (bif Nat.beq pc 149 then some (.getfield 144) else none) else (bif Nat.beq pc 152 then some (.getfield 123) else none)) else (bif Nat.blt pc 156 then (bif Nat.beq pc 155 then some (.i2l) else none) else (bif Nat.blt pc 157 then (bif Nat.beq pc 156 then some (.lastore) else none) else (bif Nat.beq pc 157 then some (.aload 6) else none)))))) else (bif Nat.blt pc 177 then (bif Nat.blt pc 167 then (bif Nat.blt pc 163 then (bif Nat.blt pc 161 then (bif Nat.beq pc 159 then some (.bipush 8) else none) else (bif Nat.beq pc 161 then some (.aload 5) else none)) else (bif Nat.blt pc 166 then (bif Nat.beq pc 163 then some (.getfield 176) else none) else (bif Nat.beq pc 166 then some (.i2l) else none))) else (bif Nat.blt pc 170 then (bif Nat.blt pc 168 then (bif Nat.beq pc 167 then some (.lastore) else none) else (bif Nat.beq pc 168 then some (.aload 6) else none)) else (bif Nat.blt pc 172 then (bif Nat.beq pc 170 then some (.bipush 9) else none) else (bif Nat.blt pc 174 then (bif Nat.beq pc 172 then some (.aload 5) else none) else (bif Nat.beq pc 174 then some (.getfield 179) else none))))) else (bif Nat.blt pc 183 then (bif Nat.blt pc 179 then (bif Nat.blt pc 178 then (bif Nat.beq pc 177 then some (.i2l) else none) else (bif Nat.beq pc 178 then some (.lastore) else none)) else (bif Nat.blt pc 180 then (bif Nat.beq pc 179 then some (.aload_n 0) else none) else (bif Nat.beq pc 180 then some (.getfield 10) else none))) else (bif Nat.blt pc 187 then (bif Nat.blt pc 184 then (bif Nat.beq pc 183 then some (.aload_n 0) else none) else (bif Nat.beq pc 184 then some (.getfield 55) else none)) else (bif Nat.blt pc 189 then (bif Nat.beq pc 187 then some (.aload 5) else none) else (bif Nat.blt pc 192 then (bif Nat.beq pc 189 then some (.getfield 150) else none) else (bif Nat.beq pc 192 then some (.invokevirtual 182) else none))))))) else (bif Nat.blt pc 225 then (bif Nat.blt pc 211 then (bif Nat.blt pc 201 then (bif Nat.blt pc 199 then (bif Nat.blt pc 197 then (bif Nat.beq pc 195 then some (.aload 6) else none) else (bif Nat.beq pc 197 then some (.bipush 10) else none)) else (bif Nat.blt pc 200 then (bif Nat.beq pc 199 then some (.lload_n 3) else none) else (bif Nat.beq pc 200 then some (.aload_n 0) else none))) else (bif Nat.blt pc 205 then (bif Nat.blt pc 204 then (bif Nat.beq pc 201 then some (.getfield 10) else none) else (bif Nat.beq pc 204 then some (.aload_n 0) else none)) else (bif Nat.blt pc 208 then (bif Nat.beq pc 205 then some (.getfield 55) else none) else (bif Nat.blt pc 210 then (bif Nat.beq pc 208 then some (.bipush 9) else none) else (bif Nat.beq pc 210 then some (.iconst 0) else none))))) else (bif Nat.blt pc 217 then (bif Nat.blt pc 213 then (bif Nat.blt pc 212 then (bif Nat.beq pc 211 then some (.iconst 0) else none) else (bif Nat.beq pc 212 then some (.iconst 0) else none)) else (bif Nat.blt pc 216 then (bif Nat.beq pc 213 then some (.invokevirtual 186) else none) else (bif Nat.beq pc 216 then some (.lxor) else none))) else (bif Nat.blt pc 220 then (bif Nat.blt pc 218 then (bif Nat.beq pc 217 then some (.lastore) else none) else (bif Nat.beq pc 218 then some (.aload 6) else none)) else (bif Nat.blt pc 222 then (bif Nat.beq pc 220 then some (.bipush 11) else none) else (bif Nat.blt pc 223 then (bif Nat.beq pc 222 then some (.aload_n 0) else none) else (bif Nat.beq pc 223 then some (.aload 6) else none)))))) else (bif Nat.blt pc 241 then (bif Nat.blt pc 232 then (bif Nat.blt pc 229 then (bif Nat.blt pc 228 then (bif Nat.beq pc 225 then some (.invokevirtual 190) else none) else (bif Nat.beq pc 228 then some (.lastore) else none)) else (bif Nat.blt pc 231 then (bif Nat.beq pc 229 then some (.aload 5) else none) else (bif Nat.beq pc 231 then some (.dup) else none))) else (bif Nat.blt pc 236 then (bif Nat.blt pc 235 then (bif Nat.beq pc 232 then some (.getfield 176) else none) else (bif Nat.beq pc 235 then some (.iconst 1) else none)) else (bif Nat.blt pc 237 then (bif Nat.beq pc 236 then some (.iadd) else none) else (bif Nat.blt pc 240 then (bif Nat.beq pc 237 then some (.putfield 176) else none) else (bif Nat.beq pc 240 then some (.aload_n 0) else none))))) else (bif Nat.blt pc 250 then (bif Nat.blt pc 245 then (bif Nat.blt pc 242 then (bif Nat.beq pc 241 then some (.dup) else none) else (bif Nat.beq pc 242 then some (.getfield 33) else none)) else (bif Nat.blt pc 246 then (bif Nat.beq pc 245 then some (.iconst 1) else none) else (bif Nat.blt pc 247 then (bif Nat.beq pc 246 then some (.iadd) else none) else (bif Nat.beq pc 247 then some (.putfield 33) else none)))) else (bif Nat.blt pc 254 then (bif Nat.blt pc 251 then (bif Nat.beq pc 250 then some (.aload_n 0) else none) else (bif Nat.beq pc 251 then some (.getfield 33) else none)) else (bif Nat.blt pc 255 then (bif Nat.beq pc 254 then some (.iconst 1) else none) else (bif Nat.blt pc 256 then (bif Nat.beq pc 255 then some (.isub) else none) else (bif Nat.beq pc 256 then some (.ireturn) else none))))))))
def q_x48 : Nat → Option Instr := q_g 257 q_t48
def q_y48 : MethodName := ⟨"RatchetPost", "send", "(IIJ)I"⟩
def q_m48 : q_MI := (q_y48, prog_1_method_7_code, 7, (some .int), 7, 1, false, q_x48)
def q_t49 (pc : Nat) : Option Instr := bif Nat.blt pc 15 then (bif Nat.blt pc 6 then (bif Nat.blt pc 2 then (bif Nat.blt pc 1 then (bif Nat.beq pc 0 then some (.aload_n 0) else none) else (bif Nat.beq pc 1 then some (.iload_n 1) else none)) else (bif Nat.blt pc 3 then (bif Nat.beq pc 2 then some (.iload_n 2) else none) else (bif Nat.beq pc 3 then some (.invokevirtual 194) else none))) else (bif Nat.blt pc 10 then (bif Nat.blt pc 9 then (bif Nat.beq pc 6 then some (.ifCond .ne 5) else none) else (bif Nat.beq pc 9 then some (.iconst 0) else none)) else (bif Nat.blt pc 11 then (bif Nat.beq pc 10 then some (.ireturn) else none) else (bif Nat.blt pc 12 then (bif Nat.beq pc 11 then some (.aload_n 0) else none) else (bif Nat.beq pc 12 then some (.getfield 30) else none))))) else (bif Nat.blt pc 20 then (bif Nat.blt pc 17 then (bif Nat.blt pc 16 then (bif Nat.beq pc 15 then some (.iload_n 1) else none) else (bif Nat.beq pc 16 then some (.aaload) else none)) else (bif Nat.blt pc 18 then (bif Nat.beq pc 17 then some (.iload_n 2) else none) else (bif Nat.blt pc 19 then (bif Nat.beq pc 18 then some (.dup2) else none) else (bif Nat.beq pc 19 then some (.laload) else none)))) else (bif Nat.blt pc 22 then (bif Nat.blt pc 21 then (bif Nat.beq pc 20 then some (.lload_n 3) else none) else (bif Nat.beq pc 21 then some (.lxor) else none)) else (bif Nat.blt pc 23 then (bif Nat.beq pc 22 then some (.lastore) else none) else (bif Nat.blt pc 24 then (bif Nat.beq pc 23 then some (.iconst 1) else none) else (bif Nat.beq pc 24 then some (.ireturn) else none)))))
def q_x49 : Nat → Option Instr := q_g 25 q_t49
def q_y49 : MethodName := ⟨"RatchetPost", "alter", "(IIJ)Z"⟩
def q_m49 : q_MI := (q_y49, prog_1_method_8_code, 5, (some .boolean), 7, 2, false, q_x49)
def q_t50 (pc : Nat) : Option Instr := bif Nat.blt pc 30 then (bif Nat.blt pc 17 then (bif Nat.blt pc 8 then (bif Nat.blt pc 2 then (bif Nat.blt pc 1 then (bif Nat.beq pc 0 then some (.aload_n 0) else none) else (bif Nat.beq pc 1 then some (.iload_n 1) else none)) else (bif Nat.blt pc 5 then (bif Nat.beq pc 2 then some (.invokevirtual 198) else none) else (bif Nat.beq pc 5 then some (.ifCond .eq 12) else none))) else (bif Nat.blt pc 12 then (bif Nat.blt pc 9 then (bif Nat.beq pc 8 then some (.aload_n 0) else none) else (bif Nat.beq pc 9 then some (.getfield 33) else none)) else (bif Nat.blt pc 14 then (bif Nat.beq pc 12 then some (.bipush 60) else none) else (bif Nat.beq pc 14 then some (.if_icmp .lt 5) else none)))) else (bif Nat.blt pc 23 then (bif Nat.blt pc 19 then (bif Nat.blt pc 18 then (bif Nat.beq pc 17 then some (.iconst (-1)) else none) else (bif Nat.beq pc 18 then some (.ireturn) else none)) else (bif Nat.blt pc 20 then (bif Nat.beq pc 19 then some (.aload_n 0) else none) else (bif Nat.beq pc 20 then some (.getfield 30) else none))) else (bif Nat.blt pc 25 then (bif Nat.blt pc 24 then (bif Nat.beq pc 23 then some (.iload_n 1) else none) else (bif Nat.beq pc 24 then some (.aaload) else none)) else (bif Nat.blt pc 26 then (bif Nat.beq pc 25 then some (.iconst 0) else none) else (bif Nat.blt pc 27 then (bif Nat.beq pc 26 then some (.aload_n 0) else none) else (bif Nat.beq pc 27 then some (.getfield 30) else none)))))) else (bif Nat.blt pc 43 then (bif Nat.blt pc 36 then (bif Nat.blt pc 34 then (bif Nat.blt pc 31 then (bif Nat.beq pc 30 then some (.aload_n 0) else none) else (bif Nat.beq pc 31 then some (.getfield 33) else none)) else (bif Nat.blt pc 35 then (bif Nat.beq pc 34 then some (.aaload) else none) else (bif Nat.beq pc 35 then some (.iconst 0) else none))) else (bif Nat.blt pc 41 then (bif Nat.blt pc 38 then (bif Nat.beq pc 36 then some (.bipush 12) else none) else (bif Nat.beq pc 38 then some (.invokestatic 202) else none)) else (bif Nat.blt pc 42 then (bif Nat.beq pc 41 then some (.aload_n 0) else none) else (bif Nat.beq pc 42 then some (.dup) else none)))) else (bif Nat.blt pc 51 then (bif Nat.blt pc 47 then (bif Nat.blt pc 46 then (bif Nat.beq pc 43 then some (.getfield 33) else none) else (bif Nat.beq pc 46 then some (.iconst 1) else none)) else (bif Nat.blt pc 48 then (bif Nat.beq pc 47 then some (.iadd) else none) else (bif Nat.beq pc 48 then some (.putfield 33) else none))) else (bif Nat.blt pc 55 then (bif Nat.blt pc 52 then (bif Nat.beq pc 51 then some (.aload_n 0) else none) else (bif Nat.beq pc 52 then some (.getfield 33) else none)) else (bif Nat.blt pc 56 then (bif Nat.beq pc 55 then some (.iconst 1) else none) else (bif Nat.blt pc 57 then (bif Nat.beq pc 56 then some (.isub) else none) else (bif Nat.beq pc 57 then some (.ireturn) else none))))))
def q_x50 : Nat → Option Instr := q_g 58 q_t50
def q_y50 : MethodName := ⟨"RatchetPost", "copy", "(I)I"⟩
def q_m50 : q_MI := (q_y50, prog_1_method_9_code, 2, (some .int), 7, 1, false, q_x50)
def q_t51 (pc : Nat) : Option Instr := bif Nat.blt pc 42 then (bif Nat.blt pc 25 then (bif Nat.blt pc 11 then (bif Nat.blt pc 5 then (bif Nat.blt pc 1 then (bif Nat.beq pc 0 then some (.aload_n 0) else none) else (bif Nat.blt pc 2 then (bif Nat.beq pc 1 then some (.iload_n 1) else none) else (bif Nat.beq pc 2 then some (.invokevirtual 198) else none))) else (bif Nat.blt pc 9 then (bif Nat.blt pc 8 then (bif Nat.beq pc 5 then some (.ifCond .ne 5) else none) else (bif Nat.beq pc 8 then some (.iconst (-1)) else none)) else (bif Nat.blt pc 10 then (bif Nat.beq pc 9 then some (.ireturn) else none) else (bif Nat.beq pc 10 then some (.aload_n 0) else none)))) else (bif Nat.blt pc 17 then (bif Nat.blt pc 15 then (bif Nat.blt pc 14 then (bif Nat.beq pc 11 then some (.getfield 30) else none) else (bif Nat.beq pc 14 then some (.iload_n 1) else none)) else (bif Nat.blt pc 16 then (bif Nat.beq pc 15 then some (.aaload) else none) else (bif Nat.beq pc 16 then some (.astore_n 2) else none))) else (bif Nat.blt pc 19 then (bif Nat.blt pc 18 then (bif Nat.beq pc 17 then some (.aload_n 0) else none) else (bif Nat.beq pc 18 then some (.aload_n 2) else none)) else (bif Nat.blt pc 22 then (bif Nat.beq pc 19 then some (.invokevirtual 208) else none) else (bif Nat.beq pc 22 then some (.ifCond .eq 5) else none))))) else (bif Nat.blt pc 32 then (bif Nat.blt pc 28 then (bif Nat.blt pc 26 then (bif Nat.beq pc 25 then some (.iconst 4) else none) else (bif Nat.blt pc 27 then (bif Nat.beq pc 26 then some (.ireturn) else none) else (bif Nat.beq pc 27 then some (.aload_n 0) else none))) else (bif Nat.blt pc 30 then (bif Nat.blt pc 29 then (bif Nat.beq pc 28 then some (.aload_n 2) else none) else (bif Nat.beq pc 29 then some (.iconst 1) else none)) else (bif Nat.blt pc 31 then (bif Nat.beq pc 30 then some (.laload) else none) else (bif Nat.beq pc 31 then some (.l2i) else none)))) else (bif Nat.blt pc 36 then (bif Nat.blt pc 34 then (bif Nat.blt pc 33 then (bif Nat.beq pc 32 then some (.aload_n 2) else none) else (bif Nat.beq pc 33 then some (.iconst 0) else none)) else (bif Nat.blt pc 35 then (bif Nat.beq pc 34 then some (.laload) else none) else (bif Nat.beq pc 35 then some (.l2i) else none))) else (bif Nat.blt pc 40 then (bif Nat.blt pc 39 then (bif Nat.beq pc 36 then some (.invokevirtual 157) else none) else (bif Nat.beq pc 39 then some (.astore_n 3) else none)) else (bif Nat.blt pc 41 then (bif Nat.beq pc 40 then some (.aload_n 2) else none) else (bif Nat.beq pc 41 then some (.iconst 2) else none)))))) else (bif Nat.blt pc 63 then (bif Nat.blt pc 51 then (bif Nat.blt pc 45 then (bif Nat.blt pc 43 then (bif Nat.beq pc 42 then some (.laload) else none) else (bif Nat.blt pc 44 then (bif Nat.beq pc 43 then some (.lconst 1) else none) else (bif Nat.beq pc 44 then some (.lcmp) else none))) else (bif Nat.blt pc 49 then (bif Nat.blt pc 48 then (bif Nat.beq pc 45 then some (.ifCond .ne 10) else none) else (bif Nat.beq pc 48 then some (.aload_n 0) else none)) else (bif Nat.blt pc 50 then (bif Nat.beq pc 49 then some (.aload_n 2) else none) else (bif Nat.beq pc 50 then some (.aload_n 3) else none)))) else (bif Nat.blt pc 57 then (bif Nat.blt pc 55 then (bif Nat.blt pc 54 then (bif Nat.beq pc 51 then some (.invokevirtual 212) else none) else (bif Nat.beq pc 54 then some (.ireturn) else none)) else (bif Nat.blt pc 56 then (bif Nat.beq pc 55 then some (.aload_n 3) else none) else (bif Nat.beq pc 56 then some (.aload_n 2) else none))) else (bif Nat.blt pc 59 then (bif Nat.blt pc 58 then (bif Nat.beq pc 57 then some (.iconst 4) else none) else (bif Nat.beq pc 58 then some (.laload) else none)) else (bif Nat.blt pc 60 then (bif Nat.beq pc 59 then some (.l2i) else none) else (bif Nat.beq pc 60 then some (.invokevirtual 216) else none))))) else (bif Nat.blt pc 74 then (bif Nat.blt pc 68 then (bif Nat.blt pc 65 then (bif Nat.beq pc 63 then some (.istore 4) else none) else (bif Nat.blt pc 67 then (bif Nat.beq pc 65 then some (.iload 4) else none) else (bif Nat.beq pc 67 then some (.iconst (-1)) else none))) else (bif Nat.blt pc 72 then (bif Nat.blt pc 71 then (bif Nat.beq pc 68 then some (.if_icmp .ne 12) else none) else (bif Nat.beq pc 71 then some (.aload_n 0) else none)) else (bif Nat.blt pc 73 then (bif Nat.beq pc 72 then some (.aload_n 2) else none) else (bif Nat.beq pc 73 then some (.aload_n 3) else none)))) else (bif Nat.blt pc 82 then (bif Nat.blt pc 80 then (bif Nat.blt pc 77 then (bif Nat.beq pc 74 then some (.invokevirtual 220) else none) else (bif Nat.beq pc 77 then some (.goto 11) else none)) else (bif Nat.blt pc 81 then (bif Nat.beq pc 80 then some (.aload_n 0) else none) else (bif Nat.beq pc 81 then some (.aload_n 2) else none))) else (bif Nat.blt pc 85 then (bif Nat.blt pc 83 then (bif Nat.beq pc 82 then some (.aload_n 3) else none) else (bif Nat.beq pc 83 then some (.iload 4) else none)) else (bif Nat.blt pc 88 then (bif Nat.beq pc 85 then some (.invokevirtual 223) else none) else (bif Nat.beq pc 88 then some (.ireturn) else none))))))
def q_x51 : Nat → Option Instr := q_g 89 q_t51
def q_y51 : MethodName := ⟨"RatchetPost", "open", "(I)I"⟩
def q_m51 : q_MI := (q_y51, prog_1_method_10_code, 5, (some .int), 7, 1, false, q_x51)
def q_t52 (pc : Nat) : Option Instr := bif Nat.blt pc 1 then (bif Nat.beq pc 0 then some (.aload_n 0) else none) else (bif Nat.blt pc 4 then (bif Nat.beq pc 1 then some (.getfield 37) else none) else (bif Nat.beq pc 4 then some (.lreturn) else none))
def q_x52 : Nat → Option Instr := q_g 5 q_t52
def q_y52 : MethodName := ⟨"RatchetPost", "text", "()J"⟩
def q_m52 : q_MI := (q_y52, prog_1_method_11_code, 1, (some .long), 7, 3, false, q_x52)
def q_t53 (pc : Nat) : Option Instr := bif Nat.blt pc 13 then (bif Nat.blt pc 3 then (bif Nat.blt pc 1 then (bif Nat.beq pc 0 then some (.aload_n 0) else none) else (bif Nat.blt pc 2 then (bif Nat.beq pc 1 then some (.iload_n 1) else none) else (bif Nat.beq pc 2 then some (.iload_n 2) else none))) else (bif Nat.blt pc 9 then (bif Nat.blt pc 6 then (bif Nat.beq pc 3 then some (.invokevirtual 194) else none) else (bif Nat.beq pc 6 then some (.ifCond .eq 14) else none)) else (bif Nat.blt pc 10 then (bif Nat.beq pc 9 then some (.aload_n 0) else none) else (bif Nat.beq pc 10 then some (.getfield 30) else none)))) else (bif Nat.blt pc 16 then (bif Nat.blt pc 14 then (bif Nat.beq pc 13 then some (.iload_n 1) else none) else (bif Nat.blt pc 15 then (bif Nat.beq pc 14 then some (.aaload) else none) else (bif Nat.beq pc 15 then some (.iload_n 2) else none))) else (bif Nat.blt pc 20 then (bif Nat.blt pc 17 then (bif Nat.beq pc 16 then some (.laload) else none) else (bif Nat.beq pc 17 then some (.goto 6) else none)) else (bif Nat.blt pc 23 then (bif Nat.beq pc 20 then some (.ldc2_w 227) else none) else (bif Nat.beq pc 23 then some (.lreturn) else none))))
def q_x53 : Nat → Option Instr := q_g 24 q_t53
def q_y53 : MethodName := ⟨"RatchetPost", "envelope", "(II)J"⟩
def q_m53 : q_MI := (q_y53, prog_1_method_12_code, 3, (some .long), 7, 3, false, q_x53)
def q_t54 (pc : Nat) : Option Instr := bif Nat.blt pc 105 then (bif Nat.blt pc 72 then (bif Nat.blt pc 11 then (bif Nat.blt pc 3 then (bif Nat.blt pc 1 then (bif Nat.beq pc 0 then some (.aload_n 0) else none) else (bif Nat.blt pc 2 then (bif Nat.beq pc 1 then some (.iload_n 1) else none) else (bif Nat.beq pc 2 then some (.i2l) else none))) else (bif Nat.blt pc 9 then (bif Nat.blt pc 6 then (bif Nat.beq pc 3 then some (.invokevirtual 74) else none) else (bif Nat.beq pc 6 then some (.ifCond .ne 5) else none)) else (bif Nat.blt pc 10 then (bif Nat.beq pc 9 then some (.iconst (-1)) else none) else (bif Nat.beq pc 10 then some (.ireturn) else none)))) else (bif Nat.blt pc 16 then (bif Nat.blt pc 12 then (bif Nat.beq pc 11 then some (.aload_n 0) else none) else (bif Nat.blt pc 15 then (bif Nat.beq pc 12 then some (.getfield 18) else none) else (bif Nat.beq pc 15 then some (.iload_n 1) else none))) else (bif Nat.blt pc 18 then (bif Nat.blt pc 17 then (bif Nat.beq pc 16 then some (.aaload) else none) else (bif Nat.beq pc 17 then some (.astore_n 3) else none)) else (bif Nat.blt pc 19 then (bif Nat.beq pc 18 then some (.iload_n 2) else none) else (bif Nat.beq pc 19 then some (.tableswitch 138 0 9 #[53, 61, 69, 88, 93, 98, 106, 114, 122, 130]) else none))))) else (bif Nat.blt pc 87 then (bif Nat.blt pc 79 then (bif Nat.blt pc 73 then (bif Nat.beq pc 72 then some (.aload_n 3) else none) else (bif Nat.blt pc 76 then (bif Nat.beq pc 73 then some (.getfield 138) else none) else (bif Nat.beq pc 76 then some (.getfield 123) else none))) else (bif Nat.blt pc 81 then (bif Nat.blt pc 80 then (bif Nat.beq pc 79 then some (.ireturn) else none) else (bif Nat.beq pc 80 then some (.aload_n 3) else none)) else (bif Nat.blt pc 84 then (bif Nat.beq pc 81 then some (.getfield 229) else none) else (bif Nat.beq pc 84 then some (.getfield 123) else none)))) else (bif Nat.blt pc 95 then (bif Nat.blt pc 89 then (bif Nat.blt pc 88 then (bif Nat.beq pc 87 then some (.ireturn) else none) else (bif Nat.beq pc 88 then some (.aload_n 3) else none)) else (bif Nat.blt pc 92 then (bif Nat.beq pc 89 then some (.getfield 231) else none) else (bif Nat.beq pc 92 then some (.ifCond .eq 13) else none))) else (bif Nat.blt pc 99 then (bif Nat.blt pc 96 then (bif Nat.beq pc 95 then some (.aload_n 3) else none) else (bif Nat.beq pc 96 then some (.getfield 234) else none)) else (bif Nat.blt pc 102 then (bif Nat.beq pc 99 then some (.getfield 123) else none) else (bif Nat.beq pc 102 then some (.goto 4) else none)))))) else (bif Nat.blt pc 132 then (bif Nat.blt pc 116 then (bif Nat.blt pc 108 then (bif Nat.blt pc 106 then (bif Nat.beq pc 105 then some (.iconst 0) else none) else (bif Nat.blt pc 107 then (bif Nat.beq pc 106 then some (.ireturn) else none) else (bif Nat.beq pc 107 then some (.aload_n 3) else none))) else (bif Nat.blt pc 112 then (bif Nat.blt pc 111 then (bif Nat.beq pc 108 then some (.getfield 237) else none) else (bif Nat.beq pc 111 then some (.ireturn) else none)) else (bif Nat.blt pc 113 then (bif Nat.beq pc 112 then some (.aload_n 3) else none) else (bif Nat.beq pc 113 then some (.getfield 240) else none)))) else (bif Nat.blt pc 124 then (bif Nat.blt pc 118 then (bif Nat.blt pc 117 then (bif Nat.beq pc 116 then some (.ireturn) else none) else (bif Nat.beq pc 117 then some (.aload_n 3) else none)) else (bif Nat.blt pc 121 then (bif Nat.beq pc 118 then some (.getfield 86) else none) else (bif Nat.beq pc 121 then some (.getfield 243) else none))) else (bif Nat.blt pc 126 then (bif Nat.blt pc 125 then (bif Nat.beq pc 124 then some (.ireturn) else none) else (bif Nat.beq pc 125 then some (.aload_n 3) else none)) else (bif Nat.blt pc 129 then (bif Nat.beq pc 126 then some (.getfield 86) else none) else (bif Nat.beq pc 129 then some (.getfield 90) else none))))) else (bif Nat.blt pc 145 then (bif Nat.blt pc 137 then (bif Nat.blt pc 133 then (bif Nat.beq pc 132 then some (.ireturn) else none) else (bif Nat.blt pc 134 then (bif Nat.beq pc 133 then some (.aload_n 3) else none) else (bif Nat.beq pc 134 then some (.getfield 86) else none))) else (bif Nat.blt pc 141 then (bif Nat.blt pc 140 then (bif Nat.beq pc 137 then some (.getfield 95) else none) else (bif Nat.beq pc 140 then some (.ireturn) else none)) else (bif Nat.blt pc 142 then (bif Nat.beq pc 141 then some (.aload_n 3) else none) else (bif Nat.beq pc 142 then some (.getfield 86) else none)))) else (bif Nat.blt pc 153 then (bif Nat.blt pc 149 then (bif Nat.blt pc 148 then (bif Nat.beq pc 145 then some (.getfield 98) else none) else (bif Nat.beq pc 148 then some (.ireturn) else none)) else (bif Nat.blt pc 150 then (bif Nat.beq pc 149 then some (.aload_n 3) else none) else (bif Nat.beq pc 150 then some (.getfield 86) else none))) else (bif Nat.blt pc 157 then (bif Nat.blt pc 156 then (bif Nat.beq pc 153 then some (.getfield 101) else none) else (bif Nat.beq pc 156 then some (.ireturn) else none)) else (bif Nat.blt pc 158 then (bif Nat.beq pc 157 then some (.iconst (-1)) else none) else (bif Nat.beq pc 158 then some (.ireturn) else none))))))
def q_x54 : Nat → Option Instr := q_g 159 q_t54
def q_y54 : MethodName := ⟨"RatchetPost", "user", "(II)I"⟩
def q_m54 : q_MI := (q_y54, prog_1_method_13_code, 4, (some .int), 7, 1, false, q_x54)
def q_t55 (pc : Nat) : Option Instr := bif Nat.blt pc 11 then (bif Nat.blt pc 3 then (bif Nat.blt pc 1 then (bif Nat.beq pc 0 then some (.aload_n 0) else none) else (bif Nat.blt pc 2 then (bif Nat.beq pc 1 then some (.iload_n 1) else none) else (bif Nat.beq pc 2 then some (.i2l) else none))) else (bif Nat.blt pc 5 then (bif Nat.blt pc 4 then (bif Nat.beq pc 3 then some (.iload_n 2) else none) else (bif Nat.beq pc 4 then some (.i2l) else none)) else (bif Nat.blt pc 8 then (bif Nat.beq pc 5 then some (.invokevirtual 104) else none) else (bif Nat.beq pc 8 then some (.ifCond .eq 15) else none)))) else (bif Nat.blt pc 17 then (bif Nat.blt pc 13 then (bif Nat.blt pc 12 then (bif Nat.beq pc 11 then some (.aload_n 0) else none) else (bif Nat.beq pc 12 then some (.iload_n 1) else none)) else (bif Nat.blt pc 14 then (bif Nat.beq pc 13 then some (.iload_n 2) else none) else (bif Nat.beq pc 14 then some (.invokevirtual 157) else none))) else (bif Nat.blt pc 23 then (bif Nat.blt pc 20 then (bif Nat.beq pc 17 then some (.getfield 165) else none) else (bif Nat.beq pc 20 then some (.goto 4) else none)) else (bif Nat.blt pc 24 then (bif Nat.beq pc 23 then some (.iconst (-1)) else none) else (bif Nat.beq pc 24 then some (.ireturn) else none))))
def q_x55 : Nat → Option Instr := q_g 25 q_t55
def q_y55 : MethodName := ⟨"RatchetPost", "sessions", "(II)I"⟩
def q_m55 : q_MI := (q_y55, prog_1_method_14_code, 3, (some .int), 7, 1, false, q_x55)
def q_t56 (pc : Nat) : Option Instr := bif Nat.blt pc 104 then (bif Nat.blt pc 28 then (bif Nat.blt pc 12 then (bif Nat.blt pc 4 then (bif Nat.blt pc 2 then (bif Nat.blt pc 1 then (bif Nat.beq pc 0 then some (.aload_n 0) else none) else (bif Nat.beq pc 1 then some (.iload_n 1) else none)) else (bif Nat.blt pc 3 then (bif Nat.beq pc 2 then some (.i2l) else none) else (bif Nat.beq pc 3 then some (.iload_n 2) else none))) else (bif Nat.blt pc 8 then (bif Nat.blt pc 5 then (bif Nat.beq pc 4 then some (.i2l) else none) else (bif Nat.beq pc 5 then some (.invokevirtual 104) else none)) else (bif Nat.blt pc 11 then (bif Nat.beq pc 8 then some (.ifCond .eq 20) else none) else (bif Nat.beq pc 11 then some (.iload_n 3) else none)))) else (bif Nat.blt pc 18 then (bif Nat.blt pc 16 then (bif Nat.blt pc 15 then (bif Nat.beq pc 12 then some (.ifCond .lt 16) else none) else (bif Nat.beq pc 15 then some (.iload_n 3) else none)) else (bif Nat.blt pc 17 then (bif Nat.beq pc 16 then some (.aload_n 0) else none) else (bif Nat.beq pc 17 then some (.iload_n 1) else none))) else (bif Nat.blt pc 22 then (bif Nat.blt pc 19 then (bif Nat.beq pc 18 then some (.iload_n 2) else none) else (bif Nat.beq pc 19 then some (.invokevirtual 157) else none)) else (bif Nat.blt pc 25 then (bif Nat.beq pc 22 then some (.getfield 165) else none) else (bif Nat.beq pc 25 then some (.if_icmp .lt 5) else none))))) else (bif Nat.blt pc 40 then (bif Nat.blt pc 32 then (bif Nat.blt pc 30 then (bif Nat.blt pc 29 then (bif Nat.beq pc 28 then some (.iconst (-1)) else none) else (bif Nat.beq pc 29 then some (.ireturn) else none)) else (bif Nat.blt pc 31 then (bif Nat.beq pc 30 then some (.aload_n 0) else none) else (bif Nat.beq pc 31 then some (.iload_n 1) else none))) else (bif Nat.blt pc 36 then (bif Nat.blt pc 33 then (bif Nat.beq pc 32 then some (.iload_n 2) else none) else (bif Nat.beq pc 33 then some (.invokevirtual 157) else none)) else (bif Nat.blt pc 39 then (bif Nat.beq pc 36 then some (.getfield 168) else none) else (bif Nat.beq pc 39 then some (.iload_n 3) else none)))) else (bif Nat.blt pc 96 then (bif Nat.blt pc 43 then (bif Nat.blt pc 41 then (bif Nat.beq pc 40 then some (.aaload) else none) else (bif Nat.beq pc 41 then some (.astore 5) else none)) else (bif Nat.blt pc 45 then (bif Nat.beq pc 43 then some (.iload 4) else none) else (bif Nat.beq pc 45 then some (.tableswitch 121 0 8 #[51, 57, 63, 69, 75, 84, 90, 99, 113]) else none))) else (bif Nat.blt pc 101 then (bif Nat.blt pc 98 then (bif Nat.beq pc 96 then some (.aload 5) else none) else (bif Nat.beq pc 98 then some (.getfield 126) else none)) else (bif Nat.blt pc 102 then (bif Nat.beq pc 101 then some (.ireturn) else none) else (bif Nat.beq pc 102 then some (.aload 5) else none)))))) else (bif Nat.blt pc 137 then (bif Nat.blt pc 120 then (bif Nat.blt pc 113 then (bif Nat.blt pc 108 then (bif Nat.blt pc 107 then (bif Nat.beq pc 104 then some (.getfield 176) else none) else (bif Nat.beq pc 107 then some (.ireturn) else none)) else (bif Nat.blt pc 110 then (bif Nat.beq pc 108 then some (.aload 5) else none) else (bif Nat.beq pc 110 then some (.getfield 246) else none))) else (bif Nat.blt pc 116 then (bif Nat.blt pc 114 then (bif Nat.beq pc 113 then some (.ireturn) else none) else (bif Nat.beq pc 114 then some (.aload 5) else none)) else (bif Nat.blt pc 119 then (bif Nat.beq pc 116 then some (.getfield 179) else none) else (bif Nat.beq pc 119 then some (.ireturn) else none)))) else (bif Nat.blt pc 129 then (bif Nat.blt pc 125 then (bif Nat.blt pc 122 then (bif Nat.beq pc 120 then some (.aload 5) else none) else (bif Nat.beq pc 122 then some (.getfield 249) else none)) else (bif Nat.blt pc 128 then (bif Nat.beq pc 125 then some (.getfield 253) else none) else (bif Nat.beq pc 128 then some (.ireturn) else none))) else (bif Nat.blt pc 134 then (bif Nat.blt pc 131 then (bif Nat.beq pc 129 then some (.aload 5) else none) else (bif Nat.beq pc 131 then some (.getfield 147) else none)) else (bif Nat.blt pc 135 then (bif Nat.beq pc 134 then some (.ireturn) else none) else (bif Nat.beq pc 135 then some (.aload 5) else none))))) else (bif Nat.blt pc 156 then (bif Nat.blt pc 146 then (bif Nat.blt pc 143 then (bif Nat.blt pc 140 then (bif Nat.beq pc 137 then some (.getfield 144) else none) else (bif Nat.beq pc 140 then some (.getfield 123) else none)) else (bif Nat.blt pc 144 then (bif Nat.beq pc 143 then some (.ireturn) else none) else (bif Nat.beq pc 144 then some (.aload 5) else none))) else (bif Nat.blt pc 152 then (bif Nat.blt pc 149 then (bif Nat.beq pc 146 then some (.invokevirtual 172) else none) else (bif Nat.beq pc 149 then some (.ifCond .eq 7) else none)) else (bif Nat.blt pc 153 then (bif Nat.beq pc 152 then some (.iconst 1) else none) else (bif Nat.beq pc 153 then some (.goto 4) else none)))) else (bif Nat.blt pc 163 then (bif Nat.blt pc 158 then (bif Nat.blt pc 157 then (bif Nat.beq pc 156 then some (.iconst 0) else none) else (bif Nat.beq pc 157 then some (.ireturn) else none)) else (bif Nat.blt pc 160 then (bif Nat.beq pc 158 then some (.aload 5) else none) else (bif Nat.beq pc 160 then some (.getfield 256) else none))) else (bif Nat.blt pc 165 then (bif Nat.blt pc 164 then (bif Nat.beq pc 163 then some (.iconst 0) else none) else (bif Nat.beq pc 164 then some (.iaload) else none)) else (bif Nat.blt pc 166 then (bif Nat.beq pc 165 then some (.ireturn) else none) else (bif Nat.blt pc 167 then (bif Nat.beq pc 166 then some (.iconst (-1)) else none) else (bif Nat.beq pc 167 then some (.ireturn) else none)))))))
def q_x56 : Nat → Option Instr := q_g 168 q_t56
def q_y56 : MethodName := ⟨"RatchetPost", "session", "(IIII)I"⟩
def q_m56 : q_MI := (q_y56, prog_1_method_15_code, 6, (some .int), 7, 1, false, q_x56)
def q_t57 (pc : Nat) : Option Instr := bif Nat.blt pc 16 then (bif Nat.blt pc 8 then (bif Nat.blt pc 4 then (bif Nat.blt pc 1 then (bif Nat.beq pc 0 then some (.iload_n 1) else none) else (bif Nat.beq pc 1 then some (.ifCond .lt 21) else none)) else (bif Nat.blt pc 5 then (bif Nat.beq pc 4 then some (.iload_n 1) else none) else (bif Nat.beq pc 5 then some (.ldc_w 259) else none))) else (bif Nat.blt pc 12 then (bif Nat.blt pc 11 then (bif Nat.beq pc 8 then some (.if_icmp .eq 14) else none) else (bif Nat.beq pc 11 then some (.iload_n 2) else none)) else (bif Nat.blt pc 15 then (bif Nat.beq pc 12 then some (.ifCond .lt 10) else none) else (bif Nat.beq pc 15 then some (.iload_n 2) else none)))) else (bif Nat.blt pc 26 then (bif Nat.blt pc 22 then (bif Nat.blt pc 19 then (bif Nat.beq pc 16 then some (.ldc_w 259) else none) else (bif Nat.beq pc 19 then some (.if_icmp .ne 7) else none)) else (bif Nat.blt pc 23 then (bif Nat.beq pc 22 then some (.iconst (-1)) else none) else (bif Nat.beq pc 23 then some (.goto 8) else none))) else (bif Nat.blt pc 28 then (bif Nat.blt pc 27 then (bif Nat.beq pc 26 then some (.iload_n 1) else none) else (bif Nat.beq pc 27 then some (.iload_n 2) else none)) else (bif Nat.blt pc 31 then (bif Nat.beq pc 28 then some (.invokestatic 260) else none) else (bif Nat.beq pc 31 then some (.ireturn) else none))))
def q_x57 : Nat → Option Instr := q_g 32 q_t57
def q_y57 : MethodName := ⟨"RatchetPost", "power", "(II)I"⟩
def q_m57 : q_MI := (q_y57, prog_1_method_16_code, 3, (some .int), 7, 1, false, q_x57)
def q_t58 (pc : Nat) : Option Instr := bif Nat.blt pc 31 then (bif Nat.blt pc 15 then (bif Nat.blt pc 6 then (bif Nat.blt pc 4 then (bif Nat.blt pc 1 then (bif Nat.beq pc 0 then some (.aload_n 0) else none) else (bif Nat.beq pc 1 then some (.getfield 59) else none)) else (bif Nat.blt pc 5 then (bif Nat.beq pc 4 then some (.iconst 0) else none) else (bif Nat.beq pc 5 then some (.lload_n 1) else none))) else (bif Nat.blt pc 10 then (bif Nat.blt pc 9 then (bif Nat.beq pc 6 then some (.invokestatic 264) else none) else (bif Nat.beq pc 9 then some (.iastore) else none)) else (bif Nat.blt pc 11 then (bif Nat.beq pc 10 then some (.aload_n 0) else none) else (bif Nat.blt pc 14 then (bif Nat.beq pc 11 then some (.getfield 59) else none) else (bif Nat.beq pc 14 then some (.iconst 1) else none))))) else (bif Nat.blt pc 21 then (bif Nat.blt pc 19 then (bif Nat.blt pc 16 then (bif Nat.beq pc 15 then some (.lload_n 1) else none) else (bif Nat.beq pc 16 then some (.invokestatic 268) else none)) else (bif Nat.blt pc 20 then (bif Nat.beq pc 19 then some (.iastore) else none) else (bif Nat.beq pc 20 then some (.iconst 2) else none))) else (bif Nat.blt pc 25 then (bif Nat.blt pc 23 then (bif Nat.beq pc 21 then some (.istore 5) else none) else (bif Nat.beq pc 23 then some (.iload 5) else none)) else (bif Nat.blt pc 27 then (bif Nat.beq pc 25 then some (.bipush 8) else none) else (bif Nat.blt pc 30 then (bif Nat.beq pc 27 then some (.if_icmp .ge 20) else none) else (bif Nat.beq pc 30 then some (.aload_n 0) else none)))))) else (bif Nat.blt pc 48 then (bif Nat.blt pc 39 then (bif Nat.blt pc 36 then (bif Nat.blt pc 34 then (bif Nat.beq pc 31 then some (.getfield 59) else none) else (bif Nat.beq pc 34 then some (.iload 5) else none)) else (bif Nat.blt pc 38 then (bif Nat.beq pc 36 then some (.iload 5) else none) else (bif Nat.beq pc 38 then some (.iconst 1) else none))) else (bif Nat.blt pc 41 then (bif Nat.blt pc 40 then (bif Nat.beq pc 39 then some (.isub) else none) else (bif Nat.beq pc 40 then some (.iastore) else none)) else (bif Nat.blt pc 44 then (bif Nat.beq pc 41 then some (.iinc 5 1) else none) else (bif Nat.blt pc 47 then (bif Nat.beq pc 44 then some (.goto (-21)) else none) else (bif Nat.beq pc 47 then some (.aload_n 0) else none))))) else (bif Nat.blt pc 56 then (bif Nat.blt pc 52 then (bif Nat.blt pc 51 then (bif Nat.beq pc 48 then some (.getfield 10) else none) else (bif Nat.beq pc 51 then some (.aload_n 0) else none)) else (bif Nat.blt pc 55 then (bif Nat.beq pc 52 then some (.getfield 59) else none) else (bif Nat.beq pc 55 then some (.iload_n 3) else none))) else (bif Nat.blt pc 59 then (bif Nat.blt pc 58 then (bif Nat.beq pc 56 then some (.iload 4) else none) else (bif Nat.beq pc 58 then some (.iconst 0) else none)) else (bif Nat.blt pc 60 then (bif Nat.beq pc 59 then some (.iconst 0) else none) else (bif Nat.blt pc 63 then (bif Nat.beq pc 60 then some (.invokevirtual 186) else none) else (bif Nat.beq pc 63 then some (.lreturn) else none))))))
def q_x58 : Nat → Option Instr := q_g 64 q_t58
def q_y58 : MethodName := ⟨"RatchetPost", "mix", "(JII)J"⟩
def q_m58 : q_MI := (q_y58, prog_1_method_17_code, 6, (some .long), 7, 3, false, q_x58)
def q_t59 (pc : Nat) : Option Instr := bif Nat.blt pc 15 then (bif Nat.blt pc 6 then (bif Nat.blt pc 2 then (bif Nat.blt pc 1 then (bif Nat.beq pc 0 then some (.lload_n 1) else none) else (bif Nat.beq pc 1 then some (.lconst 0) else none)) else (bif Nat.blt pc 3 then (bif Nat.beq pc 2 then some (.lcmp) else none) else (bif Nat.beq pc 3 then some (.ifCond .lt 28) else none))) else (bif Nat.blt pc 10 then (bif Nat.blt pc 7 then (bif Nat.beq pc 6 then some (.lload_n 1) else none) else (bif Nat.beq pc 7 then some (.ldc2_w 271) else none)) else (bif Nat.blt pc 11 then (bif Nat.beq pc 10 then some (.lcmp) else none) else (bif Nat.blt pc 14 then (bif Nat.beq pc 11 then some (.ifCond .ge 20) else none) else (bif Nat.beq pc 14 then some (.aload_n 0) else none))))) else (bif Nat.blt pc 24 then (bif Nat.blt pc 19 then (bif Nat.blt pc 18 then (bif Nat.beq pc 15 then some (.getfield 18) else none) else (bif Nat.beq pc 18 then some (.lload_n 1) else none)) else (bif Nat.blt pc 20 then (bif Nat.beq pc 19 then some (.l2i) else none) else (bif Nat.blt pc 21 then (bif Nat.beq pc 20 then some (.aaload) else none) else (bif Nat.beq pc 21 then some (.getfield 66) else none)))) else (bif Nat.blt pc 28 then (bif Nat.blt pc 27 then (bif Nat.beq pc 24 then some (.ifCond .eq 7) else none) else (bif Nat.beq pc 27 then some (.iconst 1) else none)) else (bif Nat.blt pc 31 then (bif Nat.beq pc 28 then some (.goto 4) else none) else (bif Nat.blt pc 32 then (bif Nat.beq pc 31 then some (.iconst 0) else none) else (bif Nat.beq pc 32 then some (.ireturn) else none)))))
def q_x59 : Nat → Option Instr := q_g 33 q_t59
def q_y59 : MethodName := ⟨"RatchetPost", "isRegistered", "(J)Z"⟩
def q_m59 : q_MI := (q_y59, prog_1_method_18_code, 3, (some .boolean), 7, 2, false, q_x59)
def q_t60 (pc : Nat) : Option Instr := bif Nat.blt pc 16 then (bif Nat.blt pc 8 then (bif Nat.blt pc 2 then (bif Nat.blt pc 1 then (bif Nat.beq pc 0 then some (.aload_n 0) else none) else (bif Nat.beq pc 1 then some (.lload_n 1) else none)) else (bif Nat.blt pc 5 then (bif Nat.beq pc 2 then some (.invokevirtual 74) else none) else (bif Nat.beq pc 5 then some (.ifCond .eq 21) else none))) else (bif Nat.blt pc 10 then (bif Nat.blt pc 9 then (bif Nat.beq pc 8 then some (.aload_n 0) else none) else (bif Nat.beq pc 9 then some (.lload_n 3) else none)) else (bif Nat.blt pc 13 then (bif Nat.beq pc 10 then some (.invokevirtual 74) else none) else (bif Nat.beq pc 13 then some (.ifCond .eq 13) else none)))) else (bif Nat.blt pc 22 then (bif Nat.blt pc 18 then (bif Nat.blt pc 17 then (bif Nat.beq pc 16 then some (.lload_n 1) else none) else (bif Nat.beq pc 17 then some (.lload_n 3) else none)) else (bif Nat.blt pc 19 then (bif Nat.beq pc 18 then some (.lcmp) else none) else (bif Nat.beq pc 19 then some (.ifCond .eq 7) else none))) else (bif Nat.blt pc 26 then (bif Nat.blt pc 23 then (bif Nat.beq pc 22 then some (.iconst 1) else none) else (bif Nat.beq pc 23 then some (.goto 4) else none)) else (bif Nat.blt pc 27 then (bif Nat.beq pc 26 then some (.iconst 0) else none) else (bif Nat.beq pc 27 then some (.ireturn) else none))))
def q_x60 : Nat → Option Instr := q_g 28 q_t60
def q_y60 : MethodName := ⟨"RatchetPost", "areTwoRegistered", "(JJ)Z"⟩
def q_m60 : q_MI := (q_y60, prog_1_method_19_code, 5, (some .boolean), 7, 2, false, q_x60)
def q_t61 (pc : Nat) : Option Instr := bif Nat.blt pc 9 then (bif Nat.blt pc 4 then (bif Nat.blt pc 1 then (bif Nat.beq pc 0 then some (.iload_n 1) else none) else (bif Nat.beq pc 1 then some (.ifCond .lt 15) else none)) else (bif Nat.blt pc 5 then (bif Nat.beq pc 4 then some (.iload_n 1) else none) else (bif Nat.blt pc 6 then (bif Nat.beq pc 5 then some (.aload_n 0) else none) else (bif Nat.beq pc 6 then some (.getfield 33) else none)))) else (bif Nat.blt pc 13 then (bif Nat.blt pc 12 then (bif Nat.beq pc 9 then some (.if_icmp .ge 7) else none) else (bif Nat.beq pc 12 then some (.iconst 1) else none)) else (bif Nat.blt pc 16 then (bif Nat.beq pc 13 then some (.goto 4) else none) else (bif Nat.blt pc 17 then (bif Nat.beq pc 16 then some (.iconst 0) else none) else (bif Nat.beq pc 17 then some (.ireturn) else none))))
def q_x61 : Nat → Option Instr := q_g 18 q_t61
def q_y61 : MethodName := ⟨"RatchetPost", "isEnvelope", "(I)Z"⟩
def q_m61 : q_MI := (q_y61, prog_1_method_20_code, 2, (some .boolean), 7, 2, false, q_x61)
def q_t62 (pc : Nat) : Option Instr := bif Nat.blt pc 12 then (bif Nat.blt pc 5 then (bif Nat.blt pc 1 then (bif Nat.beq pc 0 then some (.aload_n 0) else none) else (bif Nat.blt pc 2 then (bif Nat.beq pc 1 then some (.iload_n 1) else none) else (bif Nat.beq pc 2 then some (.invokevirtual 198) else none))) else (bif Nat.blt pc 8 then (bif Nat.beq pc 5 then some (.ifCond .eq 17) else none) else (bif Nat.blt pc 9 then (bif Nat.beq pc 8 then some (.iload_n 2) else none) else (bif Nat.beq pc 9 then some (.ifCond .lt 13) else none)))) else (bif Nat.blt pc 18 then (bif Nat.blt pc 13 then (bif Nat.beq pc 12 then some (.iload_n 2) else none) else (bif Nat.blt pc 15 then (bif Nat.beq pc 13 then some (.bipush 12) else none) else (bif Nat.beq pc 15 then some (.if_icmp .ge 7) else none))) else (bif Nat.blt pc 22 then (bif Nat.blt pc 19 then (bif Nat.beq pc 18 then some (.iconst 1) else none) else (bif Nat.beq pc 19 then some (.goto 4) else none)) else (bif Nat.blt pc 23 then (bif Nat.beq pc 22 then some (.iconst 0) else none) else (bif Nat.beq pc 23 then some (.ireturn) else none))))
def q_x62 : Nat → Option Instr := q_g 24 q_t62
def q_y62 : MethodName := ⟨"RatchetPost", "isField", "(II)Z"⟩
def q_m62 : q_MI := (q_y62, prog_1_method_21_code, 3, (some .boolean), 7, 2, false, q_x62)
def q_t63 (pc : Nat) : Option Instr := bif Nat.blt pc 6 then (bif Nat.blt pc 4 then (bif Nat.blt pc 1 then (bif Nat.beq pc 0 then some (.aload_n 0) else none) else (bif Nat.beq pc 1 then some (.getfield 24) else none)) else (bif Nat.blt pc 5 then (bif Nat.beq pc 4 then some (.iload_n 1) else none) else (bif Nat.beq pc 5 then some (.iconst 4) else none))) else (bif Nat.blt pc 8 then (bif Nat.blt pc 7 then (bif Nat.beq pc 6 then some (.imul) else none) else (bif Nat.beq pc 7 then some (.iload_n 2) else none)) else (bif Nat.blt pc 9 then (bif Nat.beq pc 8 then some (.iadd) else none) else (bif Nat.blt pc 10 then (bif Nat.beq pc 9 then some (.aaload) else none) else (bif Nat.beq pc 10 then some (.areturn) else none))))
def q_x63 : Nat → Option Instr := q_g 11 q_t63
def q_y63 : MethodName := ⟨"RatchetPost", "listOf", "(II)LRatchetPost$SessionList;"⟩
def q_m63 : q_MI := (q_y63, prog_1_method_22_code, 3, (some (.object "RatchetPost$SessionList")), 7, 4, false, q_x63)
def q_t64 (pc : Nat) : Option Instr := bif Nat.blt pc 57 then (bif Nat.blt pc 25 then (bif Nat.blt pc 13 then (bif Nat.blt pc 4 then (bif Nat.blt pc 2 then (bif Nat.blt pc 1 then (bif Nat.beq pc 0 then some (.aload_n 0) else none) else (bif Nat.beq pc 1 then some (.aload_n 1) else none)) else (bif Nat.blt pc 3 then (bif Nat.beq pc 2 then some (.iconst 0) else none) else (bif Nat.beq pc 3 then some (.laload) else none))) else (bif Nat.blt pc 6 then (bif Nat.blt pc 5 then (bif Nat.beq pc 4 then some (.aload_n 1) else none) else (bif Nat.beq pc 5 then some (.iconst 1) else none)) else (bif Nat.blt pc 7 then (bif Nat.beq pc 6 then some (.laload) else none) else (bif Nat.blt pc 10 then (bif Nat.beq pc 7 then some (.invokevirtual 104) else none) else (bif Nat.beq pc 10 then some (.ifCond .ne 5) else none))))) else (bif Nat.blt pc 18 then (bif Nat.blt pc 15 then (bif Nat.blt pc 14 then (bif Nat.beq pc 13 then some (.iconst 1) else none) else (bif Nat.beq pc 14 then some (.ireturn) else none)) else (bif Nat.blt pc 16 then (bif Nat.beq pc 15 then some (.aload_n 1) else none) else (bif Nat.blt pc 17 then (bif Nat.beq pc 16 then some (.iconst 2) else none) else (bif Nat.beq pc 17 then some (.laload) else none)))) else (bif Nat.blt pc 20 then (bif Nat.blt pc 19 then (bif Nat.beq pc 18 then some (.lconst 0) else none) else (bif Nat.beq pc 19 then some (.lcmp) else none)) else (bif Nat.blt pc 23 then (bif Nat.beq pc 20 then some (.ifCond .eq 13) else none) else (bif Nat.blt pc 24 then (bif Nat.beq pc 23 then some (.aload_n 1) else none) else (bif Nat.beq pc 24 then some (.iconst 2) else none)))))) else (bif Nat.blt pc 37 then (bif Nat.blt pc 31 then (bif Nat.blt pc 27 then (bif Nat.blt pc 26 then (bif Nat.beq pc 25 then some (.laload) else none) else (bif Nat.beq pc 26 then some (.lconst 1) else none)) else (bif Nat.blt pc 28 then (bif Nat.beq pc 27 then some (.lcmp) else none) else (bif Nat.beq pc 28 then some (.ifCond .eq 5) else none))) else (bif Nat.blt pc 33 then (bif Nat.blt pc 32 then (bif Nat.beq pc 31 then some (.iconst 1) else none) else (bif Nat.beq pc 32 then some (.ireturn) else none)) else (bif Nat.blt pc 34 then (bif Nat.beq pc 33 then some (.aload_n 1) else none) else (bif Nat.blt pc 36 then (bif Nat.beq pc 34 then some (.bipush 7) else none) else (bif Nat.beq pc 36 then some (.laload) else none))))) else (bif Nat.blt pc 47 then (bif Nat.blt pc 43 then (bif Nat.blt pc 40 then (bif Nat.beq pc 37 then some (.invokestatic 273) else none) else (bif Nat.beq pc 40 then some (.ifCond .eq 23) else none)) else (bif Nat.blt pc 44 then (bif Nat.beq pc 43 then some (.aload_n 1) else none) else (bif Nat.blt pc 46 then (bif Nat.beq pc 44 then some (.bipush 8) else none) else (bif Nat.beq pc 46 then some (.laload) else none)))) else (bif Nat.blt pc 53 then (bif Nat.blt pc 50 then (bif Nat.beq pc 47 then some (.invokestatic 276) else none) else (bif Nat.beq pc 50 then some (.ifCond .eq 13) else none)) else (bif Nat.blt pc 54 then (bif Nat.beq pc 53 then some (.aload_n 1) else none) else (bif Nat.blt pc 56 then (bif Nat.beq pc 54 then some (.bipush 9) else none) else (bif Nat.beq pc 56 then some (.laload) else none))))))) else (bif Nat.blt pc 84 then (bif Nat.blt pc 70 then (bif Nat.blt pc 65 then (bif Nat.blt pc 63 then (bif Nat.blt pc 60 then (bif Nat.beq pc 57 then some (.invokestatic 276) else none) else (bif Nat.beq pc 60 then some (.ifCond .ne 5) else none)) else (bif Nat.blt pc 64 then (bif Nat.beq pc 63 then some (.iconst 1) else none) else (bif Nat.beq pc 64 then some (.ireturn) else none))) else (bif Nat.blt pc 67 then (bif Nat.blt pc 66 then (bif Nat.beq pc 65 then some (.aload_n 1) else none) else (bif Nat.beq pc 66 then some (.iconst 2) else none)) else (bif Nat.blt pc 68 then (bif Nat.beq pc 67 then some (.laload) else none) else (bif Nat.blt pc 69 then (bif Nat.beq pc 68 then some (.lconst 1) else none) else (bif Nat.beq pc 69 then some (.lcmp) else none))))) else (bif Nat.blt pc 79 then (bif Nat.blt pc 74 then (bif Nat.blt pc 73 then (bif Nat.beq pc 70 then some (.ifCond .ne 5) else none) else (bif Nat.beq pc 73 then some (.iconst 0) else none)) else (bif Nat.blt pc 75 then (bif Nat.beq pc 74 then some (.ireturn) else none) else (bif Nat.blt pc 76 then (bif Nat.beq pc 75 then some (.aload_n 0) else none) else (bif Nat.beq pc 76 then some (.getfield 18) else none)))) else (bif Nat.blt pc 81 then (bif Nat.blt pc 80 then (bif Nat.beq pc 79 then some (.aload_n 1) else none) else (bif Nat.beq pc 80 then some (.iconst 0) else none)) else (bif Nat.blt pc 82 then (bif Nat.beq pc 81 then some (.laload) else none) else (bif Nat.blt pc 83 then (bif Nat.beq pc 82 then some (.l2i) else none) else (bif Nat.beq pc 83 then some (.aaload) else none)))))) else (bif Nat.blt pc 97 then (bif Nat.blt pc 92 then (bif Nat.blt pc 90 then (bif Nat.blt pc 87 then (bif Nat.beq pc 84 then some (.getfield 138) else none) else (bif Nat.beq pc 87 then some (.getfield 123) else none)) else (bif Nat.blt pc 91 then (bif Nat.beq pc 90 then some (.i2l) else none) else (bif Nat.beq pc 91 then some (.lstore_n 2) else none))) else (bif Nat.blt pc 94 then (bif Nat.blt pc 93 then (bif Nat.beq pc 92 then some (.aload_n 1) else none) else (bif Nat.beq pc 93 then some (.iconst 3) else none)) else (bif Nat.blt pc 95 then (bif Nat.beq pc 94 then some (.laload) else none) else (bif Nat.blt pc 96 then (bif Nat.beq pc 95 then some (.lload_n 2) else none) else (bif Nat.beq pc 96 then some (.lcmp) else none))))) else (bif Nat.blt pc 106 then (bif Nat.blt pc 101 then (bif Nat.blt pc 100 then (bif Nat.beq pc 97 then some (.ifCond .ne 12) else none) else (bif Nat.beq pc 100 then some (.aload_n 1) else none)) else (bif Nat.blt pc 102 then (bif Nat.beq pc 101 then some (.iconst 4) else none) else (bif Nat.blt pc 103 then (bif Nat.beq pc 102 then some (.laload) else none) else (bif Nat.beq pc 103 then some (.invokestatic 273) else none)))) else (bif Nat.blt pc 110 then (bif Nat.blt pc 109 then (bif Nat.beq pc 106 then some (.ifCond .ne 7) else none) else (bif Nat.beq pc 109 then some (.iconst 1) else none)) else (bif Nat.blt pc 113 then (bif Nat.beq pc 110 then some (.goto 4) else none) else (bif Nat.blt pc 114 then (bif Nat.beq pc 113 then some (.iconst 0) else none) else (bif Nat.beq pc 114 then some (.ireturn) else none)))))))
def q_x64 : Nat → Option Instr := q_g 115 q_t64
def q_y64 : MethodName := ⟨"RatchetPost", "isMalformed", "([J)Z"⟩
def q_m64 : q_MI := (q_y64, prog_1_method_23_code, 4, (some .boolean), 7, 2, false, q_x64)
def q_t65 (pc : Nat) : Option Instr := bif Nat.blt pc 38 then (bif Nat.blt pc 19 then (bif Nat.blt pc 8 then (bif Nat.blt pc 3 then (bif Nat.blt pc 2 then (bif Nat.beq pc 0 then some (.bipush 6) else none) else (bif Nat.beq pc 2 then some (.istore_n 3) else none)) else (bif Nat.blt pc 4 then (bif Nat.beq pc 3 then some (.iconst 0) else none) else (bif Nat.blt pc 6 then (bif Nat.beq pc 4 then some (.istore 4) else none) else (bif Nat.beq pc 6 then some (.iload 4) else none)))) else (bif Nat.blt pc 12 then (bif Nat.blt pc 9 then (bif Nat.beq pc 8 then some (.aload_n 2) else none) else (bif Nat.beq pc 9 then some (.getfield 165) else none)) else (bif Nat.blt pc 15 then (bif Nat.beq pc 12 then some (.if_icmp .ge 65) else none) else (bif Nat.blt pc 16 then (bif Nat.beq pc 15 then some (.aload_n 0) else none) else (bif Nat.beq pc 16 then some (.getfield 44) else none))))) else (bif Nat.blt pc 29 then (bif Nat.blt pc 23 then (bif Nat.blt pc 20 then (bif Nat.beq pc 19 then some (.aload_n 2) else none) else (bif Nat.beq pc 20 then some (.getfield 168) else none)) else (bif Nat.blt pc 25 then (bif Nat.beq pc 23 then some (.iload 4) else none) else (bif Nat.blt pc 26 then (bif Nat.beq pc 25 then some (.aaload) else none) else (bif Nat.beq pc 26 then some (.invokevirtual 279) else none)))) else (bif Nat.blt pc 31 then (bif Nat.blt pc 30 then (bif Nat.beq pc 29 then some (.aload_n 0) else none) else (bif Nat.beq pc 30 then some (.aload_n 1) else none)) else (bif Nat.blt pc 34 then (bif Nat.beq pc 31 then some (.invokevirtual 283) else none) else (bif Nat.blt pc 36 then (bif Nat.beq pc 34 then some (.istore 5) else none) else (bif Nat.beq pc 36 then some (.iload 5) else none)))))) else (bif Nat.blt pc 58 then (bif Nat.blt pc 46 then (bif Nat.blt pc 42 then (bif Nat.blt pc 41 then (bif Nat.beq pc 38 then some (.ifCond .ne 25) else none) else (bif Nat.beq pc 41 then some (.aload_n 0) else none)) else (bif Nat.blt pc 43 then (bif Nat.beq pc 42 then some (.aload_n 2) else none) else (bif Nat.blt pc 45 then (bif Nat.beq pc 43 then some (.iload 4) else none) else (bif Nat.beq pc 45 then some (.aload_n 0) else none)))) else (bif Nat.blt pc 52 then (bif Nat.blt pc 49 then (bif Nat.beq pc 46 then some (.getfield 44) else none) else (bif Nat.beq pc 49 then some (.invokevirtual 287) else none)) else (bif Nat.blt pc 55 then (bif Nat.beq pc 52 then some (.putfield 44) else none) else (bif Nat.blt pc 56 then (bif Nat.beq pc 55 then some (.aload_n 2) else none) else (bif Nat.beq pc 56 then some (.iload 4) else none))))) else (bif Nat.blt pc 68 then (bif Nat.blt pc 62 then (bif Nat.blt pc 61 then (bif Nat.beq pc 58 then some (.invokevirtual 291) else none) else (bif Nat.beq pc 61 then some (.iconst 0) else none)) else (bif Nat.blt pc 63 then (bif Nat.beq pc 62 then some (.ireturn) else none) else (bif Nat.blt pc 65 then (bif Nat.beq pc 63 then some (.iload 4) else none) else (bif Nat.beq pc 65 then some (.ifCond .ne 6) else none)))) else (bif Nat.blt pc 74 then (bif Nat.blt pc 70 then (bif Nat.beq pc 68 then some (.iload 5) else none) else (bif Nat.blt pc 71 then (bif Nat.beq pc 70 then some (.istore_n 3) else none) else (bif Nat.beq pc 71 then some (.iinc 4 1) else none))) else (bif Nat.blt pc 77 then (bif Nat.beq pc 74 then some (.goto (-68)) else none) else (bif Nat.blt pc 78 then (bif Nat.beq pc 77 then some (.iload_n 3) else none) else (bif Nat.beq pc 78 then some (.ireturn) else none))))))
def q_x65 : Nat → Option Instr := q_g 79 q_t65
def q_y65 : MethodName := ⟨"RatchetPost", "openFurther", "([JLRatchetPost$SessionList;)I"⟩
def q_m65 : q_MI := (q_y65, prog_1_method_24_code, 6, (some .int), 7, 1, false, q_x65)
def q_t66 (pc : Nat) : Option Instr := bif Nat.blt pc 20 then (bif Nat.blt pc 9 then (bif Nat.blt pc 4 then (bif Nat.blt pc 1 then (bif Nat.beq pc 0 then some (.aload_n 0) else none) else (bif Nat.beq pc 1 then some (.getfield 44) else none)) else (bif Nat.blt pc 5 then (bif Nat.beq pc 4 then some (.aload_n 2) else none) else (bif Nat.blt pc 8 then (bif Nat.beq pc 5 then some (.getfield 168) else none) else (bif Nat.beq pc 8 then some (.iload_n 3) else none)))) else (bif Nat.blt pc 14 then (bif Nat.blt pc 10 then (bif Nat.beq pc 9 then some (.aaload) else none) else (bif Nat.blt pc 13 then (bif Nat.beq pc 10 then some (.invokevirtual 279) else none) else (bif Nat.beq pc 13 then some (.aload_n 0) else none))) else (bif Nat.blt pc 15 then (bif Nat.beq pc 14 then some (.aload_n 1) else none) else (bif Nat.blt pc 18 then (bif Nat.beq pc 15 then some (.invokevirtual 283) else none) else (bif Nat.beq pc 18 then some (.istore 4) else none))))) else (bif Nat.blt pc 28 then (bif Nat.blt pc 25 then (bif Nat.blt pc 22 then (bif Nat.beq pc 20 then some (.iload 4) else none) else (bif Nat.beq pc 22 then some (.ifCond .ne 16) else none)) else (bif Nat.blt pc 26 then (bif Nat.beq pc 25 then some (.aload_n 0) else none) else (bif Nat.blt pc 27 then (bif Nat.beq pc 26 then some (.aload_n 2) else none) else (bif Nat.beq pc 27 then some (.iload_n 3) else none)))) else (bif Nat.blt pc 35 then (bif Nat.blt pc 29 then (bif Nat.beq pc 28 then some (.aload_n 0) else none) else (bif Nat.blt pc 32 then (bif Nat.beq pc 29 then some (.getfield 44) else none) else (bif Nat.beq pc 32 then some (.invokevirtual 287) else none))) else (bif Nat.blt pc 38 then (bif Nat.beq pc 35 then some (.putfield 44) else none) else (bif Nat.blt pc 40 then (bif Nat.beq pc 38 then some (.iload 4) else none) else (bif Nat.beq pc 40 then some (.ireturn) else none)))))
def q_x66 : Nat → Option Instr := q_g 41 q_t66
def q_y66 : MethodName := ⟨"RatchetPost", "openWithSessionAt", "([JLRatchetPost$SessionList;I)I"⟩
def q_m66 : q_MI := (q_y66, prog_1_method_25_code, 5, (some .int), 7, 1, false, q_x66)
def q_t67 (pc : Nat) : Option Instr := bif Nat.blt pc 72 then (bif Nat.blt pc 31 then (bif Nat.blt pc 14 then (bif Nat.blt pc 7 then (bif Nat.blt pc 4 then (bif Nat.blt pc 1 then (bif Nat.beq pc 0 then some (.aload_n 0) else none) else (bif Nat.beq pc 1 then some (.getfield 18) else none)) else (bif Nat.blt pc 5 then (bif Nat.beq pc 4 then some (.aload_n 1) else none) else (bif Nat.blt pc 6 then (bif Nat.beq pc 5 then some (.iconst 1) else none) else (bif Nat.beq pc 6 then some (.laload) else none)))) else (bif Nat.blt pc 10 then (bif Nat.blt pc 8 then (bif Nat.beq pc 7 then some (.l2i) else none) else (bif Nat.blt pc 9 then (bif Nat.beq pc 8 then some (.aaload) else none) else (bif Nat.beq pc 9 then some (.astore_n 3) else none))) else (bif Nat.blt pc 11 then (bif Nat.beq pc 10 then some (.aload_n 1) else none) else (bif Nat.blt pc 13 then (bif Nat.beq pc 11 then some (.bipush 6) else none) else (bif Nat.beq pc 13 then some (.laload) else none))))) else (bif Nat.blt pc 23 then (bif Nat.blt pc 16 then (bif Nat.blt pc 15 then (bif Nat.beq pc 14 then some (.lconst 0) else none) else (bif Nat.beq pc 15 then some (.lcmp) else none)) else (bif Nat.blt pc 19 then (bif Nat.beq pc 16 then some (.ifCond .eq 7) else none) else (bif Nat.blt pc 20 then (bif Nat.beq pc 19 then some (.iconst 1) else none) else (bif Nat.beq pc 20 then some (.goto 4) else none)))) else (bif Nat.blt pc 27 then (bif Nat.blt pc 24 then (bif Nat.beq pc 23 then some (.iconst 0) else none) else (bif Nat.blt pc 26 then (bif Nat.beq pc 24 then some (.istore 4) else none) else (bif Nat.beq pc 26 then some (.aload_n 3) else none))) else (bif Nat.blt pc 28 then (bif Nat.beq pc 27 then some (.aload_n 1) else none) else (bif Nat.blt pc 30 then (bif Nat.beq pc 28 then some (.bipush 6) else none) else (bif Nat.beq pc 30 then some (.laload) else none)))))) else (bif Nat.blt pc 53 then (bif Nat.blt pc 39 then (bif Nat.blt pc 36 then (bif Nat.blt pc 34 then (bif Nat.beq pc 31 then some (.invokevirtual 294) else none) else (bif Nat.beq pc 34 then some (.istore 5) else none)) else (bif Nat.blt pc 37 then (bif Nat.beq pc 36 then some (.aload_n 3) else none) else (bif Nat.blt pc 38 then (bif Nat.beq pc 37 then some (.aload_n 1) else none) else (bif Nat.beq pc 38 then some (.iconst 5) else none)))) else (bif Nat.blt pc 46 then (bif Nat.blt pc 40 then (bif Nat.beq pc 39 then some (.laload) else none) else (bif Nat.blt pc 43 then (bif Nat.beq pc 40 then some (.invokevirtual 297) else none) else (bif Nat.beq pc 43 then some (.ifCond .eq 14) else none))) else (bif Nat.blt pc 48 then (bif Nat.beq pc 46 then some (.iload 4) else none) else (bif Nat.blt pc 51 then (bif Nat.beq pc 48 then some (.ifCond .eq 11) else none) else (bif Nat.beq pc 51 then some (.iload 5) else none))))) else (bif Nat.blt pc 61 then (bif Nat.blt pc 58 then (bif Nat.blt pc 54 then (bif Nat.beq pc 53 then some (.iconst (-1)) else none) else (bif Nat.blt pc 57 then (bif Nat.beq pc 54 then some (.if_icmp .ne 5) else none) else (bif Nat.beq pc 57 then some (.iconst 3) else none))) else (bif Nat.blt pc 59 then (bif Nat.beq pc 58 then some (.ireturn) else none) else (bif Nat.blt pc 60 then (bif Nat.beq pc 59 then some (.aload_n 1) else none) else (bif Nat.beq pc 60 then some (.iconst 4) else none)))) else (bif Nat.blt pc 65 then (bif Nat.blt pc 62 then (bif Nat.beq pc 61 then some (.laload) else none) else (bif Nat.blt pc 63 then (bif Nat.beq pc 62 then some (.l2i) else none) else (bif Nat.beq pc 63 then some (.istore 6) else none))) else (bif Nat.blt pc 66 then (bif Nat.beq pc 65 then some (.aload_n 0) else none) else (bif Nat.blt pc 69 then (bif Nat.beq pc 66 then some (.getfield 44) else none) else (bif Nat.beq pc 69 then some (.invokevirtual 120) else none))))))) else (bif Nat.blt pc 115 then (bif Nat.blt pc 92 then (bif Nat.blt pc 82 then (bif Nat.blt pc 76 then (bif Nat.blt pc 73 then (bif Nat.beq pc 72 then some (.aload_n 0) else none) else (bif Nat.beq pc 73 then some (.getfield 44) else none)) else (bif Nat.blt pc 78 then (bif Nat.beq pc 76 then some (.iload 6) else none) else (bif Nat.blt pc 81 then (bif Nat.beq pc 78 then some (.putfield 126) else none) else (bif Nat.beq pc 81 then some (.aload_n 0) else none)))) else (bif Nat.blt pc 89 then (bif Nat.blt pc 85 then (bif Nat.beq pc 82 then some (.getfield 44) else none) else (bif Nat.blt pc 88 then (bif Nat.beq pc 85 then some (.getfield 144) else none) else (bif Nat.beq pc 88 then some (.aload_n 3) else none))) else (bif Nat.blt pc 90 then (bif Nat.beq pc 89 then some (.aload_n 1) else none) else (bif Nat.blt pc 91 then (bif Nat.beq pc 90 then some (.iconst 5) else none) else (bif Nat.beq pc 91 then some (.laload) else none))))) else (bif Nat.blt pc 103 then (bif Nat.blt pc 99 then (bif Nat.blt pc 95 then (bif Nat.beq pc 92 then some (.invokevirtual 300) else none) else (bif Nat.blt pc 98 then (bif Nat.beq pc 95 then some (.invokevirtual 304) else none) else (bif Nat.beq pc 98 then some (.aload_n 0) else none))) else (bif Nat.blt pc 100 then (bif Nat.beq pc 99 then some (.aload_n 1) else none) else (bif Nat.blt pc 101 then (bif Nat.beq pc 100 then some (.aload_n 3) else none) else (bif Nat.beq pc 101 then some (.iload 4) else none)))) else (bif Nat.blt pc 110 then (bif Nat.blt pc 106 then (bif Nat.beq pc 103 then some (.ifCond .eq 18) else none) else (bif Nat.blt pc 107 then (bif Nat.beq pc 106 then some (.aload_n 3) else none) else (bif Nat.beq pc 107 then some (.getfield 307) else none))) else (bif Nat.blt pc 112 then (bif Nat.beq pc 110 then some (.iload 5) else none) else (bif Nat.blt pc 113 then (bif Nat.beq pc 112 then some (.aaload) else none) else (bif Nat.beq pc 113 then some (.iload 6) else none)))))) else (bif Nat.blt pc 138 then (bif Nat.blt pc 126 then (bif Nat.blt pc 121 then (bif Nat.blt pc 118 then (bif Nat.beq pc 115 then some (.invokevirtual 311) else none) else (bif Nat.beq pc 118 then some (.goto 4) else none)) else (bif Nat.blt pc 122 then (bif Nat.beq pc 121 then some (.iconst 0) else none) else (bif Nat.blt pc 125 then (bif Nat.beq pc 122 then some (.invokevirtual 314) else none) else (bif Nat.beq pc 125 then some (.aload_n 0) else none)))) else (bif Nat.blt pc 132 then (bif Nat.blt pc 127 then (bif Nat.beq pc 126 then some (.aload_n 1) else none) else (bif Nat.blt pc 130 then (bif Nat.beq pc 127 then some (.invokevirtual 283) else none) else (bif Nat.beq pc 130 then some (.istore 7) else none))) else (bif Nat.blt pc 134 then (bif Nat.beq pc 132 then some (.iload 7) else none) else (bif Nat.blt pc 137 then (bif Nat.beq pc 134 then some (.ifCond .ne 26) else none) else (bif Nat.beq pc 137 then some (.aload_n 0) else none))))) else (bif Nat.blt pc 151 then (bif Nat.blt pc 143 then (bif Nat.blt pc 139 then (bif Nat.beq pc 138 then some (.aload_n 2) else none) else (bif Nat.blt pc 140 then (bif Nat.beq pc 139 then some (.aload_n 0) else none) else (bif Nat.beq pc 140 then some (.getfield 44) else none))) else (bif Nat.blt pc 146 then (bif Nat.beq pc 143 then some (.invokevirtual 161) else none) else (bif Nat.blt pc 149 then (bif Nat.beq pc 146 then some (.putfield 44) else none) else (bif Nat.beq pc 149 then some (.iload 4) else none)))) else (bif Nat.blt pc 157 then (bif Nat.blt pc 154 then (bif Nat.beq pc 151 then some (.ifCond .eq 9) else none) else (bif Nat.blt pc 155 then (bif Nat.beq pc 154 then some (.aload_n 3) else none) else (bif Nat.beq pc 155 then some (.iload 5) else none))) else (bif Nat.blt pc 160 then (bif Nat.beq pc 157 then some (.invokevirtual 318) else none) else (bif Nat.blt pc 162 then (bif Nat.beq pc 160 then some (.iload 7) else none) else (bif Nat.beq pc 162 then some (.ireturn) else none)))))))
def q_x67 : Nat → Option Instr := q_g 163 q_t67
def q_y67 : MethodName := ⟨"RatchetPost", "openWithNewSession", "([JLRatchetPost$SessionList;)I"⟩
def q_m67 : q_MI := (q_y67, prog_1_method_26_code, 8, (some .int), 7, 1, false, q_x67)
def q_t68 (pc : Nat) : Option Instr := bif Nat.blt pc 48 then (bif Nat.blt pc 23 then (bif Nat.blt pc 11 then (bif Nat.blt pc 4 then (bif Nat.blt pc 1 then (bif Nat.beq pc 0 then some (.aload_n 0) else none) else (bif Nat.beq pc 1 then some (.getfield 10) else none)) else (bif Nat.blt pc 5 then (bif Nat.beq pc 4 then some (.aload_n 0) else none) else (bif Nat.blt pc 8 then (bif Nat.beq pc 5 then some (.getfield 44) else none) else (bif Nat.beq pc 8 then some (.getfield 256) else none)))) else (bif Nat.blt pc 16 then (bif Nat.blt pc 14 then (bif Nat.beq pc 11 then some (.getstatic 321) else none) else (bif Nat.blt pc 15 then (bif Nat.beq pc 14 then some (.aload_n 1) else none) else (bif Nat.beq pc 15 then some (.aload_n 2) else none))) else (bif Nat.blt pc 19 then (bif Nat.beq pc 16 then some (.getfield 95) else none) else (bif Nat.blt pc 22 then (bif Nat.beq pc 19 then some (.invokevirtual 311) else none) else (bif Nat.beq pc 22 then some (.aload_n 0) else none))))) else (bif Nat.blt pc 34 then (bif Nat.blt pc 27 then (bif Nat.blt pc 26 then (bif Nat.beq pc 23 then some (.getfield 51) else none) else (bif Nat.beq pc 26 then some (.aload_n 2) else none)) else (bif Nat.blt pc 30 then (bif Nat.beq pc 27 then some (.getfield 90) else none) else (bif Nat.blt pc 33 then (bif Nat.beq pc 30 then some (.invokevirtual 311) else none) else (bif Nat.beq pc 33 then some (.aload_n 0) else none)))) else (bif Nat.blt pc 41 then (bif Nat.blt pc 37 then (bif Nat.beq pc 34 then some (.getfield 51) else none) else (bif Nat.blt pc 38 then (bif Nat.beq pc 37 then some (.aload_n 2) else none) else (bif Nat.beq pc 38 then some (.getfield 95) else none))) else (bif Nat.blt pc 44 then (bif Nat.beq pc 41 then some (.invokevirtual 311) else none) else (bif Nat.blt pc 45 then (bif Nat.beq pc 44 then some (.iload_n 3) else none) else (bif Nat.beq pc 45 then some (.ifCond .ne 7) else none)))))) else (bif Nat.blt pc 71 then (bif Nat.blt pc 57 then (bif Nat.blt pc 52 then (bif Nat.blt pc 49 then (bif Nat.beq pc 48 then some (.iconst 0) else none) else (bif Nat.beq pc 49 then some (.goto 11) else none)) else (bif Nat.blt pc 53 then (bif Nat.beq pc 52 then some (.aload_n 0) else none) else (bif Nat.blt pc 56 then (bif Nat.beq pc 53 then some (.getfield 51) else none) else (bif Nat.beq pc 56 then some (.iload_n 3) else none)))) else (bif Nat.blt pc 64 then (bif Nat.blt pc 60 then (bif Nat.beq pc 57 then some (.invokevirtual 311) else none) else (bif Nat.blt pc 63 then (bif Nat.beq pc 60 then some (.invokevirtual 324) else none) else (bif Nat.beq pc 63 then some (.aload_n 0) else none))) else (bif Nat.blt pc 67 then (bif Nat.beq pc 64 then some (.getfield 10) else none) else (bif Nat.blt pc 68 then (bif Nat.beq pc 67 then some (.aload_n 0) else none) else (bif Nat.beq pc 68 then some (.getfield 44) else none))))) else (bif Nat.blt pc 85 then (bif Nat.blt pc 78 then (bif Nat.blt pc 74 then (bif Nat.beq pc 71 then some (.getfield 256) else none) else (bif Nat.blt pc 75 then (bif Nat.beq pc 74 then some (.aload_n 0) else none) else (bif Nat.beq pc 75 then some (.getfield 44) else none))) else (bif Nat.blt pc 81 then (bif Nat.beq pc 78 then some (.getfield 256) else none) else (bif Nat.blt pc 82 then (bif Nat.beq pc 81 then some (.aload_n 1) else none) else (bif Nat.beq pc 82 then some (.getfield 123) else none)))) else (bif Nat.blt pc 90 then (bif Nat.blt pc 86 then (bif Nat.beq pc 85 then some (.aload_n 2) else none) else (bif Nat.blt pc 89 then (bif Nat.beq pc 86 then some (.getfield 90) else none) else (bif Nat.beq pc 89 then some (.iconst 4) else none))) else (bif Nat.blt pc 91 then (bif Nat.beq pc 90 then some (.iload_n 3) else none) else (bif Nat.blt pc 94 then (bif Nat.beq pc 91 then some (.invokevirtual 324) else none) else (bif Nat.beq pc 94 then some (.return_) else none))))))
def q_x68 : Nat → Option Instr := q_g 95 q_t68
def q_y68 : MethodName := ⟨"RatchetPost", "agreeAsFirst", "(LRatchetPost$Pair;LRatchetPost$Entry;I)V"⟩
def q_m68 : q_MI := (q_y68, prog_1_method_27_code, 4, none, 7, 0, false, q_x68)
def q_t69 (pc : Nat) : Option Instr := bif Nat.blt pc 47 then (bif Nat.blt pc 16 then (bif Nat.blt pc 7 then (bif Nat.blt pc 3 then (bif Nat.blt pc 1 then (bif Nat.beq pc 0 then some (.aload_n 1) else none) else (bif Nat.blt pc 2 then (bif Nat.beq pc 1 then some (.iconst 3) else none) else (bif Nat.beq pc 2 then some (.laload) else none))) else (bif Nat.blt pc 4 then (bif Nat.beq pc 3 then some (.l2i) else none) else (bif Nat.blt pc 6 then (bif Nat.beq pc 4 then some (.istore 4) else none) else (bif Nat.beq pc 6 then some (.aload_n 1) else none)))) else (bif Nat.blt pc 10 then (bif Nat.blt pc 8 then (bif Nat.beq pc 7 then some (.iconst 4) else none) else (bif Nat.blt pc 9 then (bif Nat.beq pc 8 then some (.laload) else none) else (bif Nat.beq pc 9 then some (.l2i) else none))) else (bif Nat.blt pc 12 then (bif Nat.beq pc 10 then some (.istore 5) else none) else (bif Nat.blt pc 13 then (bif Nat.beq pc 12 then some (.aload_n 0) else none) else (bif Nat.beq pc 13 then some (.getfield 10) else none))))) else (bif Nat.blt pc 30 then (bif Nat.blt pc 23 then (bif Nat.blt pc 17 then (bif Nat.beq pc 16 then some (.aload_n 0) else none) else (bif Nat.blt pc 20 then (bif Nat.beq pc 17 then some (.getfield 44) else none) else (bif Nat.beq pc 20 then some (.getfield 256) else none))) else (bif Nat.blt pc 26 then (bif Nat.beq pc 23 then some (.getstatic 321) else none) else (bif Nat.blt pc 27 then (bif Nat.beq pc 26 then some (.aload_n 0) else none) else (bif Nat.beq pc 27 then some (.getfield 44) else none)))) else (bif Nat.blt pc 38 then (bif Nat.blt pc 33 then (bif Nat.beq pc 30 then some (.getfield 144) else none) else (bif Nat.blt pc 35 then (bif Nat.beq pc 33 then some (.iload 4) else none) else (bif Nat.beq pc 35 then some (.invokevirtual 311) else none))) else (bif Nat.blt pc 42 then (bif Nat.blt pc 39 then (bif Nat.beq pc 38 then some (.aload_n 2) else none) else (bif Nat.beq pc 39 then some (.getfield 138) else none)) else (bif Nat.blt pc 44 then (bif Nat.beq pc 42 then some (.iload 5) else none) else (bif Nat.beq pc 44 then some (.invokevirtual 311) else none)))))) else (bif Nat.blt pc 75 then (bif Nat.blt pc 60 then (bif Nat.blt pc 54 then (bif Nat.blt pc 48 then (bif Nat.beq pc 47 then some (.aload_n 0) else none) else (bif Nat.blt pc 51 then (bif Nat.beq pc 48 then some (.getfield 44) else none) else (bif Nat.beq pc 51 then some (.getfield 144) else none))) else (bif Nat.blt pc 56 then (bif Nat.beq pc 54 then some (.iload 5) else none) else (bif Nat.blt pc 59 then (bif Nat.beq pc 56 then some (.invokevirtual 311) else none) else (bif Nat.beq pc 59 then some (.iload_n 3) else none)))) else (bif Nat.blt pc 67 then (bif Nat.blt pc 63 then (bif Nat.beq pc 60 then some (.invokevirtual 324) else none) else (bif Nat.blt pc 64 then (bif Nat.beq pc 63 then some (.aload_n 0) else none) else (bif Nat.beq pc 64 then some (.getfield 10) else none))) else (bif Nat.blt pc 71 then (bif Nat.blt pc 68 then (bif Nat.beq pc 67 then some (.aload_n 0) else none) else (bif Nat.beq pc 68 then some (.getfield 44) else none)) else (bif Nat.blt pc 74 then (bif Nat.beq pc 71 then some (.getfield 256) else none) else (bif Nat.beq pc 74 then some (.aload_n 0) else none))))) else (bif Nat.blt pc 90 then (bif Nat.blt pc 83 then (bif Nat.blt pc 78 then (bif Nat.beq pc 75 then some (.getfield 44) else none) else (bif Nat.blt pc 81 then (bif Nat.beq pc 78 then some (.getfield 256) else none) else (bif Nat.beq pc 81 then some (.iload 4) else none))) else (bif Nat.blt pc 84 then (bif Nat.beq pc 83 then some (.aload_n 2) else none) else (bif Nat.blt pc 87 then (bif Nat.beq pc 84 then some (.getfield 138) else none) else (bif Nat.beq pc 87 then some (.getfield 123) else none)))) else (bif Nat.blt pc 94 then (bif Nat.blt pc 91 then (bif Nat.beq pc 90 then some (.iconst 4) else none) else (bif Nat.blt pc 92 then (bif Nat.beq pc 91 then some (.aload_n 1) else none) else (bif Nat.beq pc 92 then some (.bipush 6) else none))) else (bif Nat.blt pc 96 then (bif Nat.blt pc 95 then (bif Nat.beq pc 94 then some (.laload) else none) else (bif Nat.beq pc 95 then some (.l2i) else none)) else (bif Nat.blt pc 99 then (bif Nat.beq pc 96 then some (.invokevirtual 324) else none) else (bif Nat.beq pc 99 then some (.return_) else none))))))
def q_x69 : Nat → Option Instr := q_g 100 q_t69
def q_y69 : MethodName := ⟨"RatchetPost", "agreeAsSecond", "([JLRatchetPost$Account;I)V"⟩
def q_m69 : q_MI := (q_y69, prog_1_method_28_code, 6, none, 7, 0, false, q_x69)
def q_t70 (pc : Nat) : Option Instr := bif Nat.blt pc 141 then (bif Nat.blt pc 66 then (bif Nat.blt pc 29 then (bif Nat.blt pc 11 then (bif Nat.blt pc 5 then (bif Nat.blt pc 3 then (bif Nat.blt pc 1 then (bif Nat.beq pc 0 then some (.aload_n 1) else none) else (bif Nat.beq pc 1 then some (.bipush 7) else none)) else (bif Nat.blt pc 4 then (bif Nat.beq pc 3 then some (.laload) else none) else (bif Nat.beq pc 4 then some (.l2i) else none))) else (bif Nat.blt pc 7 then (bif Nat.blt pc 6 then (bif Nat.beq pc 5 then some (.istore_n 2) else none) else (bif Nat.beq pc 6 then some (.aload_n 1) else none)) else (bif Nat.blt pc 9 then (bif Nat.beq pc 7 then some (.bipush 8) else none) else (bif Nat.blt pc 10 then (bif Nat.beq pc 9 then some (.laload) else none) else (bif Nat.beq pc 10 then some (.l2i) else none))))) else (bif Nat.blt pc 20 then (bif Nat.blt pc 13 then (bif Nat.blt pc 12 then (bif Nat.beq pc 11 then some (.istore_n 3) else none) else (bif Nat.beq pc 12 then some (.aload_n 0) else none)) else (bif Nat.blt pc 16 then (bif Nat.beq pc 13 then some (.getfield 44) else none) else (bif Nat.blt pc 19 then (bif Nat.beq pc 16 then some (.getfield 249) else none) else (bif Nat.beq pc 19 then some (.iload_n 2) else none)))) else (bif Nat.blt pc 24 then (bif Nat.blt pc 21 then (bif Nat.beq pc 20 then some (.iload_n 3) else none) else (bif Nat.beq pc 21 then some (.invokevirtual 328) else none)) else (bif Nat.blt pc 26 then (bif Nat.beq pc 24 then some (.istore 4) else none) else (bif Nat.blt pc 28 then (bif Nat.beq pc 26 then some (.iload 4) else none) else (bif Nat.beq pc 28 then some (.iconst (-1)) else none)))))) else (bif Nat.blt pc 49 then (bif Nat.blt pc 39 then (bif Nat.blt pc 33 then (bif Nat.blt pc 32 then (bif Nat.beq pc 29 then some (.if_icmp .eq 42) else none) else (bif Nat.beq pc 32 then some (.aload_n 0) else none)) else (bif Nat.blt pc 36 then (bif Nat.beq pc 33 then some (.getfield 44) else none) else (bif Nat.beq pc 36 then some (.getfield 249) else none))) else (bif Nat.blt pc 42 then (bif Nat.blt pc 41 then (bif Nat.beq pc 39 then some (.iload 4) else none) else (bif Nat.beq pc 41 then some (.aload_n 0) else none)) else (bif Nat.blt pc 45 then (bif Nat.beq pc 42 then some (.getfield 55) else none) else (bif Nat.blt pc 48 then (bif Nat.beq pc 45 then some (.invokevirtual 331) else none) else (bif Nat.beq pc 48 then some (.aload_n 0) else none))))) else (bif Nat.blt pc 57 then (bif Nat.blt pc 53 then (bif Nat.blt pc 50 then (bif Nat.beq pc 49 then some (.aload_n 1) else none) else (bif Nat.beq pc 50 then some (.invokevirtual 190) else none)) else (bif Nat.blt pc 54 then (bif Nat.beq pc 53 then some (.aload_n 1) else none) else (bif Nat.blt pc 56 then (bif Nat.beq pc 54 then some (.bipush 11) else none) else (bif Nat.beq pc 56 then some (.laload) else none)))) else (bif Nat.blt pc 61 then (bif Nat.blt pc 58 then (bif Nat.beq pc 57 then some (.lcmp) else none) else (bif Nat.beq pc 58 then some (.ifCond .ne 11) else none)) else (bif Nat.blt pc 62 then (bif Nat.beq pc 61 then some (.aload_n 0) else none) else (bif Nat.blt pc 63 then (bif Nat.beq pc 62 then some (.aload_n 1) else none) else (bif Nat.beq pc 63 then some (.invokevirtual 335) else none))))))) else (bif Nat.blt pc 105 then (bif Nat.blt pc 83 then (bif Nat.blt pc 72 then (bif Nat.blt pc 70 then (bif Nat.blt pc 69 then (bif Nat.beq pc 66 then some (.goto 4) else none) else (bif Nat.beq pc 69 then some (.iconst 1) else none)) else (bif Nat.blt pc 71 then (bif Nat.beq pc 70 then some (.ireturn) else none) else (bif Nat.beq pc 71 then some (.iload_n 2) else none))) else (bif Nat.blt pc 76 then (bif Nat.blt pc 73 then (bif Nat.beq pc 72 then some (.aload_n 0) else none) else (bif Nat.beq pc 73 then some (.getfield 44) else none)) else (bif Nat.blt pc 79 then (bif Nat.beq pc 76 then some (.getfield 147) else none) else (bif Nat.blt pc 82 then (bif Nat.beq pc 79 then some (.if_icmp .eq 7) else none) else (bif Nat.beq pc 82 then some (.iconst 1) else none))))) else (bif Nat.blt pc 94 then (bif Nat.blt pc 87 then (bif Nat.blt pc 86 then (bif Nat.beq pc 83 then some (.goto 4) else none) else (bif Nat.beq pc 86 then some (.iconst 0) else none)) else (bif Nat.blt pc 89 then (bif Nat.beq pc 87 then some (.istore 5) else none) else (bif Nat.blt pc 91 then (bif Nat.beq pc 89 then some (.iload 5) else none) else (bif Nat.beq pc 91 then some (.ifCond .eq 46) else none)))) else (bif Nat.blt pc 98 then (bif Nat.blt pc 95 then (bif Nat.beq pc 94 then some (.aload_n 0) else none) else (bif Nat.beq pc 95 then some (.getfield 44) else none)) else (bif Nat.blt pc 101 then (bif Nat.beq pc 98 then some (.getfield 338) else none) else (bif Nat.blt pc 104 then (bif Nat.beq pc 101 then some (.ifCond .eq 24) else none) else (bif Nat.beq pc 104 then some (.aload_n 0) else none)))))) else (bif Nat.blt pc 123 then (bif Nat.blt pc 113 then (bif Nat.blt pc 109 then (bif Nat.blt pc 108 then (bif Nat.beq pc 105 then some (.getfield 44) else none) else (bif Nat.beq pc 108 then some (.aload_n 0) else none)) else (bif Nat.blt pc 112 then (bif Nat.beq pc 109 then some (.getfield 10) else none) else (bif Nat.beq pc 112 then some (.aload_n 1) else none))) else (bif Nat.blt pc 116 then (bif Nat.blt pc 115 then (bif Nat.beq pc 113 then some (.bipush 9) else none) else (bif Nat.beq pc 115 then some (.laload) else none)) else (bif Nat.blt pc 117 then (bif Nat.beq pc 116 then some (.l2i) else none) else (bif Nat.blt pc 120 then (bif Nat.beq pc 117 then some (.invokevirtual 341) else none) else (bif Nat.beq pc 120 then some (.ifCond .ne 5) else none))))) else (bif Nat.blt pc 130 then (bif Nat.blt pc 125 then (bif Nat.blt pc 124 then (bif Nat.beq pc 123 then some (.iconst 2) else none) else (bif Nat.beq pc 124 then some (.ireturn) else none)) else (bif Nat.blt pc 126 then (bif Nat.beq pc 125 then some (.aload_n 0) else none) else (bif Nat.blt pc 129 then (bif Nat.beq pc 126 then some (.getfield 44) else none) else (bif Nat.beq pc 129 then some (.aload_n 0) else none)))) else (bif Nat.blt pc 134 then (bif Nat.blt pc 133 then (bif Nat.beq pc 130 then some (.getfield 10) else none) else (bif Nat.beq pc 133 then some (.iload_n 2) else none)) else (bif Nat.blt pc 137 then (bif Nat.beq pc 134 then some (.invokevirtual 345) else none) else (bif Nat.blt pc 138 then (bif Nat.beq pc 137 then some (.aload_n 0) else none) else (bif Nat.beq pc 138 then some (.getfield 44) else none)))))))) else (bif Nat.blt pc 218 then (bif Nat.blt pc 178 then (bif Nat.blt pc 160 then (bif Nat.blt pc 149 then (bif Nat.blt pc 147 then (bif Nat.blt pc 144 then (bif Nat.beq pc 141 then some (.getfield 338) else none) else (bif Nat.beq pc 144 then some (.ifCond .ne 5) else none)) else (bif Nat.blt pc 148 then (bif Nat.beq pc 147 then some (.iconst 1) else none) else (bif Nat.beq pc 148 then some (.ireturn) else none))) else (bif Nat.blt pc 151 then (bif Nat.blt pc 150 then (bif Nat.beq pc 149 then some (.iload_n 3) else none) else (bif Nat.beq pc 150 then some (.aload_n 0) else none)) else (bif Nat.blt pc 154 then (bif Nat.beq pc 151 then some (.getfield 44) else none) else (bif Nat.blt pc 157 then (bif Nat.beq pc 154 then some (.getfield 246) else none) else (bif Nat.beq pc 157 then some (.if_icmp .ge 5) else none))))) else (bif Nat.blt pc 167 then (bif Nat.blt pc 162 then (bif Nat.blt pc 161 then (bif Nat.beq pc 160 then some (.iconst 5) else none) else (bif Nat.beq pc 161 then some (.ireturn) else none)) else (bif Nat.blt pc 163 then (bif Nat.beq pc 162 then some (.aload_n 0) else none) else (bif Nat.blt pc 166 then (bif Nat.beq pc 163 then some (.getfield 44) else none) else (bif Nat.beq pc 166 then some (.aload_n 0) else none)))) else (bif Nat.blt pc 171 then (bif Nat.blt pc 170 then (bif Nat.beq pc 167 then some (.getfield 10) else none) else (bif Nat.beq pc 170 then some (.iload_n 3) else none)) else (bif Nat.blt pc 174 then (bif Nat.beq pc 171 then some (.invokevirtual 341) else none) else (bif Nat.blt pc 177 then (bif Nat.beq pc 174 then some (.ifCond .eq 18) else none) else (bif Nat.beq pc 177 then some (.aload_n 0) else none)))))) else (bif Nat.blt pc 198 then (bif Nat.blt pc 189 then (bif Nat.blt pc 184 then (bif Nat.blt pc 181 then (bif Nat.beq pc 178 then some (.getfield 44) else none) else (bif Nat.beq pc 181 then some (.getfield 249) else none)) else (bif Nat.blt pc 187 then (bif Nat.beq pc 184 then some (.getfield 253) else none) else (bif Nat.beq pc 187 then some (.bipush 12) else none))) else (bif Nat.blt pc 193 then (bif Nat.blt pc 192 then (bif Nat.beq pc 189 then some (.if_icmp .le 5) else none) else (bif Nat.beq pc 192 then some (.iconst 2) else none)) else (bif Nat.blt pc 194 then (bif Nat.beq pc 193 then some (.ireturn) else none) else (bif Nat.blt pc 195 then (bif Nat.beq pc 194 then some (.aload_n 0) else none) else (bif Nat.beq pc 195 then some (.getfield 10) else none))))) else (bif Nat.blt pc 209 then (bif Nat.blt pc 202 then (bif Nat.blt pc 199 then (bif Nat.beq pc 198 then some (.aload_n 0) else none) else (bif Nat.beq pc 199 then some (.getfield 55) else none)) else (bif Nat.blt pc 203 then (bif Nat.beq pc 202 then some (.aload_n 0) else none) else (bif Nat.blt pc 206 then (bif Nat.beq pc 203 then some (.getfield 44) else none) else (bif Nat.beq pc 206 then some (.getfield 349) else none)))) else (bif Nat.blt pc 213 then (bif Nat.blt pc 212 then (bif Nat.beq pc 209 then some (.invokevirtual 182) else none) else (bif Nat.beq pc 212 then some (.aload_n 0) else none)) else (bif Nat.blt pc 216 then (bif Nat.beq pc 213 then some (.getfield 44) else none) else (bif Nat.blt pc 217 then (bif Nat.beq pc 216 then some (.iload_n 3) else none) else (bif Nat.beq pc 217 then some (.iconst 1) else none))))))) else (bif Nat.blt pc 249 then (bif Nat.blt pc 232 then (bif Nat.blt pc 224 then (bif Nat.blt pc 222 then (bif Nat.blt pc 219 then (bif Nat.beq pc 218 then some (.iadd) else none) else (bif Nat.beq pc 219 then some (.putfield 246) else none)) else (bif Nat.blt pc 223 then (bif Nat.beq pc 222 then some (.aload_n 0) else none) else (bif Nat.beq pc 223 then some (.aload_n 1) else none))) else (bif Nat.blt pc 228 then (bif Nat.blt pc 227 then (bif Nat.beq pc 224 then some (.invokevirtual 190) else none) else (bif Nat.beq pc 227 then some (.aload_n 1) else none)) else (bif Nat.blt pc 230 then (bif Nat.beq pc 228 then some (.bipush 11) else none) else (bif Nat.blt pc 231 then (bif Nat.beq pc 230 then some (.laload) else none) else (bif Nat.beq pc 231 then some (.lcmp) else none))))) else (bif Nat.blt pc 242 then (bif Nat.blt pc 236 then (bif Nat.blt pc 235 then (bif Nat.beq pc 232 then some (.ifCond .eq 5) else none) else (bif Nat.beq pc 235 then some (.iconst 1) else none)) else (bif Nat.blt pc 237 then (bif Nat.beq pc 236 then some (.ireturn) else none) else (bif Nat.blt pc 239 then (bif Nat.beq pc 237 then some (.iload 5) else none) else (bif Nat.beq pc 239 then some (.ifCond .eq 44) else none)))) else (bif Nat.blt pc 246 then (bif Nat.blt pc 243 then (bif Nat.beq pc 242 then some (.aload_n 0) else none) else (bif Nat.beq pc 243 then some (.getfield 18) else none)) else (bif Nat.blt pc 247 then (bif Nat.beq pc 246 then some (.aload_n 1) else none) else (bif Nat.blt pc 248 then (bif Nat.beq pc 247 then some (.iconst 1) else none) else (bif Nat.beq pc 248 then some (.laload) else none)))))) else (bif Nat.blt pc 269 then (bif Nat.blt pc 256 then (bif Nat.blt pc 251 then (bif Nat.blt pc 250 then (bif Nat.beq pc 249 then some (.l2i) else none) else (bif Nat.beq pc 250 then some (.aaload) else none)) else (bif Nat.blt pc 252 then (bif Nat.beq pc 251 then some (.aload_n 0) else none) else (bif Nat.blt pc 255 then (bif Nat.beq pc 252 then some (.getfield 10) else none) else (bif Nat.beq pc 255 then some (.aload_n 0) else none)))) else (bif Nat.blt pc 262 then (bif Nat.blt pc 259 then (bif Nat.beq pc 256 then some (.getfield 44) else none) else (bif Nat.beq pc 259 then some (.getfield 144) else none)) else (bif Nat.blt pc 265 then (bif Nat.beq pc 262 then some (.invokevirtual 116) else none) else (bif Nat.blt pc 266 then (bif Nat.beq pc 265 then some (.aload_n 0) else none) else (bif Nat.beq pc 266 then some (.getfield 44) else none))))) else (bif Nat.blt pc 280 then (bif Nat.blt pc 273 then (bif Nat.blt pc 270 then (bif Nat.beq pc 269 then some (.aload_n 0) else none) else (bif Nat.beq pc 270 then some (.getfield 10) else none)) else (bif Nat.blt pc 274 then (bif Nat.beq pc 273 then some (.aload_n 0) else none) else (bif Nat.blt pc 277 then (bif Nat.beq pc 274 then some (.getfield 44) else none) else (bif Nat.beq pc 277 then some (.getfield 150) else none)))) else (bif Nat.blt pc 284 then (bif Nat.blt pc 283 then (bif Nat.beq pc 280 then some (.invokevirtual 153) else none) else (bif Nat.beq pc 283 then some (.aload_n 0) else none)) else (bif Nat.blt pc 285 then (bif Nat.beq pc 284 then some (.aload_n 1) else none) else (bif Nat.blt pc 288 then (bif Nat.beq pc 285 then some (.invokevirtual 335) else none) else (bif Nat.beq pc 288 then some (.ireturn) else none))))))))
def q_x70 : Nat → Option Instr := q_g 289 q_t70
def q_y70 : MethodName := ⟨"RatchetPost", "tryTrial", "([J)I"⟩
def q_m70 : q_MI := (q_y70, prog_1_method_29_code, 6, (some .int), 7, 1, false, q_x70)
def q_t71 (pc : Nat) : Option Instr := bif Nat.blt pc 16 then (bif Nat.blt pc 6 then (bif Nat.blt pc 2 then (bif Nat.blt pc 1 then (bif Nat.beq pc 0 then some (.aload_n 0) else none) else (bif Nat.beq pc 1 then some (.aload_n 1) else none)) else (bif Nat.blt pc 4 then (bif Nat.beq pc 2 then some (.bipush 10) else none) else (bif Nat.blt pc 5 then (bif Nat.beq pc 4 then some (.laload) else none) else (bif Nat.beq pc 5 then some (.aload_n 0) else none)))) else (bif Nat.blt pc 10 then (bif Nat.blt pc 9 then (bif Nat.beq pc 6 then some (.getfield 10) else none) else (bif Nat.beq pc 9 then some (.aload_n 0) else none)) else (bif Nat.blt pc 13 then (bif Nat.beq pc 10 then some (.getfield 55) else none) else (bif Nat.blt pc 15 then (bif Nat.beq pc 13 then some (.bipush 9) else none) else (bif Nat.beq pc 15 then some (.iconst 0) else none))))) else (bif Nat.blt pc 25 then (bif Nat.blt pc 18 then (bif Nat.blt pc 17 then (bif Nat.beq pc 16 then some (.iconst 0) else none) else (bif Nat.beq pc 17 then some (.iconst 0) else none)) else (bif Nat.blt pc 21 then (bif Nat.beq pc 18 then some (.invokevirtual 186) else none) else (bif Nat.blt pc 22 then (bif Nat.beq pc 21 then some (.lxor) else none) else (bif Nat.beq pc 22 then some (.putfield 37) else none)))) else (bif Nat.blt pc 30 then (bif Nat.blt pc 26 then (bif Nat.beq pc 25 then some (.aload_n 0) else none) else (bif Nat.blt pc 29 then (bif Nat.beq pc 26 then some (.getfield 44) else none) else (bif Nat.beq pc 29 then some (.iconst 1) else none))) else (bif Nat.blt pc 33 then (bif Nat.beq pc 30 then some (.putfield 352) else none) else (bif Nat.blt pc 34 then (bif Nat.beq pc 33 then some (.iconst 0) else none) else (bif Nat.beq pc 34 then some (.ireturn) else none)))))
def q_x71 : Nat → Option Instr := q_g 35 q_t71
def q_y71 : MethodName := ⟨"RatchetPost", "finishOpening", "([J)I"⟩
def q_m71 : q_MI := (q_y71, prog_1_method_30_code, 2, (some .int), 7, 1, false, q_x71)
def q_t72 (pc : Nat) : Option Instr := bif Nat.blt pc 47 then (bif Nat.blt pc 22 then (bif Nat.blt pc 10 then (bif Nat.blt pc 4 then (bif Nat.blt pc 1 then (bif Nat.beq pc 0 then some (.aload_n 1) else none) else (bif Nat.blt pc 3 then (bif Nat.beq pc 1 then some (.bipush 10) else none) else (bif Nat.beq pc 3 then some (.laload) else none))) else (bif Nat.blt pc 6 then (bif Nat.blt pc 5 then (bif Nat.beq pc 4 then some (.lstore_n 2) else none) else (bif Nat.beq pc 5 then some (.aload_n 0) else none)) else (bif Nat.blt pc 9 then (bif Nat.beq pc 6 then some (.getfield 18) else none) else (bif Nat.beq pc 9 then some (.aload_n 1) else none)))) else (bif Nat.blt pc 13 then (bif Nat.blt pc 11 then (bif Nat.beq pc 10 then some (.iconst 0) else none) else (bif Nat.blt pc 12 then (bif Nat.beq pc 11 then some (.laload) else none) else (bif Nat.beq pc 12 then some (.l2i) else none))) else (bif Nat.blt pc 17 then (bif Nat.blt pc 14 then (bif Nat.beq pc 13 then some (.aaload) else none) else (bif Nat.beq pc 14 then some (.getfield 138) else none)) else (bif Nat.blt pc 20 then (bif Nat.beq pc 17 then some (.getfield 123) else none) else (bif Nat.beq pc 20 then some (.istore 4) else none))))) else (bif Nat.blt pc 31 then (bif Nat.blt pc 27 then (bif Nat.blt pc 23 then (bif Nat.beq pc 22 then some (.aload_n 0) else none) else (bif Nat.blt pc 26 then (bif Nat.beq pc 23 then some (.getfield 18) else none) else (bif Nat.beq pc 26 then some (.aload_n 1) else none))) else (bif Nat.blt pc 29 then (bif Nat.blt pc 28 then (bif Nat.beq pc 27 then some (.iconst 1) else none) else (bif Nat.beq pc 28 then some (.laload) else none)) else (bif Nat.blt pc 30 then (bif Nat.beq pc 29 then some (.l2i) else none) else (bif Nat.beq pc 30 then some (.aaload) else none)))) else (bif Nat.blt pc 39 then (bif Nat.blt pc 34 then (bif Nat.beq pc 31 then some (.getfield 138) else none) else (bif Nat.blt pc 37 then (bif Nat.beq pc 34 then some (.getfield 123) else none) else (bif Nat.beq pc 37 then some (.istore 5) else none))) else (bif Nat.blt pc 43 then (bif Nat.blt pc 40 then (bif Nat.beq pc 39 then some (.aload_n 0) else none) else (bif Nat.beq pc 40 then some (.getfield 10) else none)) else (bif Nat.blt pc 44 then (bif Nat.beq pc 43 then some (.aload_n 0) else none) else (bif Nat.beq pc 44 then some (.getfield 59) else none)))))) else (bif Nat.blt pc 66 then (bif Nat.blt pc 57 then (bif Nat.blt pc 52 then (bif Nat.blt pc 48 then (bif Nat.beq pc 47 then some (.aload_n 0) else none) else (bif Nat.blt pc 51 then (bif Nat.beq pc 48 then some (.getfield 55) else none) else (bif Nat.beq pc 51 then some (.aload_n 1) else none))) else (bif Nat.blt pc 55 then (bif Nat.blt pc 54 then (bif Nat.beq pc 52 then some (.bipush 7) else none) else (bif Nat.beq pc 54 then some (.laload) else none)) else (bif Nat.blt pc 56 then (bif Nat.beq pc 55 then some (.l2i) else none) else (bif Nat.beq pc 56 then some (.aload_n 1) else none)))) else (bif Nat.blt pc 61 then (bif Nat.blt pc 59 then (bif Nat.beq pc 57 then some (.bipush 8) else none) else (bif Nat.blt pc 60 then (bif Nat.beq pc 59 then some (.laload) else none) else (bif Nat.beq pc 60 then some (.l2i) else none))) else (bif Nat.blt pc 64 then (bif Nat.blt pc 62 then (bif Nat.beq pc 61 then some (.aload_n 1) else none) else (bif Nat.beq pc 62 then some (.bipush 9) else none)) else (bif Nat.blt pc 65 then (bif Nat.beq pc 64 then some (.laload) else none) else (bif Nat.beq pc 65 then some (.l2i) else none))))) else (bif Nat.blt pc 81 then (bif Nat.blt pc 73 then (bif Nat.blt pc 67 then (bif Nat.beq pc 66 then some (.lload_n 2) else none) else (bif Nat.blt pc 70 then (bif Nat.beq pc 67 then some (.invokestatic 264) else none) else (bif Nat.beq pc 70 then some (.invokevirtual 324) else none))) else (bif Nat.blt pc 77 then (bif Nat.blt pc 74 then (bif Nat.beq pc 73 then some (.aload_n 0) else none) else (bif Nat.beq pc 74 then some (.getfield 10) else none)) else (bif Nat.blt pc 78 then (bif Nat.beq pc 77 then some (.aload_n 0) else none) else (bif Nat.beq pc 78 then some (.getfield 59) else none)))) else (bif Nat.blt pc 87 then (bif Nat.blt pc 82 then (bif Nat.beq pc 81 then some (.lload_n 2) else none) else (bif Nat.blt pc 85 then (bif Nat.beq pc 82 then some (.invokestatic 268) else none) else (bif Nat.beq pc 85 then some (.iload 4) else none))) else (bif Nat.blt pc 91 then (bif Nat.blt pc 89 then (bif Nat.beq pc 87 then some (.iload 5) else none) else (bif Nat.beq pc 89 then some (.bipush 10) else none)) else (bif Nat.blt pc 94 then (bif Nat.beq pc 91 then some (.invokevirtual 186) else none) else (bif Nat.beq pc 94 then some (.lreturn) else none))))))
def q_x72 : Nat → Option Instr := q_g 95 q_t72
def q_y72 : MethodName := ⟨"RatchetPost", "tagOf", "([J)J"⟩
def q_m72 : q_MI := (q_y72, prog_1_method_31_code, 6, (some .long), 7, 3, false, q_x72)
def q_t73 (pc : Nat) : Option Instr := bif Nat.blt pc 12 then (bif Nat.blt pc 5 then (bif Nat.blt pc 1 then (bif Nat.beq pc 0 then some (.lload_n 0) else none) else (bif Nat.blt pc 4 then (bif Nat.beq pc 1 then some (.ldc2_w 355) else none) else (bif Nat.beq pc 4 then some (.lcmp) else none))) else (bif Nat.blt pc 8 then (bif Nat.beq pc 5 then some (.ifCond .lt 15) else none) else (bif Nat.blt pc 9 then (bif Nat.beq pc 8 then some (.lload_n 0) else none) else (bif Nat.beq pc 9 then some (.ldc2_w 357) else none)))) else (bif Nat.blt pc 17 then (bif Nat.blt pc 13 then (bif Nat.beq pc 12 then some (.lcmp) else none) else (bif Nat.blt pc 16 then (bif Nat.beq pc 13 then some (.ifCond .gt 7) else none) else (bif Nat.beq pc 16 then some (.iconst 1) else none))) else (bif Nat.blt pc 20 then (bif Nat.beq pc 17 then some (.goto 4) else none) else (bif Nat.blt pc 21 then (bif Nat.beq pc 20 then some (.iconst 0) else none) else (bif Nat.beq pc 21 then some (.ireturn) else none))))
def q_x73 : Nat → Option Instr := q_g 22 q_t73
def q_y73 : MethodName := ⟨"RatchetPost", "isOrdinaryKey", "(J)Z"⟩
def q_m73 : q_MI := (q_y73, prog_1_method_32_code, 2, (some .boolean), 7, 2, false, q_x73)
def q_t74 (pc : Nat) : Option Instr := bif Nat.blt pc 10 then (bif Nat.blt pc 3 then (bif Nat.blt pc 1 then (bif Nat.beq pc 0 then some (.lload_n 0) else none) else (bif Nat.blt pc 2 then (bif Nat.beq pc 1 then some (.lconst 0) else none) else (bif Nat.beq pc 2 then some (.lcmp) else none))) else (bif Nat.blt pc 6 then (bif Nat.beq pc 3 then some (.ifCond .lt 15) else none) else (bif Nat.blt pc 7 then (bif Nat.beq pc 6 then some (.lload_n 0) else none) else (bif Nat.beq pc 7 then some (.ldc2_w 359) else none)))) else (bif Nat.blt pc 15 then (bif Nat.blt pc 11 then (bif Nat.beq pc 10 then some (.lcmp) else none) else (bif Nat.blt pc 14 then (bif Nat.beq pc 11 then some (.ifCond .gt 7) else none) else (bif Nat.beq pc 14 then some (.iconst 1) else none))) else (bif Nat.blt pc 18 then (bif Nat.beq pc 15 then some (.goto 4) else none) else (bif Nat.blt pc 19 then (bif Nat.beq pc 18 then some (.iconst 0) else none) else (bif Nat.beq pc 19 then some (.ireturn) else none))))
def q_x74 : Nat → Option Instr := q_g 20 q_t74
def q_y74 : MethodName := ⟨"RatchetPost", "isNumber", "(J)Z"⟩
def q_m74 : q_MI := (q_y74, prog_1_method_33_code, 2, (some .boolean), 7, 2, false, q_x74)
def q_t75 (pc : Nat) : Option Instr := bif Nat.blt pc 3 then (bif Nat.blt pc 1 then (bif Nat.beq pc 0 then some (.lload_n 0) else none) else (bif Nat.beq pc 1 then some (.bipush 32) else none)) else (bif Nat.blt pc 4 then (bif Nat.beq pc 3 then some (.lushr) else none) else (bif Nat.blt pc 5 then (bif Nat.beq pc 4 then some (.l2i) else none) else (bif Nat.beq pc 5 then some (.ireturn) else none)))
def q_x75 : Nat → Option Instr := q_g 6 q_t75
def q_y75 : MethodName := ⟨"RatchetPost", "upperHalf", "(J)I"⟩
def q_m75 : q_MI := (q_y75, prog_1_method_34_code, 2, (some .int), 7, 1, false, q_x75)
def q_t76 (pc : Nat) : Option Instr := bif Nat.blt pc 1 then (bif Nat.beq pc 0 then some (.lload_n 0) else none) else (bif Nat.blt pc 2 then (bif Nat.beq pc 1 then some (.l2i) else none) else (bif Nat.beq pc 2 then some (.ireturn) else none))
def q_x76 : Nat → Option Instr := q_g 3 q_t76
def q_y76 : MethodName := ⟨"RatchetPost", "lowerHalf", "(J)I"⟩
def q_m76 : q_MI := (q_y76, prog_1_method_35_code, 2, (some .int), 7, 1, false, q_x76)
def q_t77 (pc : Nat) : Option Instr := bif Nat.blt pc 26 then (bif Nat.blt pc 11 then (bif Nat.blt pc 4 then (bif Nat.blt pc 2 then (bif Nat.blt pc 1 then (bif Nat.beq pc 0 then some (.lconst 1) else none) else (bif Nat.beq pc 1 then some (.lstore_n 2) else none)) else (bif Nat.blt pc 3 then (bif Nat.beq pc 2 then some (.iload_n 0) else none) else (bif Nat.beq pc 3 then some (.i2l) else none))) else (bif Nat.blt pc 7 then (bif Nat.blt pc 6 then (bif Nat.beq pc 4 then some (.lstore 4) else none) else (bif Nat.beq pc 6 then some (.iconst 0) else none)) else (bif Nat.blt pc 9 then (bif Nat.beq pc 7 then some (.istore 6) else none) else (bif Nat.beq pc 9 then some (.iload 6) else none)))) else (bif Nat.blt pc 19 then (bif Nat.blt pc 16 then (bif Nat.blt pc 13 then (bif Nat.beq pc 11 then some (.bipush 31) else none) else (bif Nat.beq pc 13 then some (.if_icmp .ge 39) else none)) else (bif Nat.blt pc 17 then (bif Nat.beq pc 16 then some (.iload_n 1) else none) else (bif Nat.beq pc 17 then some (.iload 6) else none))) else (bif Nat.blt pc 21 then (bif Nat.blt pc 20 then (bif Nat.beq pc 19 then some (.iushr) else none) else (bif Nat.beq pc 20 then some (.iconst 1) else none)) else (bif Nat.blt pc 22 then (bif Nat.beq pc 21 then some (.iand) else none) else (bif Nat.blt pc 23 then (bif Nat.beq pc 22 then some (.iconst 1) else none) else (bif Nat.beq pc 23 then some (.if_icmp .ne 12) else none)))))) else (bif Nat.blt pc 39 then (bif Nat.blt pc 33 then (bif Nat.blt pc 29 then (bif Nat.blt pc 27 then (bif Nat.beq pc 26 then some (.lload_n 2) else none) else (bif Nat.beq pc 27 then some (.lload 4) else none)) else (bif Nat.blt pc 30 then (bif Nat.beq pc 29 then some (.lmul) else none) else (bif Nat.beq pc 30 then some (.ldc2_w 361) else none))) else (bif Nat.blt pc 35 then (bif Nat.blt pc 34 then (bif Nat.beq pc 33 then some (.lrem) else none) else (bif Nat.beq pc 34 then some (.lstore_n 2) else none)) else (bif Nat.blt pc 37 then (bif Nat.beq pc 35 then some (.lload 4) else none) else (bif Nat.beq pc 37 then some (.lload 4) else none)))) else (bif Nat.blt pc 46 then (bif Nat.blt pc 43 then (bif Nat.blt pc 40 then (bif Nat.beq pc 39 then some (.lmul) else none) else (bif Nat.beq pc 40 then some (.ldc2_w 361) else none)) else (bif Nat.blt pc 44 then (bif Nat.beq pc 43 then some (.lrem) else none) else (bif Nat.beq pc 44 then some (.lstore 4) else none))) else (bif Nat.blt pc 52 then (bif Nat.blt pc 49 then (bif Nat.beq pc 46 then some (.iinc 6 1) else none) else (bif Nat.beq pc 49 then some (.goto (-40)) else none)) else (bif Nat.blt pc 53 then (bif Nat.beq pc 52 then some (.lload_n 2) else none) else (bif Nat.blt pc 54 then (bif Nat.beq pc 53 then some (.l2i) else none) else (bif Nat.beq pc 54 then some (.ireturn) else none))))))
def q_x77 : Nat → Option Instr := q_g 55 q_t77
def q_y77 : MethodName := ⟨"RatchetPost", "raised", "(II)I"⟩
def q_m77 : q_MI := (q_y77, prog_1_method_36_code, 7, (some .int), 7, 1, false, q_x77)
def q_t78 (pc : Nat) : Option Instr := bif Nat.blt pc 80 then (bif Nat.blt pc 37 then (bif Nat.blt pc 18 then (bif Nat.blt pc 8 then (bif Nat.blt pc 4 then (bif Nat.blt pc 1 then (bif Nat.beq pc 0 then some (.aload_n 0) else none) else (bif Nat.beq pc 1 then some (.invokespecial 1) else none)) else (bif Nat.blt pc 5 then (bif Nat.beq pc 4 then some (.aload_n 0) else none) else (bif Nat.blt pc 6 then (bif Nat.beq pc 5 then some (.iconst 4) else none) else (bif Nat.beq pc 6 then some (.newarray .boolean) else none)))) else (bif Nat.blt pc 12 then (bif Nat.blt pc 11 then (bif Nat.beq pc 8 then some (.putfield 7) else none) else (bif Nat.beq pc 11 then some (.aload_n 0) else none)) else (bif Nat.blt pc 13 then (bif Nat.beq pc 12 then some (.iconst 4) else none) else (bif Nat.blt pc 15 then (bif Nat.beq pc 13 then some (.newarray .int) else none) else (bif Nat.beq pc 15 then some (.putfield 13) else none))))) else (bif Nat.blt pc 26 then (bif Nat.blt pc 20 then (bif Nat.blt pc 19 then (bif Nat.beq pc 18 then some (.aload_n 0) else none) else (bif Nat.beq pc 19 then some (.iconst 4) else none)) else (bif Nat.blt pc 22 then (bif Nat.beq pc 20 then some (.newarray .int) else none) else (bif Nat.blt pc 25 then (bif Nat.beq pc 22 then some (.putfield 17) else none) else (bif Nat.beq pc 25 then some (.aload_n 0) else none)))) else (bif Nat.blt pc 32 then (bif Nat.blt pc 27 then (bif Nat.beq pc 26 then some (.iconst 4) else none) else (bif Nat.blt pc 29 then (bif Nat.beq pc 27 then some (.newarray .int) else none) else (bif Nat.beq pc 29 then some (.putfield 20) else none))) else (bif Nat.blt pc 33 then (bif Nat.beq pc 32 then some (.aload_n 0) else none) else (bif Nat.blt pc 35 then (bif Nat.beq pc 33 then some (.bipush 8) else none) else (bif Nat.beq pc 35 then some (.newarray .int) else none)))))) else (bif Nat.blt pc 59 then (bif Nat.blt pc 48 then (bif Nat.blt pc 41 then (bif Nat.blt pc 40 then (bif Nat.beq pc 37 then some (.putfield 23) else none) else (bif Nat.beq pc 40 then some (.aload_n 0) else none)) else (bif Nat.blt pc 43 then (bif Nat.beq pc 41 then some (.bipush 8) else none) else (bif Nat.blt pc 45 then (bif Nat.beq pc 43 then some (.newarray .int) else none) else (bif Nat.beq pc 45 then some (.putfield 26) else none)))) else (bif Nat.blt pc 53 then (bif Nat.blt pc 49 then (bif Nat.beq pc 48 then some (.aload_n 0) else none) else (bif Nat.blt pc 51 then (bif Nat.beq pc 49 then some (.bipush 8) else none) else (bif Nat.beq pc 51 then some (.newarray .int) else none))) else (bif Nat.blt pc 56 then (bif Nat.beq pc 53 then some (.putfield 29) else none) else (bif Nat.blt pc 57 then (bif Nat.beq pc 56 then some (.aload_n 0) else none) else (bif Nat.beq pc 57 then some (.bipush 80) else none))))) else (bif Nat.blt pc 68 then (bif Nat.blt pc 64 then (bif Nat.blt pc 61 then (bif Nat.beq pc 59 then some (.newarray .int) else none) else (bif Nat.beq pc 61 then some (.putfield 32) else none)) else (bif Nat.blt pc 65 then (bif Nat.beq pc 64 then some (.aload_n 0) else none) else (bif Nat.blt pc 66 then (bif Nat.beq pc 65 then some (.iconst 4) else none) else (bif Nat.beq pc 66 then some (.newarray .int) else none)))) else (bif Nat.blt pc 74 then (bif Nat.blt pc 71 then (bif Nat.beq pc 68 then some (.putfield 35) else none) else (bif Nat.blt pc 72 then (bif Nat.beq pc 71 then some (.aload_n 0) else none) else (bif Nat.beq pc 72 then some (.bipush 16) else none))) else (bif Nat.blt pc 76 then (bif Nat.beq pc 74 then some (.newarray .int) else none) else (bif Nat.blt pc 79 then (bif Nat.beq pc 76 then some (.putfield 38) else none) else (bif Nat.beq pc 79 then some (.aload_n 0) else none))))))) else (bif Nat.blt pc 126 then (bif Nat.blt pc 103 then (bif Nat.blt pc 89 then (bif Nat.blt pc 84 then (bif Nat.blt pc 82 then (bif Nat.beq pc 80 then some (.bipush 24) else none) else (bif Nat.beq pc 82 then some (.newarray .int) else none)) else (bif Nat.blt pc 87 then (bif Nat.beq pc 84 then some (.putfield 41) else none) else (bif Nat.blt pc 88 then (bif Nat.beq pc 87 then some (.aload_n 0) else none) else (bif Nat.beq pc 88 then some (.iconst 4) else none)))) else (bif Nat.blt pc 95 then (bif Nat.blt pc 91 then (bif Nat.beq pc 89 then some (.newarray .int) else none) else (bif Nat.blt pc 94 then (bif Nat.beq pc 91 then some (.putfield 44) else none) else (bif Nat.beq pc 94 then some (.aload_n 0) else none))) else (bif Nat.blt pc 98 then (bif Nat.beq pc 95 then some (.sipush 7584) else none) else (bif Nat.blt pc 100 then (bif Nat.beq pc 98 then some (.newarray .int) else none) else (bif Nat.beq pc 100 then some (.putfield 47) else none))))) else (bif Nat.blt pc 112 then (bif Nat.blt pc 106 then (bif Nat.blt pc 104 then (bif Nat.beq pc 103 then some (.aload_n 0) else none) else (bif Nat.beq pc 104 then some (.bipush 16) else none)) else (bif Nat.blt pc 108 then (bif Nat.beq pc 106 then some (.newarray .int) else none) else (bif Nat.blt pc 111 then (bif Nat.beq pc 108 then some (.putfield 50) else none) else (bif Nat.beq pc 111 then some (.aload_n 0) else none)))) else (bif Nat.blt pc 120 then (bif Nat.blt pc 115 then (bif Nat.beq pc 112 then some (.sipush 318) else none) else (bif Nat.blt pc 117 then (bif Nat.beq pc 115 then some (.newarray .int) else none) else (bif Nat.beq pc 117 then some (.putfield 53) else none))) else (bif Nat.blt pc 121 then (bif Nat.beq pc 120 then some (.aload_n 0) else none) else (bif Nat.blt pc 124 then (bif Nat.beq pc 121 then some (.sipush 720) else none) else (bif Nat.beq pc 124 then some (.newarray .long) else none)))))) else (bif Nat.blt pc 148 then (bif Nat.blt pc 137 then (bif Nat.blt pc 130 then (bif Nat.blt pc 129 then (bif Nat.beq pc 126 then some (.putfield 56) else none) else (bif Nat.beq pc 129 then some (.aload_n 0) else none)) else (bif Nat.blt pc 132 then (bif Nat.beq pc 130 then some (.bipush 16) else none) else (bif Nat.blt pc 134 then (bif Nat.beq pc 132 then some (.newarray .int) else none) else (bif Nat.beq pc 134 then some (.putfield 60) else none)))) else (bif Nat.blt pc 142 then (bif Nat.blt pc 138 then (bif Nat.beq pc 137 then some (.aload_n 0) else none) else (bif Nat.blt pc 140 then (bif Nat.beq pc 138 then some (.bipush 16) else none) else (bif Nat.beq pc 140 then some (.newarray .int) else none))) else (bif Nat.blt pc 145 then (bif Nat.beq pc 142 then some (.putfield 63) else none) else (bif Nat.blt pc 146 then (bif Nat.beq pc 145 then some (.aload_n 0) else none) else (bif Nat.beq pc 146 then some (.bipush 8) else none))))) else (bif Nat.blt pc 158 then (bif Nat.blt pc 153 then (bif Nat.blt pc 150 then (bif Nat.beq pc 148 then some (.newarray .int) else none) else (bif Nat.beq pc 150 then some (.putfield 66) else none)) else (bif Nat.blt pc 154 then (bif Nat.beq pc 153 then some (.aload_n 0) else none) else (bif Nat.blt pc 156 then (bif Nat.beq pc 154 then some (.bipush 8) else none) else (bif Nat.beq pc 156 then some (.newarray .int) else none)))) else (bif Nat.blt pc 164 then (bif Nat.blt pc 161 then (bif Nat.beq pc 158 then some (.putfield 69) else none) else (bif Nat.blt pc 162 then (bif Nat.beq pc 161 then some (.aload_n 0) else none) else (bif Nat.beq pc 162 then some (.bipush 8) else none))) else (bif Nat.blt pc 166 then (bif Nat.beq pc 164 then some (.newarray .int) else none) else (bif Nat.blt pc 169 then (bif Nat.beq pc 166 then some (.putfield 72) else none) else (bif Nat.beq pc 169 then some (.return_) else none)))))))
def q_x78 : Nat → Option Instr := q_g 170 q_t78
def q_y78 : MethodName := ⟨"RatchetPostModel", "<init>", "()V"⟩
def q_m78 : q_MI := (q_y78, prog_10_method_1_code, 1, none, 8, 0, true, q_x78)
def q_t79 (pc : Nat) : Option Instr := bif Nat.blt pc 4 then (bif Nat.blt pc 2 then (bif Nat.blt pc 1 then (bif Nat.beq pc 0 then some (.iload_n 0) else none) else (bif Nat.beq pc 1 then some (.i2l) else none)) else (bif Nat.blt pc 3 then (bif Nat.beq pc 2 then some (.iload_n 1) else none) else (bif Nat.beq pc 3 then some (.i2l) else none))) else (bif Nat.blt pc 8 then (bif Nat.blt pc 5 then (bif Nat.beq pc 4 then some (.lmul) else none) else (bif Nat.beq pc 5 then some (.ldc2_w 75) else none)) else (bif Nat.blt pc 9 then (bif Nat.beq pc 8 then some (.lrem) else none) else (bif Nat.blt pc 10 then (bif Nat.beq pc 9 then some (.l2i) else none) else (bif Nat.beq pc 10 then some (.ireturn) else none))))
def q_x79 : Nat → Option Instr := q_g 11 q_t79
def q_y79 : MethodName := ⟨"RatchetPostModel", "times", "(II)I"⟩
def q_m79 : q_MI := (q_y79, prog_10_method_2_code, 2, (some .int), 8, 1, false, q_x79)
def q_t80 (pc : Nat) : Option Instr := bif Nat.blt pc 21 then (bif Nat.blt pc 9 then (bif Nat.blt pc 3 then (bif Nat.blt pc 1 then (bif Nat.beq pc 0 then some (.iconst 1) else none) else (bif Nat.blt pc 2 then (bif Nat.beq pc 1 then some (.istore_n 2) else none) else (bif Nat.beq pc 2 then some (.iload_n 0) else none))) else (bif Nat.blt pc 5 then (bif Nat.blt pc 4 then (bif Nat.beq pc 3 then some (.istore_n 3) else none) else (bif Nat.beq pc 4 then some (.iconst 0) else none)) else (bif Nat.blt pc 7 then (bif Nat.beq pc 5 then some (.istore 4) else none) else (bif Nat.beq pc 7 then some (.iload 4) else none)))) else (bif Nat.blt pc 17 then (bif Nat.blt pc 14 then (bif Nat.blt pc 11 then (bif Nat.beq pc 9 then some (.bipush 31) else none) else (bif Nat.beq pc 11 then some (.if_icmp .ge 35) else none)) else (bif Nat.blt pc 15 then (bif Nat.beq pc 14 then some (.iload_n 1) else none) else (bif Nat.beq pc 15 then some (.iload 4) else none))) else (bif Nat.blt pc 19 then (bif Nat.blt pc 18 then (bif Nat.beq pc 17 then some (.ishr) else none) else (bif Nat.beq pc 18 then some (.iconst 1) else none)) else (bif Nat.blt pc 20 then (bif Nat.beq pc 19 then some (.iand) else none) else (bif Nat.beq pc 20 then some (.iconst 1) else none))))) else (bif Nat.blt pc 34 then (bif Nat.blt pc 26 then (bif Nat.blt pc 24 then (bif Nat.beq pc 21 then some (.if_icmp .ne 11) else none) else (bif Nat.blt pc 25 then (bif Nat.beq pc 24 then some (.iload_n 2) else none) else (bif Nat.beq pc 25 then some (.iload_n 3) else none))) else (bif Nat.blt pc 32 then (bif Nat.blt pc 29 then (bif Nat.beq pc 26 then some (.invokestatic 77) else none) else (bif Nat.beq pc 29 then some (.goto 4) else none)) else (bif Nat.blt pc 33 then (bif Nat.beq pc 32 then some (.iload_n 2) else none) else (bif Nat.beq pc 33 then some (.istore_n 2) else none)))) else (bif Nat.blt pc 40 then (bif Nat.blt pc 36 then (bif Nat.blt pc 35 then (bif Nat.beq pc 34 then some (.iload_n 3) else none) else (bif Nat.beq pc 35 then some (.iload_n 3) else none)) else (bif Nat.blt pc 39 then (bif Nat.beq pc 36 then some (.invokestatic 77) else none) else (bif Nat.beq pc 39 then some (.istore_n 3) else none))) else (bif Nat.blt pc 46 then (bif Nat.blt pc 43 then (bif Nat.beq pc 40 then some (.iinc 4 1) else none) else (bif Nat.beq pc 43 then some (.goto (-36)) else none)) else (bif Nat.blt pc 47 then (bif Nat.beq pc 46 then some (.iload_n 2) else none) else (bif Nat.beq pc 47 then some (.ireturn) else none)))))
def q_x80 : Nat → Option Instr := q_g 48 q_t80
def q_y80 : MethodName := ⟨"RatchetPostModel", "raised", "(II)I"⟩
def q_m80 : q_MI := (q_y80, prog_10_method_3_code, 5, (some .int), 8, 1, false, q_x80)
def q_t81 (pc : Nat) : Option Instr := bif Nat.blt pc 15 then (bif Nat.blt pc 7 then (bif Nat.blt pc 4 then (bif Nat.blt pc 1 then (bif Nat.beq pc 0 then some (.iload_n 1) else none) else (bif Nat.beq pc 1 then some (.ifCond .lt 19) else none)) else (bif Nat.blt pc 5 then (bif Nat.beq pc 4 then some (.iload_n 1) else none) else (bif Nat.beq pc 5 then some (.ldc 81) else none))) else (bif Nat.blt pc 11 then (bif Nat.blt pc 10 then (bif Nat.beq pc 7 then some (.if_icmp .ge 13) else none) else (bif Nat.beq pc 10 then some (.iload_n 2) else none)) else (bif Nat.blt pc 14 then (bif Nat.beq pc 11 then some (.ifCond .lt 9) else none) else (bif Nat.beq pc 14 then some (.iload_n 2) else none)))) else (bif Nat.blt pc 24 then (bif Nat.blt pc 20 then (bif Nat.blt pc 17 then (bif Nat.beq pc 15 then some (.ldc 81) else none) else (bif Nat.beq pc 17 then some (.if_icmp .lt 7) else none)) else (bif Nat.blt pc 21 then (bif Nat.beq pc 20 then some (.iconst (-1)) else none) else (bif Nat.beq pc 21 then some (.goto 8) else none))) else (bif Nat.blt pc 26 then (bif Nat.blt pc 25 then (bif Nat.beq pc 24 then some (.iload_n 1) else none) else (bif Nat.beq pc 25 then some (.iload_n 2) else none)) else (bif Nat.blt pc 29 then (bif Nat.beq pc 26 then some (.invokestatic 82) else none) else (bif Nat.beq pc 29 then some (.ireturn) else none))))
def q_x81 : Nat → Option Instr := q_g 30 q_t81
def q_y81 : MethodName := ⟨"RatchetPostModel", "power", "(II)I"⟩
def q_m81 : q_MI := (q_y81, prog_10_method_4_code, 3, (some .int), 8, 1, false, q_x81)
def q_t82 (pc : Nat) : Option Instr := bif Nat.blt pc 6 then (bif Nat.blt pc 2 then (bif Nat.blt pc 1 then (bif Nat.beq pc 0 then some (.iload_n 0) else none) else (bif Nat.beq pc 1 then some (.iload_n 1) else none)) else (bif Nat.blt pc 3 then (bif Nat.beq pc 2 then some (.ishl) else none) else (bif Nat.blt pc 4 then (bif Nat.beq pc 3 then some (.iload_n 0) else none) else (bif Nat.beq pc 4 then some (.bipush 32) else none)))) else (bif Nat.blt pc 8 then (bif Nat.blt pc 7 then (bif Nat.beq pc 6 then some (.iload_n 1) else none) else (bif Nat.beq pc 7 then some (.isub) else none)) else (bif Nat.blt pc 9 then (bif Nat.beq pc 8 then some (.iushr) else none) else (bif Nat.blt pc 10 then (bif Nat.beq pc 9 then some (.ior) else none) else (bif Nat.beq pc 10 then some (.ireturn) else none))))
def q_x82 : Nat → Option Instr := q_g 11 q_t82
def q_y82 : MethodName := ⟨"RatchetPostModel", "rotated", "(II)I"⟩
def q_m82 : q_MI := (q_y82, prog_10_method_5_code, 2, (some .int), 8, 1, false, q_x82)
def q_t83 (pc : Nat) : Option Instr := bif Nat.blt pc 81 then (bif Nat.blt pc 41 then (bif Nat.blt pc 19 then (bif Nat.blt pc 8 then (bif Nat.blt pc 5 then (bif Nat.blt pc 1 then (bif Nat.beq pc 0 then some (.aload_n 0) else none) else (bif Nat.blt pc 4 then (bif Nat.beq pc 1 then some (.getfield 60) else none) else (bif Nat.beq pc 4 then some (.iload_n 1) else none))) else (bif Nat.blt pc 6 then (bif Nat.beq pc 5 then some (.dup2) else none) else (bif Nat.blt pc 7 then (bif Nat.beq pc 6 then some (.iaload) else none) else (bif Nat.beq pc 7 then some (.aload_n 0) else none)))) else (bif Nat.blt pc 13 then (bif Nat.blt pc 11 then (bif Nat.beq pc 8 then some (.getfield 60) else none) else (bif Nat.blt pc 12 then (bif Nat.beq pc 11 then some (.iload_n 2) else none) else (bif Nat.beq pc 12 then some (.iaload) else none))) else (bif Nat.blt pc 15 then (bif Nat.blt pc 14 then (bif Nat.beq pc 13 then some (.iadd) else none) else (bif Nat.beq pc 14 then some (.iastore) else none)) else (bif Nat.blt pc 16 then (bif Nat.beq pc 15 then some (.aload_n 0) else none) else (bif Nat.beq pc 16 then some (.getfield 60) else none))))) else (bif Nat.blt pc 29 then (bif Nat.blt pc 25 then (bif Nat.blt pc 21 then (bif Nat.beq pc 19 then some (.iload 4) else none) else (bif Nat.blt pc 22 then (bif Nat.beq pc 21 then some (.aload_n 0) else none) else (bif Nat.beq pc 22 then some (.getfield 60) else none))) else (bif Nat.blt pc 27 then (bif Nat.beq pc 25 then some (.iload 4) else none) else (bif Nat.blt pc 28 then (bif Nat.beq pc 27 then some (.iaload) else none) else (bif Nat.beq pc 28 then some (.aload_n 0) else none)))) else (bif Nat.blt pc 34 then (bif Nat.blt pc 32 then (bif Nat.beq pc 29 then some (.getfield 60) else none) else (bif Nat.blt pc 33 then (bif Nat.beq pc 32 then some (.iload_n 1) else none) else (bif Nat.beq pc 33 then some (.iaload) else none))) else (bif Nat.blt pc 37 then (bif Nat.blt pc 35 then (bif Nat.beq pc 34 then some (.ixor) else none) else (bif Nat.beq pc 35 then some (.bipush 16) else none)) else (bif Nat.blt pc 40 then (bif Nat.beq pc 37 then some (.invokestatic 85) else none) else (bif Nat.beq pc 40 then some (.iastore) else none)))))) else (bif Nat.blt pc 61 then (bif Nat.blt pc 49 then (bif Nat.blt pc 46 then (bif Nat.blt pc 42 then (bif Nat.beq pc 41 then some (.aload_n 0) else none) else (bif Nat.blt pc 45 then (bif Nat.beq pc 42 then some (.getfield 60) else none) else (bif Nat.beq pc 45 then some (.iload_n 3) else none))) else (bif Nat.blt pc 47 then (bif Nat.beq pc 46 then some (.dup2) else none) else (bif Nat.blt pc 48 then (bif Nat.beq pc 47 then some (.iaload) else none) else (bif Nat.beq pc 48 then some (.aload_n 0) else none)))) else (bif Nat.blt pc 55 then (bif Nat.blt pc 52 then (bif Nat.beq pc 49 then some (.getfield 60) else none) else (bif Nat.blt pc 54 then (bif Nat.beq pc 52 then some (.iload 4) else none) else (bif Nat.beq pc 54 then some (.iaload) else none))) else (bif Nat.blt pc 57 then (bif Nat.blt pc 56 then (bif Nat.beq pc 55 then some (.iadd) else none) else (bif Nat.beq pc 56 then some (.iastore) else none)) else (bif Nat.blt pc 58 then (bif Nat.beq pc 57 then some (.aload_n 0) else none) else (bif Nat.beq pc 58 then some (.getfield 60) else none))))) else (bif Nat.blt pc 69 then (bif Nat.blt pc 66 then (bif Nat.blt pc 62 then (bif Nat.beq pc 61 then some (.iload_n 2) else none) else (bif Nat.blt pc 63 then (bif Nat.beq pc 62 then some (.aload_n 0) else none) else (bif Nat.beq pc 63 then some (.getfield 60) else none))) else (bif Nat.blt pc 67 then (bif Nat.beq pc 66 then some (.iload_n 2) else none) else (bif Nat.blt pc 68 then (bif Nat.beq pc 67 then some (.iaload) else none) else (bif Nat.beq pc 68 then some (.aload_n 0) else none)))) else (bif Nat.blt pc 74 then (bif Nat.blt pc 72 then (bif Nat.beq pc 69 then some (.getfield 60) else none) else (bif Nat.blt pc 73 then (bif Nat.beq pc 72 then some (.iload_n 3) else none) else (bif Nat.beq pc 73 then some (.iaload) else none))) else (bif Nat.blt pc 77 then (bif Nat.blt pc 75 then (bif Nat.beq pc 74 then some (.ixor) else none) else (bif Nat.beq pc 75 then some (.bipush 12) else none)) else (bif Nat.blt pc 80 then (bif Nat.beq pc 77 then some (.invokestatic 85) else none) else (bif Nat.beq pc 80 then some (.iastore) else none))))))) else (bif Nat.blt pc 122 then (bif Nat.blt pc 100 then (bif Nat.blt pc 89 then (bif Nat.blt pc 86 then (bif Nat.blt pc 82 then (bif Nat.beq pc 81 then some (.aload_n 0) else none) else (bif Nat.blt pc 85 then (bif Nat.beq pc 82 then some (.getfield 60) else none) else (bif Nat.beq pc 85 then some (.iload_n 1) else none))) else (bif Nat.blt pc 87 then (bif Nat.beq pc 86 then some (.dup2) else none) else (bif Nat.blt pc 88 then (bif Nat.beq pc 87 then some (.iaload) else none) else (bif Nat.beq pc 88 then some (.aload_n 0) else none)))) else (bif Nat.blt pc 94 then (bif Nat.blt pc 92 then (bif Nat.beq pc 89 then some (.getfield 60) else none) else (bif Nat.blt pc 93 then (bif Nat.beq pc 92 then some (.iload_n 2) else none) else (bif Nat.beq pc 93 then some (.iaload) else none))) else (bif Nat.blt pc 96 then (bif Nat.blt pc 95 then (bif Nat.beq pc 94 then some (.iadd) else none) else (bif Nat.beq pc 95 then some (.iastore) else none)) else (bif Nat.blt pc 97 then (bif Nat.beq pc 96 then some (.aload_n 0) else none) else (bif Nat.beq pc 97 then some (.getfield 60) else none))))) else (bif Nat.blt pc 110 then (bif Nat.blt pc 106 then (bif Nat.blt pc 102 then (bif Nat.beq pc 100 then some (.iload 4) else none) else (bif Nat.blt pc 103 then (bif Nat.beq pc 102 then some (.aload_n 0) else none) else (bif Nat.beq pc 103 then some (.getfield 60) else none))) else (bif Nat.blt pc 108 then (bif Nat.beq pc 106 then some (.iload 4) else none) else (bif Nat.blt pc 109 then (bif Nat.beq pc 108 then some (.iaload) else none) else (bif Nat.beq pc 109 then some (.aload_n 0) else none)))) else (bif Nat.blt pc 115 then (bif Nat.blt pc 113 then (bif Nat.beq pc 110 then some (.getfield 60) else none) else (bif Nat.blt pc 114 then (bif Nat.beq pc 113 then some (.iload_n 1) else none) else (bif Nat.beq pc 114 then some (.iaload) else none))) else (bif Nat.blt pc 118 then (bif Nat.blt pc 116 then (bif Nat.beq pc 115 then some (.ixor) else none) else (bif Nat.beq pc 116 then some (.bipush 8) else none)) else (bif Nat.blt pc 121 then (bif Nat.beq pc 118 then some (.invokestatic 85) else none) else (bif Nat.beq pc 121 then some (.iastore) else none)))))) else (bif Nat.blt pc 142 then (bif Nat.blt pc 130 then (bif Nat.blt pc 127 then (bif Nat.blt pc 123 then (bif Nat.beq pc 122 then some (.aload_n 0) else none) else (bif Nat.blt pc 126 then (bif Nat.beq pc 123 then some (.getfield 60) else none) else (bif Nat.beq pc 126 then some (.iload_n 3) else none))) else (bif Nat.blt pc 128 then (bif Nat.beq pc 127 then some (.dup2) else none) else (bif Nat.blt pc 129 then (bif Nat.beq pc 128 then some (.iaload) else none) else (bif Nat.beq pc 129 then some (.aload_n 0) else none)))) else (bif Nat.blt pc 136 then (bif Nat.blt pc 133 then (bif Nat.beq pc 130 then some (.getfield 60) else none) else (bif Nat.blt pc 135 then (bif Nat.beq pc 133 then some (.iload 4) else none) else (bif Nat.beq pc 135 then some (.iaload) else none))) else (bif Nat.blt pc 138 then (bif Nat.blt pc 137 then (bif Nat.beq pc 136 then some (.iadd) else none) else (bif Nat.beq pc 137 then some (.iastore) else none)) else (bif Nat.blt pc 139 then (bif Nat.beq pc 138 then some (.aload_n 0) else none) else (bif Nat.beq pc 139 then some (.getfield 60) else none))))) else (bif Nat.blt pc 153 then (bif Nat.blt pc 147 then (bif Nat.blt pc 143 then (bif Nat.beq pc 142 then some (.iload_n 2) else none) else (bif Nat.blt pc 144 then (bif Nat.beq pc 143 then some (.aload_n 0) else none) else (bif Nat.beq pc 144 then some (.getfield 60) else none))) else (bif Nat.blt pc 149 then (bif Nat.blt pc 148 then (bif Nat.beq pc 147 then some (.iload_n 2) else none) else (bif Nat.beq pc 148 then some (.iaload) else none)) else (bif Nat.blt pc 150 then (bif Nat.beq pc 149 then some (.aload_n 0) else none) else (bif Nat.beq pc 150 then some (.getfield 60) else none)))) else (bif Nat.blt pc 156 then (bif Nat.blt pc 154 then (bif Nat.beq pc 153 then some (.iload_n 3) else none) else (bif Nat.blt pc 155 then (bif Nat.beq pc 154 then some (.iaload) else none) else (bif Nat.beq pc 155 then some (.ixor) else none))) else (bif Nat.blt pc 161 then (bif Nat.blt pc 158 then (bif Nat.beq pc 156 then some (.bipush 7) else none) else (bif Nat.beq pc 158 then some (.invokestatic 85) else none)) else (bif Nat.blt pc 162 then (bif Nat.beq pc 161 then some (.iastore) else none) else (bif Nat.beq pc 162 then some (.return_) else none)))))))
def q_x83 : Nat → Option Instr := q_g 163 q_t83
def q_y83 : MethodName := ⟨"RatchetPostModel", "turn", "(IIII)V"⟩
def q_m83 : q_MI := (q_y83, prog_10_method_6_code, 5, none, 8, 0, false, q_x83)
def q_t84 (pc : Nat) : Option Instr := bif Nat.blt pc 131 then (bif Nat.blt pc 60 then (bif Nat.blt pc 29 then (bif Nat.blt pc 15 then (bif Nat.blt pc 7 then (bif Nat.blt pc 4 then (bif Nat.blt pc 1 then (bif Nat.beq pc 0 then some (.aload_n 0) else none) else (bif Nat.beq pc 1 then some (.getfield 60) else none)) else (bif Nat.blt pc 5 then (bif Nat.beq pc 4 then some (.iconst 0) else none) else (bif Nat.beq pc 5 then some (.ldc 88) else none))) else (bif Nat.blt pc 9 then (bif Nat.blt pc 8 then (bif Nat.beq pc 7 then some (.iastore) else none) else (bif Nat.beq pc 8 then some (.aload_n 0) else none)) else (bif Nat.blt pc 12 then (bif Nat.beq pc 9 then some (.getfield 60) else none) else (bif Nat.blt pc 13 then (bif Nat.beq pc 12 then some (.iconst 1) else none) else (bif Nat.beq pc 13 then some (.ldc 89) else none))))) else (bif Nat.blt pc 21 then (bif Nat.blt pc 17 then (bif Nat.blt pc 16 then (bif Nat.beq pc 15 then some (.iastore) else none) else (bif Nat.beq pc 16 then some (.aload_n 0) else none)) else (bif Nat.blt pc 20 then (bif Nat.beq pc 17 then some (.getfield 60) else none) else (bif Nat.beq pc 20 then some (.iconst 2) else none))) else (bif Nat.blt pc 24 then (bif Nat.blt pc 23 then (bif Nat.beq pc 21 then some (.ldc 90) else none) else (bif Nat.beq pc 23 then some (.iastore) else none)) else (bif Nat.blt pc 25 then (bif Nat.beq pc 24 then some (.aload_n 0) else none) else (bif Nat.blt pc 28 then (bif Nat.beq pc 25 then some (.getfield 60) else none) else (bif Nat.beq pc 28 then some (.iconst 3) else none)))))) else (bif Nat.blt pc 46 then (bif Nat.blt pc 35 then (bif Nat.blt pc 32 then (bif Nat.blt pc 31 then (bif Nat.beq pc 29 then some (.ldc 91) else none) else (bif Nat.beq pc 31 then some (.iastore) else none)) else (bif Nat.blt pc 33 then (bif Nat.beq pc 32 then some (.iconst 0) else none) else (bif Nat.beq pc 33 then some (.istore 7) else none))) else (bif Nat.blt pc 39 then (bif Nat.blt pc 37 then (bif Nat.beq pc 35 then some (.iload 7) else none) else (bif Nat.beq pc 37 then some (.bipush 8) else none)) else (bif Nat.blt pc 42 then (bif Nat.beq pc 39 then some (.if_icmp .ge 24) else none) else (bif Nat.blt pc 43 then (bif Nat.beq pc 42 then some (.aload_n 0) else none) else (bif Nat.beq pc 43 then some (.getfield 60) else none))))) else (bif Nat.blt pc 52 then (bif Nat.blt pc 49 then (bif Nat.blt pc 47 then (bif Nat.beq pc 46 then some (.iconst 4) else none) else (bif Nat.beq pc 47 then some (.iload 7) else none)) else (bif Nat.blt pc 50 then (bif Nat.beq pc 49 then some (.iadd) else none) else (bif Nat.blt pc 51 then (bif Nat.beq pc 50 then some (.aload_n 1) else none) else (bif Nat.beq pc 51 then some (.iload_n 2) else none)))) else (bif Nat.blt pc 55 then (bif Nat.blt pc 54 then (bif Nat.beq pc 52 then some (.iload 7) else none) else (bif Nat.beq pc 54 then some (.iadd) else none)) else (bif Nat.blt pc 56 then (bif Nat.beq pc 55 then some (.iaload) else none) else (bif Nat.blt pc 57 then (bif Nat.beq pc 56 then some (.iastore) else none) else (bif Nat.beq pc 57 then some (.iinc 7 1) else none))))))) else (bif Nat.blt pc 95 then (bif Nat.blt pc 77 then (bif Nat.blt pc 69 then (bif Nat.blt pc 64 then (bif Nat.blt pc 63 then (bif Nat.beq pc 60 then some (.goto (-25)) else none) else (bif Nat.beq pc 63 then some (.aload_n 0) else none)) else (bif Nat.blt pc 67 then (bif Nat.beq pc 64 then some (.getfield 60) else none) else (bif Nat.beq pc 67 then some (.bipush 12) else none))) else (bif Nat.blt pc 71 then (bif Nat.blt pc 70 then (bif Nat.beq pc 69 then some (.iload_n 3) else none) else (bif Nat.beq pc 70 then some (.iastore) else none)) else (bif Nat.blt pc 72 then (bif Nat.beq pc 71 then some (.aload_n 0) else none) else (bif Nat.blt pc 75 then (bif Nat.beq pc 72 then some (.getfield 60) else none) else (bif Nat.beq pc 75 then some (.bipush 13) else none))))) else (bif Nat.blt pc 86 then (bif Nat.blt pc 80 then (bif Nat.blt pc 79 then (bif Nat.beq pc 77 then some (.iload 4) else none) else (bif Nat.beq pc 79 then some (.iastore) else none)) else (bif Nat.blt pc 81 then (bif Nat.beq pc 80 then some (.aload_n 0) else none) else (bif Nat.blt pc 84 then (bif Nat.beq pc 81 then some (.getfield 60) else none) else (bif Nat.beq pc 84 then some (.bipush 14) else none)))) else (bif Nat.blt pc 89 then (bif Nat.blt pc 88 then (bif Nat.beq pc 86 then some (.iload 5) else none) else (bif Nat.beq pc 88 then some (.iastore) else none)) else (bif Nat.blt pc 90 then (bif Nat.beq pc 89 then some (.aload_n 0) else none) else (bif Nat.blt pc 93 then (bif Nat.beq pc 90 then some (.getfield 60) else none) else (bif Nat.beq pc 93 then some (.bipush 15) else none)))))) else (bif Nat.blt pc 112 then (bif Nat.blt pc 101 then (bif Nat.blt pc 98 then (bif Nat.blt pc 97 then (bif Nat.beq pc 95 then some (.iload 6) else none) else (bif Nat.beq pc 97 then some (.iastore) else none)) else (bif Nat.blt pc 99 then (bif Nat.beq pc 98 then some (.iconst 0) else none) else (bif Nat.beq pc 99 then some (.istore 7) else none))) else (bif Nat.blt pc 105 then (bif Nat.blt pc 103 then (bif Nat.beq pc 101 then some (.iload 7) else none) else (bif Nat.beq pc 103 then some (.bipush 16) else none)) else (bif Nat.blt pc 108 then (bif Nat.beq pc 105 then some (.if_icmp .ge 23) else none) else (bif Nat.blt pc 109 then (bif Nat.beq pc 108 then some (.aload_n 0) else none) else (bif Nat.beq pc 109 then some (.getfield 63) else none))))) else (bif Nat.blt pc 121 then (bif Nat.blt pc 115 then (bif Nat.blt pc 114 then (bif Nat.beq pc 112 then some (.iload 7) else none) else (bif Nat.beq pc 114 then some (.aload_n 0) else none)) else (bif Nat.blt pc 118 then (bif Nat.beq pc 115 then some (.getfield 60) else none) else (bif Nat.blt pc 120 then (bif Nat.beq pc 118 then some (.iload 7) else none) else (bif Nat.beq pc 120 then some (.iaload) else none)))) else (bif Nat.blt pc 125 then (bif Nat.blt pc 122 then (bif Nat.beq pc 121 then some (.iastore) else none) else (bif Nat.beq pc 122 then some (.iinc 7 1) else none)) else (bif Nat.blt pc 128 then (bif Nat.beq pc 125 then some (.goto (-24)) else none) else (bif Nat.blt pc 129 then (bif Nat.beq pc 128 then some (.iconst 0) else none) else (bif Nat.beq pc 129 then some (.istore 7) else none)))))))) else (bif Nat.blt pc 197 then (bif Nat.blt pc 164 then (bif Nat.blt pc 148 then (bif Nat.blt pc 139 then (bif Nat.blt pc 135 then (bif Nat.blt pc 133 then (bif Nat.beq pc 131 then some (.iload 7) else none) else (bif Nat.beq pc 133 then some (.bipush 10) else none)) else (bif Nat.blt pc 138 then (bif Nat.beq pc 135 then some (.if_icmp .ge 91) else none) else (bif Nat.beq pc 138 then some (.iconst 0) else none))) else (bif Nat.blt pc 143 then (bif Nat.blt pc 141 then (bif Nat.beq pc 139 then some (.istore 8) else none) else (bif Nat.beq pc 141 then some (.iload 8) else none)) else (bif Nat.blt pc 144 then (bif Nat.beq pc 143 then some (.iconst 4) else none) else (bif Nat.blt pc 147 then (bif Nat.beq pc 144 then some (.if_icmp .ge 29) else none) else (bif Nat.beq pc 147 then some (.aload_n 0) else none))))) else (bif Nat.blt pc 156 then (bif Nat.blt pc 151 then (bif Nat.blt pc 150 then (bif Nat.beq pc 148 then some (.iload 8) else none) else (bif Nat.beq pc 150 then some (.iconst 4) else none)) else (bif Nat.blt pc 153 then (bif Nat.beq pc 151 then some (.iload 8) else none) else (bif Nat.blt pc 154 then (bif Nat.beq pc 153 then some (.iadd) else none) else (bif Nat.beq pc 154 then some (.bipush 8) else none)))) else (bif Nat.blt pc 159 then (bif Nat.blt pc 158 then (bif Nat.beq pc 156 then some (.iload 8) else none) else (bif Nat.beq pc 158 then some (.iadd) else none)) else (bif Nat.blt pc 161 then (bif Nat.beq pc 159 then some (.bipush 12) else none) else (bif Nat.blt pc 163 then (bif Nat.beq pc 161 then some (.iload 8) else none) else (bif Nat.beq pc 163 then some (.iadd) else none)))))) else (bif Nat.blt pc 183 then (bif Nat.blt pc 174 then (bif Nat.blt pc 170 then (bif Nat.blt pc 167 then (bif Nat.beq pc 164 then some (.invokevirtual 92) else none) else (bif Nat.beq pc 167 then some (.iinc 8 1) else none)) else (bif Nat.blt pc 173 then (bif Nat.beq pc 170 then some (.goto (-29)) else none) else (bif Nat.beq pc 173 then some (.iconst 0) else none))) else (bif Nat.blt pc 178 then (bif Nat.blt pc 176 then (bif Nat.beq pc 174 then some (.istore 8) else none) else (bif Nat.beq pc 176 then some (.iload 8) else none)) else (bif Nat.blt pc 179 then (bif Nat.beq pc 178 then some (.iconst 4) else none) else (bif Nat.blt pc 182 then (bif Nat.beq pc 179 then some (.if_icmp .ge 41) else none) else (bif Nat.beq pc 182 then some (.aload_n 0) else none))))) else (bif Nat.blt pc 190 then (bif Nat.blt pc 186 then (bif Nat.blt pc 185 then (bif Nat.beq pc 183 then some (.iload 8) else none) else (bif Nat.beq pc 185 then some (.iconst 4) else none)) else (bif Nat.blt pc 188 then (bif Nat.beq pc 186 then some (.iload 8) else none) else (bif Nat.blt pc 189 then (bif Nat.beq pc 188 then some (.iconst 1) else none) else (bif Nat.beq pc 189 then some (.iadd) else none)))) else (bif Nat.blt pc 192 then (bif Nat.blt pc 191 then (bif Nat.beq pc 190 then some (.iconst 4) else none) else (bif Nat.beq pc 191 then some (.irem) else none)) else (bif Nat.blt pc 193 then (bif Nat.beq pc 192 then some (.iadd) else none) else (bif Nat.blt pc 195 then (bif Nat.beq pc 193 then some (.bipush 8) else none) else (bif Nat.beq pc 195 then some (.iload 8) else none))))))) else (bif Nat.blt pc 229 then (bif Nat.blt pc 208 then (bif Nat.blt pc 201 then (bif Nat.blt pc 199 then (bif Nat.blt pc 198 then (bif Nat.beq pc 197 then some (.iconst 2) else none) else (bif Nat.beq pc 198 then some (.iadd) else none)) else (bif Nat.blt pc 200 then (bif Nat.beq pc 199 then some (.iconst 4) else none) else (bif Nat.beq pc 200 then some (.irem) else none))) else (bif Nat.blt pc 204 then (bif Nat.blt pc 202 then (bif Nat.beq pc 201 then some (.iadd) else none) else (bif Nat.beq pc 202 then some (.bipush 12) else none)) else (bif Nat.blt pc 206 then (bif Nat.beq pc 204 then some (.iload 8) else none) else (bif Nat.blt pc 207 then (bif Nat.beq pc 206 then some (.iconst 3) else none) else (bif Nat.beq pc 207 then some (.iadd) else none))))) else (bif Nat.blt pc 217 then (bif Nat.blt pc 210 then (bif Nat.blt pc 209 then (bif Nat.beq pc 208 then some (.iconst 4) else none) else (bif Nat.beq pc 209 then some (.irem) else none)) else (bif Nat.blt pc 211 then (bif Nat.beq pc 210 then some (.iadd) else none) else (bif Nat.blt pc 214 then (bif Nat.beq pc 211 then some (.invokevirtual 92) else none) else (bif Nat.beq pc 214 then some (.iinc 8 1) else none)))) else (bif Nat.blt pc 223 then (bif Nat.blt pc 220 then (bif Nat.beq pc 217 then some (.goto (-41)) else none) else (bif Nat.beq pc 220 then some (.iinc 7 1) else none)) else (bif Nat.blt pc 226 then (bif Nat.beq pc 223 then some (.goto (-92)) else none) else (bif Nat.blt pc 227 then (bif Nat.beq pc 226 then some (.iconst 0) else none) else (bif Nat.beq pc 227 then some (.istore 7) else none)))))) else (bif Nat.blt pc 248 then (bif Nat.blt pc 237 then (bif Nat.blt pc 233 then (bif Nat.blt pc 231 then (bif Nat.beq pc 229 then some (.iload 7) else none) else (bif Nat.beq pc 231 then some (.bipush 8) else none)) else (bif Nat.blt pc 236 then (bif Nat.beq pc 233 then some (.if_icmp .ge 31) else none) else (bif Nat.beq pc 236 then some (.aload_n 0) else none))) else (bif Nat.blt pc 242 then (bif Nat.blt pc 240 then (bif Nat.beq pc 237 then some (.getfield 66) else none) else (bif Nat.beq pc 240 then some (.iload 7) else none)) else (bif Nat.blt pc 243 then (bif Nat.beq pc 242 then some (.aload_n 0) else none) else (bif Nat.blt pc 246 then (bif Nat.beq pc 243 then some (.getfield 60) else none) else (bif Nat.beq pc 246 then some (.iload 7) else none))))) else (bif Nat.blt pc 256 then (bif Nat.blt pc 250 then (bif Nat.blt pc 249 then (bif Nat.beq pc 248 then some (.iaload) else none) else (bif Nat.beq pc 249 then some (.aload_n 0) else none)) else (bif Nat.blt pc 253 then (bif Nat.beq pc 250 then some (.getfield 63) else none) else (bif Nat.blt pc 255 then (bif Nat.beq pc 253 then some (.iload 7) else none) else (bif Nat.beq pc 255 then some (.iaload) else none)))) else (bif Nat.blt pc 258 then (bif Nat.blt pc 257 then (bif Nat.beq pc 256 then some (.iadd) else none) else (bif Nat.beq pc 257 then some (.iastore) else none)) else (bif Nat.blt pc 261 then (bif Nat.beq pc 258 then some (.iinc 7 1) else none) else (bif Nat.blt pc 264 then (bif Nat.beq pc 261 then some (.goto (-32)) else none) else (bif Nat.beq pc 264 then some (.return_) else none))))))))
def q_x84 : Nat → Option Instr := q_g 265 q_t84
def q_y84 : MethodName := ⟨"RatchetPostModel", "mixed", "([IIIIII)V"⟩
def q_m84 : q_MI := (q_y84, prog_10_method_7_code, 9, none, 8, 0, false, q_x84)
def q_t85 (pc : Nat) : Option Instr := bif Nat.blt pc 11 then (bif Nat.blt pc 5 then (bif Nat.blt pc 2 then (bif Nat.blt pc 1 then (bif Nat.beq pc 0 then some (.iconst 0) else none) else (bif Nat.beq pc 1 then some (.istore_n 3) else none)) else (bif Nat.blt pc 3 then (bif Nat.beq pc 2 then some (.iload_n 3) else none) else (bif Nat.beq pc 3 then some (.bipush 8) else none))) else (bif Nat.blt pc 9 then (bif Nat.blt pc 8 then (bif Nat.beq pc 5 then some (.if_icmp .ge 20) else none) else (bif Nat.beq pc 8 then some (.aload_n 1) else none)) else (bif Nat.blt pc 10 then (bif Nat.beq pc 9 then some (.iload_n 2) else none) else (bif Nat.beq pc 10 then some (.iload_n 3) else none)))) else (bif Nat.blt pc 17 then (bif Nat.blt pc 13 then (bif Nat.blt pc 12 then (bif Nat.beq pc 11 then some (.iadd) else none) else (bif Nat.beq pc 12 then some (.aload_n 0) else none)) else (bif Nat.blt pc 16 then (bif Nat.beq pc 13 then some (.getfield 66) else none) else (bif Nat.beq pc 16 then some (.iload_n 3) else none))) else (bif Nat.blt pc 19 then (bif Nat.blt pc 18 then (bif Nat.beq pc 17 then some (.iaload) else none) else (bif Nat.beq pc 18 then some (.iastore) else none)) else (bif Nat.blt pc 22 then (bif Nat.beq pc 19 then some (.iinc 3 1) else none) else (bif Nat.blt pc 25 then (bif Nat.beq pc 22 then some (.goto (-20)) else none) else (bif Nat.beq pc 25 then some (.return_) else none)))))
def q_x85 : Nat → Option Instr := q_g 26 q_t85
def q_y85 : MethodName := ⟨"RatchetPostModel", "store", "([II)V"⟩
def q_m85 : q_MI := (q_y85, prog_10_method_8_code, 4, none, 8, 0, false, q_x85)
def q_t86 (pc : Nat) : Option Instr := bif Nat.blt pc 30 then (bif Nat.blt pc 16 then (bif Nat.blt pc 7 then (bif Nat.blt pc 3 then (bif Nat.blt pc 1 then (bif Nat.beq pc 0 then some (.iconst 0) else none) else (bif Nat.beq pc 1 then some (.istore 5) else none)) else (bif Nat.blt pc 5 then (bif Nat.beq pc 3 then some (.iload 5) else none) else (bif Nat.beq pc 5 then some (.bipush 8) else none))) else (bif Nat.blt pc 11 then (bif Nat.blt pc 10 then (bif Nat.beq pc 7 then some (.if_icmp .ge 17) else none) else (bif Nat.beq pc 10 then some (.aload_n 0) else none)) else (bif Nat.blt pc 14 then (bif Nat.beq pc 11 then some (.getfield 69) else none) else (bif Nat.beq pc 14 then some (.iload 5) else none)))) else (bif Nat.blt pc 24 then (bif Nat.blt pc 18 then (bif Nat.blt pc 17 then (bif Nat.beq pc 16 then some (.iconst 0) else none) else (bif Nat.beq pc 17 then some (.iastore) else none)) else (bif Nat.blt pc 21 then (bif Nat.beq pc 18 then some (.iinc 5 1) else none) else (bif Nat.beq pc 21 then some (.goto (-18)) else none))) else (bif Nat.blt pc 28 then (bif Nat.blt pc 25 then (bif Nat.beq pc 24 then some (.aload_n 0) else none) else (bif Nat.beq pc 25 then some (.getfield 69) else none)) else (bif Nat.blt pc 29 then (bif Nat.beq pc 28 then some (.iconst 0) else none) else (bif Nat.beq pc 29 then some (.iload_n 1) else none))))) else (bif Nat.blt pc 42 then (bif Nat.blt pc 36 then (bif Nat.blt pc 32 then (bif Nat.blt pc 31 then (bif Nat.beq pc 30 then some (.iastore) else none) else (bif Nat.beq pc 31 then some (.aload_n 0) else none)) else (bif Nat.blt pc 35 then (bif Nat.beq pc 32 then some (.getfield 69) else none) else (bif Nat.beq pc 35 then some (.iconst 1) else none))) else (bif Nat.blt pc 38 then (bif Nat.blt pc 37 then (bif Nat.beq pc 36 then some (.iload_n 2) else none) else (bif Nat.beq pc 37 then some (.iastore) else none)) else (bif Nat.blt pc 39 then (bif Nat.beq pc 38 then some (.aload_n 0) else none) else (bif Nat.beq pc 39 then some (.getfield 69) else none)))) else (bif Nat.blt pc 46 then (bif Nat.blt pc 44 then (bif Nat.blt pc 43 then (bif Nat.beq pc 42 then some (.iconst 2) else none) else (bif Nat.beq pc 43 then some (.iload_n 3) else none)) else (bif Nat.blt pc 45 then (bif Nat.beq pc 44 then some (.iastore) else none) else (bif Nat.beq pc 45 then some (.aload_n 0) else none))) else (bif Nat.blt pc 50 then (bif Nat.blt pc 49 then (bif Nat.beq pc 46 then some (.getfield 69) else none) else (bif Nat.beq pc 49 then some (.iconst 3) else none)) else (bif Nat.blt pc 52 then (bif Nat.beq pc 50 then some (.iload 4) else none) else (bif Nat.blt pc 53 then (bif Nat.beq pc 52 then some (.iastore) else none) else (bif Nat.beq pc 53 then some (.return_) else none))))))
def q_x86 : Nat → Option Instr := q_g 54 q_t86
def q_y86 : MethodName := ⟨"RatchetPostModel", "fill", "(IIII)V"⟩
def q_m86 : q_MI := (q_y86, prog_10_method_9_code, 6, none, 8, 0, false, q_x86)
def q_t87 (pc : Nat) : Option Instr := bif Nat.blt pc 6 then (bif Nat.blt pc 2 then (bif Nat.blt pc 1 then (bif Nat.beq pc 0 then some (.iload_n 0) else none) else (bif Nat.beq pc 1 then some (.i2l) else none)) else (bif Nat.blt pc 4 then (bif Nat.beq pc 2 then some (.bipush 32) else none) else (bif Nat.blt pc 5 then (bif Nat.beq pc 4 then some (.lshl) else none) else (bif Nat.beq pc 5 then some (.iload_n 1) else none)))) else (bif Nat.blt pc 10 then (bif Nat.blt pc 7 then (bif Nat.beq pc 6 then some (.i2l) else none) else (bif Nat.beq pc 7 then some (.ldc2_w 96) else none)) else (bif Nat.blt pc 11 then (bif Nat.beq pc 10 then some (.land) else none) else (bif Nat.blt pc 12 then (bif Nat.beq pc 11 then some (.lor) else none) else (bif Nat.beq pc 12 then some (.lreturn) else none))))
def q_x87 : Nat → Option Instr := q_g 13 q_t87
def q_y87 : MethodName := ⟨"RatchetPostModel", "joined", "(II)J"⟩
def q_m87 : q_MI := (q_y87, prog_10_method_10_code, 2, (some .long), 8, 3, false, q_x87)
def q_t88 (pc : Nat) : Option Instr := bif Nat.blt pc 7 then (bif Nat.blt pc 4 then (bif Nat.blt pc 1 then (bif Nat.beq pc 0 then some (.aload_n 0) else none) else (bif Nat.beq pc 1 then some (.getfield 66) else none)) else (bif Nat.blt pc 5 then (bif Nat.beq pc 4 then some (.iconst 0) else none) else (bif Nat.blt pc 6 then (bif Nat.beq pc 5 then some (.iaload) else none) else (bif Nat.beq pc 6 then some (.aload_n 0) else none)))) else (bif Nat.blt pc 11 then (bif Nat.blt pc 10 then (bif Nat.beq pc 7 then some (.getfield 66) else none) else (bif Nat.beq pc 10 then some (.iconst 1) else none)) else (bif Nat.blt pc 12 then (bif Nat.beq pc 11 then some (.iaload) else none) else (bif Nat.blt pc 15 then (bif Nat.beq pc 12 then some (.invokestatic 98) else none) else (bif Nat.beq pc 15 then some (.lreturn) else none))))
def q_x88 : Nat → Option Instr := q_g 16 q_t88
def q_y88 : MethodName := ⟨"RatchetPostModel", "longOf", "()J"⟩
def q_m88 : q_MI := (q_y88, prog_10_method_11_code, 1, (some .long), 8, 3, false, q_x88)
def q_t89 (pc : Nat) : Option Instr := bif Nat.blt pc 36 then (bif Nat.blt pc 19 then (bif Nat.blt pc 10 then (bif Nat.blt pc 3 then (bif Nat.blt pc 1 then (bif Nat.beq pc 0 then some (.iconst 2) else none) else (bif Nat.beq pc 1 then some (.istore 5) else none)) else (bif Nat.blt pc 5 then (bif Nat.beq pc 3 then some (.iload 5) else none) else (bif Nat.blt pc 7 then (bif Nat.beq pc 5 then some (.bipush 8) else none) else (bif Nat.beq pc 7 then some (.if_icmp .ge 20) else none)))) else (bif Nat.blt pc 14 then (bif Nat.blt pc 11 then (bif Nat.beq pc 10 then some (.aload_n 0) else none) else (bif Nat.beq pc 11 then some (.getfield 69) else none)) else (bif Nat.blt pc 16 then (bif Nat.beq pc 14 then some (.iload 5) else none) else (bif Nat.blt pc 18 then (bif Nat.beq pc 16 then some (.iload 5) else none) else (bif Nat.beq pc 18 then some (.iconst 1) else none))))) else (bif Nat.blt pc 28 then (bif Nat.blt pc 21 then (bif Nat.blt pc 20 then (bif Nat.beq pc 19 then some (.isub) else none) else (bif Nat.beq pc 20 then some (.iastore) else none)) else (bif Nat.blt pc 24 then (bif Nat.beq pc 21 then some (.iinc 5 1) else none) else (bif Nat.blt pc 27 then (bif Nat.beq pc 24 then some (.goto (-21)) else none) else (bif Nat.beq pc 27 then some (.aload_n 0) else none)))) else (bif Nat.blt pc 32 then (bif Nat.blt pc 31 then (bif Nat.beq pc 28 then some (.getfield 69) else none) else (bif Nat.beq pc 31 then some (.iconst 0) else none)) else (bif Nat.blt pc 33 then (bif Nat.beq pc 32 then some (.lload_n 1) else none) else (bif Nat.blt pc 35 then (bif Nat.beq pc 33 then some (.bipush 32) else none) else (bif Nat.beq pc 35 then some (.lshr) else none)))))) else (bif Nat.blt pc 48 then (bif Nat.blt pc 43 then (bif Nat.blt pc 38 then (bif Nat.blt pc 37 then (bif Nat.beq pc 36 then some (.l2i) else none) else (bif Nat.beq pc 37 then some (.iastore) else none)) else (bif Nat.blt pc 39 then (bif Nat.beq pc 38 then some (.aload_n 0) else none) else (bif Nat.blt pc 42 then (bif Nat.beq pc 39 then some (.getfield 69) else none) else (bif Nat.beq pc 42 then some (.iconst 1) else none)))) else (bif Nat.blt pc 45 then (bif Nat.blt pc 44 then (bif Nat.beq pc 43 then some (.lload_n 1) else none) else (bif Nat.beq pc 44 then some (.l2i) else none)) else (bif Nat.blt pc 46 then (bif Nat.beq pc 45 then some (.iastore) else none) else (bif Nat.blt pc 47 then (bif Nat.beq pc 46 then some (.aload_n 0) else none) else (bif Nat.beq pc 47 then some (.aload_n 0) else none))))) else (bif Nat.blt pc 56 then (bif Nat.blt pc 52 then (bif Nat.blt pc 51 then (bif Nat.beq pc 48 then some (.getfield 69) else none) else (bif Nat.beq pc 51 then some (.iconst 0) else none)) else (bif Nat.blt pc 53 then (bif Nat.beq pc 52 then some (.iload_n 3) else none) else (bif Nat.blt pc 55 then (bif Nat.beq pc 53 then some (.iload 4) else none) else (bif Nat.beq pc 55 then some (.iconst 0) else none)))) else (bif Nat.blt pc 60 then (bif Nat.blt pc 57 then (bif Nat.beq pc 56 then some (.iconst 0) else none) else (bif Nat.beq pc 57 then some (.invokevirtual 102) else none)) else (bif Nat.blt pc 61 then (bif Nat.beq pc 60 then some (.aload_n 0) else none) else (bif Nat.blt pc 64 then (bif Nat.beq pc 61 then some (.invokevirtual 105) else none) else (bif Nat.beq pc 64 then some (.lreturn) else none))))))
def q_x89 : Nat → Option Instr := q_g 65 q_t89
def q_y89 : MethodName := ⟨"RatchetPostModel", "mix", "(JII)J"⟩
def q_m89 : q_MI := (q_y89, prog_10_method_12_code, 6, (some .long), 8, 3, false, q_x89)
def q_t90 (pc : Nat) : Option Instr := bif Nat.blt pc 13 then (bif Nat.blt pc 5 then (bif Nat.blt pc 1 then (bif Nat.beq pc 0 then some (.iload_n 1) else none) else (bif Nat.blt pc 4 then (bif Nat.beq pc 1 then some (.ifCond .lt 21) else none) else (bif Nat.beq pc 4 then some (.iload_n 1) else none))) else (bif Nat.blt pc 9 then (bif Nat.blt pc 6 then (bif Nat.beq pc 5 then some (.iconst 3) else none) else (bif Nat.beq pc 6 then some (.if_icmp .gt 16) else none)) else (bif Nat.blt pc 10 then (bif Nat.beq pc 9 then some (.aload_n 0) else none) else (bif Nat.beq pc 10 then some (.getfield 7) else none)))) else (bif Nat.blt pc 18 then (bif Nat.blt pc 14 then (bif Nat.beq pc 13 then some (.iload_n 1) else none) else (bif Nat.blt pc 15 then (bif Nat.beq pc 14 then some (.baload) else none) else (bif Nat.beq pc 15 then some (.ifCond .eq 7) else none))) else (bif Nat.blt pc 22 then (bif Nat.blt pc 19 then (bif Nat.beq pc 18 then some (.iconst 1) else none) else (bif Nat.beq pc 19 then some (.goto 4) else none)) else (bif Nat.blt pc 23 then (bif Nat.beq pc 22 then some (.iconst 0) else none) else (bif Nat.beq pc 23 then some (.ireturn) else none))))
def q_x90 : Nat → Option Instr := q_g 24 q_t90
def q_y90 : MethodName := ⟨"RatchetPostModel", "known", "(I)Z"⟩
def q_m90 : q_MI := (q_y90, prog_10_method_13_code, 2, (some .boolean), 8, 2, false, q_x90)
def q_t91 (pc : Nat) : Option Instr := bif Nat.blt pc 13 then (bif Nat.blt pc 5 then (bif Nat.blt pc 1 then (bif Nat.beq pc 0 then some (.aload_n 0) else none) else (bif Nat.blt pc 2 then (bif Nat.beq pc 1 then some (.iload_n 1) else none) else (bif Nat.beq pc 2 then some (.invokevirtual 109) else none))) else (bif Nat.blt pc 9 then (bif Nat.blt pc 8 then (bif Nat.beq pc 5 then some (.ifCond .eq 20) else none) else (bif Nat.beq pc 8 then some (.aload_n 0) else none)) else (bif Nat.blt pc 10 then (bif Nat.beq pc 9 then some (.iload_n 2) else none) else (bif Nat.beq pc 10 then some (.invokevirtual 109) else none)))) else (bif Nat.blt pc 21 then (bif Nat.blt pc 17 then (bif Nat.blt pc 16 then (bif Nat.beq pc 13 then some (.ifCond .eq 12) else none) else (bif Nat.beq pc 16 then some (.iload_n 1) else none)) else (bif Nat.blt pc 18 then (bif Nat.beq pc 17 then some (.iload_n 2) else none) else (bif Nat.beq pc 18 then some (.if_icmp .eq 7) else none))) else (bif Nat.blt pc 25 then (bif Nat.blt pc 22 then (bif Nat.beq pc 21 then some (.iconst 1) else none) else (bif Nat.beq pc 22 then some (.goto 4) else none)) else (bif Nat.blt pc 26 then (bif Nat.beq pc 25 then some (.iconst 0) else none) else (bif Nat.beq pc 26 then some (.ireturn) else none))))
def q_x91 : Nat → Option Instr := q_g 27 q_t91
def q_y91 : MethodName := ⟨"RatchetPostModel", "pair", "(II)Z"⟩
def q_m91 : q_MI := (q_y91, prog_10_method_14_code, 3, (some .boolean), 8, 2, false, q_x91)
def q_t92 (pc : Nat) : Option Instr := bif Nat.blt pc 35 then (bif Nat.blt pc 16 then (bif Nat.blt pc 8 then (bif Nat.blt pc 5 then (bif Nat.blt pc 1 then (bif Nat.beq pc 0 then some (.aload_n 0) else none) else (bif Nat.blt pc 4 then (bif Nat.beq pc 1 then some (.getfield 20) else none) else (bif Nat.beq pc 4 then some (.iload_n 1) else none))) else (bif Nat.blt pc 6 then (bif Nat.beq pc 5 then some (.dup2) else none) else (bif Nat.blt pc 7 then (bif Nat.beq pc 6 then some (.iaload) else none) else (bif Nat.beq pc 7 then some (.iconst 1) else none)))) else (bif Nat.blt pc 11 then (bif Nat.blt pc 9 then (bif Nat.beq pc 8 then some (.iadd) else none) else (bif Nat.blt pc 10 then (bif Nat.beq pc 9 then some (.iastore) else none) else (bif Nat.beq pc 10 then some (.aload_n 0) else none))) else (bif Nat.blt pc 12 then (bif Nat.beq pc 11 then some (.aload_n 0) else none) else (bif Nat.blt pc 15 then (bif Nat.beq pc 12 then some (.getfield 13) else none) else (bif Nat.beq pc 15 then some (.iload_n 1) else none))))) else (bif Nat.blt pc 24 then (bif Nat.blt pc 21 then (bif Nat.blt pc 17 then (bif Nat.beq pc 16 then some (.iaload) else none) else (bif Nat.blt pc 18 then (bif Nat.beq pc 17 then some (.aload_n 0) else none) else (bif Nat.beq pc 18 then some (.getfield 17) else none))) else (bif Nat.blt pc 22 then (bif Nat.beq pc 21 then some (.iload_n 1) else none) else (bif Nat.blt pc 23 then (bif Nat.beq pc 22 then some (.iaload) else none) else (bif Nat.beq pc 23 then some (.iload_n 1) else none)))) else (bif Nat.blt pc 29 then (bif Nat.blt pc 25 then (bif Nat.beq pc 24 then some (.iconst 0) else none) else (bif Nat.blt pc 28 then (bif Nat.beq pc 25 then some (.invokevirtual 113) else none) else (bif Nat.beq pc 28 then some (.aload_n 0) else none))) else (bif Nat.blt pc 33 then (bif Nat.blt pc 30 then (bif Nat.beq pc 29 then some (.aload_n 0) else none) else (bif Nat.beq pc 30 then some (.getfield 69) else none)) else (bif Nat.blt pc 34 then (bif Nat.beq pc 33 then some (.iconst 0) else none) else (bif Nat.beq pc 34 then some (.aload_n 0) else none)))))) else (bif Nat.blt pc 54 then (bif Nat.blt pc 43 then (bif Nat.blt pc 40 then (bif Nat.blt pc 38 then (bif Nat.beq pc 35 then some (.getfield 20) else none) else (bif Nat.blt pc 39 then (bif Nat.beq pc 38 then some (.iload_n 1) else none) else (bif Nat.beq pc 39 then some (.iaload) else none))) else (bif Nat.blt pc 41 then (bif Nat.beq pc 40 then some (.iconst 1) else none) else (bif Nat.blt pc 42 then (bif Nat.beq pc 41 then some (.iconst 0) else none) else (bif Nat.beq pc 42 then some (.iconst 0) else none)))) else (bif Nat.blt pc 48 then (bif Nat.blt pc 46 then (bif Nat.beq pc 43 then some (.invokevirtual 102) else none) else (bif Nat.blt pc 47 then (bif Nat.beq pc 46 then some (.aload_n 0) else none) else (bif Nat.beq pc 47 then some (.iconst 2) else none))) else (bif Nat.blt pc 52 then (bif Nat.blt pc 49 then (bif Nat.beq pc 48 then some (.aload_n 0) else none) else (bif Nat.beq pc 49 then some (.getfield 66) else none)) else (bif Nat.blt pc 53 then (bif Nat.beq pc 52 then some (.iconst 0) else none) else (bif Nat.beq pc 53 then some (.iaload) else none))))) else (bif Nat.blt pc 63 then (bif Nat.blt pc 58 then (bif Nat.blt pc 55 then (bif Nat.beq pc 54 then some (.iconst 1) else none) else (bif Nat.blt pc 56 then (bif Nat.beq pc 55 then some (.iushr) else none) else (bif Nat.beq pc 56 then some (.ldc 116) else none))) else (bif Nat.blt pc 59 then (bif Nat.beq pc 58 then some (.irem) else none) else (bif Nat.blt pc 60 then (bif Nat.beq pc 59 then some (.iadd) else none) else (bif Nat.beq pc 60 then some (.putfield 117) else none)))) else (bif Nat.blt pc 67 then (bif Nat.blt pc 64 then (bif Nat.beq pc 63 then some (.aload_n 0) else none) else (bif Nat.blt pc 66 then (bif Nat.beq pc 64 then some (.bipush 7) else none) else (bif Nat.beq pc 66 then some (.aload_n 0) else none))) else (bif Nat.blt pc 73 then (bif Nat.blt pc 70 then (bif Nat.beq pc 67 then some (.getfield 117) else none) else (bif Nat.beq pc 70 then some (.invokestatic 82) else none)) else (bif Nat.blt pc 76 then (bif Nat.beq pc 73 then some (.putfield 121) else none) else (bif Nat.beq pc 76 then some (.return_) else none))))))
def q_x92 : Nat → Option Instr := q_g 77 q_t92
def q_y92 : MethodName := ⟨"RatchetPostModel", "draw", "(I)V"⟩
def q_m92 : q_MI := (q_y92, prog_10_method_15_code, 2, none, 8, 0, false, q_x92)
def q_t93 (pc : Nat) : Option Instr := bif Nat.blt pc 15 then (bif Nat.blt pc 5 then (bif Nat.blt pc 2 then (bif Nat.blt pc 1 then (bif Nat.beq pc 0 then some (.aload_n 0) else none) else (bif Nat.beq pc 1 then some (.iconst 0) else none)) else (bif Nat.blt pc 3 then (bif Nat.beq pc 2 then some (.iconst 0) else none) else (bif Nat.blt pc 4 then (bif Nat.beq pc 3 then some (.iconst 0) else none) else (bif Nat.beq pc 4 then some (.iconst 0) else none)))) else (bif Nat.blt pc 10 then (bif Nat.blt pc 8 then (bif Nat.beq pc 5 then some (.invokevirtual 113) else none) else (bif Nat.blt pc 9 then (bif Nat.beq pc 8 then some (.aload_n 0) else none) else (bif Nat.beq pc 9 then some (.aload_n 0) else none))) else (bif Nat.blt pc 13 then (bif Nat.beq pc 10 then some (.getfield 69) else none) else (bif Nat.blt pc 14 then (bif Nat.beq pc 13 then some (.iconst 0) else none) else (bif Nat.beq pc 14 then some (.iload_n 1) else none))))) else (bif Nat.blt pc 22 then (bif Nat.blt pc 17 then (bif Nat.blt pc 16 then (bif Nat.beq pc 15 then some (.iload_n 2) else none) else (bif Nat.beq pc 16 then some (.iload_n 3) else none)) else (bif Nat.blt pc 18 then (bif Nat.beq pc 17 then some (.iconst 3) else none) else (bif Nat.blt pc 21 then (bif Nat.beq pc 18 then some (.invokevirtual 102) else none) else (bif Nat.beq pc 21 then some (.aload_n 0) else none)))) else (bif Nat.blt pc 27 then (bif Nat.blt pc 25 then (bif Nat.beq pc 22 then some (.getfield 66) else none) else (bif Nat.blt pc 26 then (bif Nat.beq pc 25 then some (.iconst 0) else none) else (bif Nat.beq pc 26 then some (.iaload) else none))) else (bif Nat.blt pc 28 then (bif Nat.beq pc 27 then some (.iconst 1) else none) else (bif Nat.blt pc 29 then (bif Nat.beq pc 28 then some (.iushr) else none) else (bif Nat.beq pc 29 then some (.ireturn) else none)))))
def q_x93 : Nat → Option Instr := q_g 30 q_t93
def q_y93 : MethodName := ⟨"RatchetPostModel", "hash", "(III)I"⟩
def q_m93 : q_MI := (q_y93, prog_10_method_16_code, 4, (some .int), 8, 1, false, q_x93)
def q_t94 (pc : Nat) : Option Instr := bif Nat.blt pc 79 then (bif Nat.blt pc 41 then (bif Nat.blt pc 21 then (bif Nat.blt pc 10 then (bif Nat.blt pc 5 then (bif Nat.blt pc 1 then (bif Nat.beq pc 0 then some (.aload_n 0) else none) else (bif Nat.blt pc 2 then (bif Nat.beq pc 1 then some (.iload_n 1) else none) else (bif Nat.beq pc 2 then some (.invokevirtual 124) else none))) else (bif Nat.blt pc 6 then (bif Nat.beq pc 5 then some (.aload_n 0) else none) else (bif Nat.blt pc 9 then (bif Nat.beq pc 6 then some (.getfield 26) else none) else (bif Nat.beq pc 9 then some (.iconst 2) else none)))) else (bif Nat.blt pc 13 then (bif Nat.blt pc 11 then (bif Nat.beq pc 10 then some (.iload_n 1) else none) else (bif Nat.blt pc 12 then (bif Nat.beq pc 11 then some (.imul) else none) else (bif Nat.beq pc 12 then some (.aload_n 0) else none))) else (bif Nat.blt pc 17 then (bif Nat.blt pc 16 then (bif Nat.beq pc 13 then some (.getfield 117) else none) else (bif Nat.beq pc 16 then some (.iastore) else none)) else (bif Nat.blt pc 18 then (bif Nat.beq pc 17 then some (.aload_n 0) else none) else (bif Nat.beq pc 18 then some (.getfield 26) else none))))) else (bif Nat.blt pc 30 then (bif Nat.blt pc 24 then (bif Nat.blt pc 22 then (bif Nat.beq pc 21 then some (.iconst 2) else none) else (bif Nat.blt pc 23 then (bif Nat.beq pc 22 then some (.iload_n 1) else none) else (bif Nat.beq pc 23 then some (.imul) else none))) else (bif Nat.blt pc 26 then (bif Nat.blt pc 25 then (bif Nat.beq pc 24 then some (.iconst 1) else none) else (bif Nat.beq pc 25 then some (.iadd) else none)) else (bif Nat.blt pc 27 then (bif Nat.beq pc 26 then some (.aload_n 0) else none) else (bif Nat.beq pc 27 then some (.getfield 121) else none)))) else (bif Nat.blt pc 33 then (bif Nat.blt pc 31 then (bif Nat.beq pc 30 then some (.iastore) else none) else (bif Nat.blt pc 32 then (bif Nat.beq pc 31 then some (.aload_n 0) else none) else (bif Nat.beq pc 32 then some (.iload_n 1) else none))) else (bif Nat.blt pc 37 then (bif Nat.blt pc 36 then (bif Nat.beq pc 33 then some (.invokevirtual 124) else none) else (bif Nat.beq pc 36 then some (.aload_n 0) else none)) else (bif Nat.blt pc 38 then (bif Nat.beq pc 37 then some (.aload_n 0) else none) else (bif Nat.beq pc 38 then some (.getfield 23) else none)))))) else (bif Nat.blt pc 57 then (bif Nat.blt pc 48 then (bif Nat.blt pc 44 then (bif Nat.blt pc 42 then (bif Nat.beq pc 41 then some (.iconst 2) else none) else (bif Nat.blt pc 43 then (bif Nat.beq pc 42 then some (.iload_n 1) else none) else (bif Nat.beq pc 43 then some (.imul) else none))) else (bif Nat.blt pc 46 then (bif Nat.blt pc 45 then (bif Nat.beq pc 44 then some (.iconst 1) else none) else (bif Nat.beq pc 45 then some (.iadd) else none)) else (bif Nat.blt pc 47 then (bif Nat.beq pc 46 then some (.iaload) else none) else (bif Nat.beq pc 47 then some (.aload_n 0) else none)))) else (bif Nat.blt pc 53 then (bif Nat.blt pc 51 then (bif Nat.beq pc 48 then some (.getfield 26) else none) else (bif Nat.blt pc 52 then (bif Nat.beq pc 51 then some (.iconst 2) else none) else (bif Nat.beq pc 52 then some (.iload_n 1) else none))) else (bif Nat.blt pc 55 then (bif Nat.blt pc 54 then (bif Nat.beq pc 53 then some (.imul) else none) else (bif Nat.beq pc 54 then some (.iconst 1) else none)) else (bif Nat.blt pc 56 then (bif Nat.beq pc 55 then some (.iadd) else none) else (bif Nat.beq pc 56 then some (.iaload) else none))))) else (bif Nat.blt pc 70 then (bif Nat.blt pc 64 then (bif Nat.blt pc 58 then (bif Nat.beq pc 57 then some (.aload_n 0) else none) else (bif Nat.blt pc 61 then (bif Nat.beq pc 58 then some (.getfield 121) else none) else (bif Nat.beq pc 61 then some (.invokevirtual 128) else none))) else (bif Nat.blt pc 66 then (bif Nat.blt pc 65 then (bif Nat.beq pc 64 then some (.istore_n 2) else none) else (bif Nat.beq pc 65 then some (.aload_n 0) else none)) else (bif Nat.blt pc 69 then (bif Nat.beq pc 66 then some (.getfield 38) else none) else (bif Nat.beq pc 69 then some (.iconst 4) else none)))) else (bif Nat.blt pc 73 then (bif Nat.blt pc 71 then (bif Nat.beq pc 70 then some (.iload_n 1) else none) else (bif Nat.blt pc 72 then (bif Nat.beq pc 71 then some (.imul) else none) else (bif Nat.beq pc 72 then some (.aload_n 0) else none))) else (bif Nat.blt pc 77 then (bif Nat.blt pc 76 then (bif Nat.beq pc 73 then some (.getfield 23) else none) else (bif Nat.beq pc 76 then some (.iconst 2) else none)) else (bif Nat.blt pc 78 then (bif Nat.beq pc 77 then some (.iload_n 1) else none) else (bif Nat.beq pc 78 then some (.imul) else none))))))) else (bif Nat.blt pc 113 then (bif Nat.blt pc 97 then (bif Nat.blt pc 88 then (bif Nat.blt pc 82 then (bif Nat.blt pc 80 then (bif Nat.beq pc 79 then some (.iconst 1) else none) else (bif Nat.blt pc 81 then (bif Nat.beq pc 80 then some (.iadd) else none) else (bif Nat.beq pc 81 then some (.iaload) else none))) else (bif Nat.blt pc 84 then (bif Nat.blt pc 83 then (bif Nat.beq pc 82 then some (.iastore) else none) else (bif Nat.beq pc 83 then some (.aload_n 0) else none)) else (bif Nat.blt pc 87 then (bif Nat.beq pc 84 then some (.getfield 38) else none) else (bif Nat.beq pc 87 then some (.iconst 4) else none)))) else (bif Nat.blt pc 91 then (bif Nat.blt pc 89 then (bif Nat.beq pc 88 then some (.iload_n 1) else none) else (bif Nat.blt pc 90 then (bif Nat.beq pc 89 then some (.imul) else none) else (bif Nat.beq pc 90 then some (.iconst 1) else none))) else (bif Nat.blt pc 93 then (bif Nat.blt pc 92 then (bif Nat.beq pc 91 then some (.iadd) else none) else (bif Nat.beq pc 92 then some (.aload_n 0) else none)) else (bif Nat.blt pc 96 then (bif Nat.beq pc 93 then some (.getfield 26) else none) else (bif Nat.beq pc 96 then some (.iconst 2) else none))))) else (bif Nat.blt pc 104 then (bif Nat.blt pc 100 then (bif Nat.blt pc 98 then (bif Nat.beq pc 97 then some (.iload_n 1) else none) else (bif Nat.blt pc 99 then (bif Nat.beq pc 98 then some (.imul) else none) else (bif Nat.beq pc 99 then some (.iconst 1) else none))) else (bif Nat.blt pc 102 then (bif Nat.blt pc 101 then (bif Nat.beq pc 100 then some (.iadd) else none) else (bif Nat.beq pc 101 then some (.iaload) else none)) else (bif Nat.blt pc 103 then (bif Nat.beq pc 102 then some (.iastore) else none) else (bif Nat.beq pc 103 then some (.aload_n 0) else none)))) else (bif Nat.blt pc 109 then (bif Nat.blt pc 107 then (bif Nat.beq pc 104 then some (.getfield 38) else none) else (bif Nat.blt pc 108 then (bif Nat.beq pc 107 then some (.iconst 4) else none) else (bif Nat.beq pc 108 then some (.iload_n 1) else none))) else (bif Nat.blt pc 111 then (bif Nat.blt pc 110 then (bif Nat.beq pc 109 then some (.imul) else none) else (bif Nat.beq pc 110 then some (.iconst 2) else none)) else (bif Nat.blt pc 112 then (bif Nat.beq pc 111 then some (.iadd) else none) else (bif Nat.beq pc 112 then some (.aload_n 0) else none)))))) else (bif Nat.blt pc 135 then (bif Nat.blt pc 124 then (bif Nat.blt pc 118 then (bif Nat.blt pc 116 then (bif Nat.beq pc 113 then some (.getfield 121) else none) else (bif Nat.blt pc 117 then (bif Nat.beq pc 116 then some (.iastore) else none) else (bif Nat.beq pc 117 then some (.aload_n 0) else none))) else (bif Nat.blt pc 122 then (bif Nat.blt pc 121 then (bif Nat.beq pc 118 then some (.getfield 38) else none) else (bif Nat.beq pc 121 then some (.iconst 4) else none)) else (bif Nat.blt pc 123 then (bif Nat.beq pc 122 then some (.iload_n 1) else none) else (bif Nat.beq pc 123 then some (.imul) else none)))) else (bif Nat.blt pc 127 then (bif Nat.blt pc 125 then (bif Nat.beq pc 124 then some (.iconst 3) else none) else (bif Nat.blt pc 126 then (bif Nat.beq pc 125 then some (.iadd) else none) else (bif Nat.beq pc 126 then some (.aload_n 0) else none))) else (bif Nat.blt pc 131 then (bif Nat.blt pc 130 then (bif Nat.beq pc 127 then some (.getfield 117) else none) else (bif Nat.beq pc 130 then some (.i2l) else none)) else (bif Nat.blt pc 132 then (bif Nat.beq pc 131 then some (.aload_n 0) else none) else (bif Nat.beq pc 132 then some (.getfield 23) else none))))) else (bif Nat.blt pc 142 then (bif Nat.blt pc 138 then (bif Nat.blt pc 136 then (bif Nat.beq pc 135 then some (.iconst 2) else none) else (bif Nat.blt pc 137 then (bif Nat.beq pc 136 then some (.iload_n 1) else none) else (bif Nat.beq pc 137 then some (.imul) else none))) else (bif Nat.blt pc 140 then (bif Nat.blt pc 139 then (bif Nat.beq pc 138 then some (.iaload) else none) else (bif Nat.beq pc 139 then some (.i2l) else none)) else (bif Nat.blt pc 141 then (bif Nat.beq pc 140 then some (.iload_n 2) else none) else (bif Nat.beq pc 141 then some (.i2l) else none)))) else (bif Nat.blt pc 147 then (bif Nat.blt pc 143 then (bif Nat.beq pc 142 then some (.lmul) else none) else (bif Nat.blt pc 144 then (bif Nat.beq pc 143 then some (.ladd) else none) else (bif Nat.beq pc 144 then some (.ldc2_w 132) else none))) else (bif Nat.blt pc 149 then (bif Nat.blt pc 148 then (bif Nat.beq pc 147 then some (.lrem) else none) else (bif Nat.beq pc 148 then some (.l2i) else none)) else (bif Nat.blt pc 150 then (bif Nat.beq pc 149 then some (.iastore) else none) else (bif Nat.beq pc 150 then some (.return_) else none)))))))
def q_x94 : Nat → Option Instr := q_g 151 q_t94
def q_y94 : MethodName := ⟨"RatchetPostModel", "sign", "(I)V"⟩
def q_m94 : q_MI := (q_y94, prog_10_method_17_code, 3, none, 8, 0, false, q_x94)
def q_t95 (pc : Nat) : Option Instr := bif Nat.blt pc 43 then (bif Nat.blt pc 24 then (bif Nat.blt pc 13 then (bif Nat.blt pc 5 then (bif Nat.blt pc 1 then (bif Nat.beq pc 0 then some (.iload_n 1) else none) else (bif Nat.blt pc 4 then (bif Nat.beq pc 1 then some (.ifCond .lt 17) else none) else (bif Nat.beq pc 4 then some (.iload_n 1) else none))) else (bif Nat.blt pc 9 then (bif Nat.blt pc 6 then (bif Nat.beq pc 5 then some (.iconst 3) else none) else (bif Nat.beq pc 6 then some (.if_icmp .gt 12) else none)) else (bif Nat.blt pc 10 then (bif Nat.beq pc 9 then some (.aload_n 0) else none) else (bif Nat.beq pc 10 then some (.getfield 7) else none)))) else (bif Nat.blt pc 18 then (bif Nat.blt pc 14 then (bif Nat.beq pc 13 then some (.iload_n 1) else none) else (bif Nat.blt pc 15 then (bif Nat.beq pc 14 then some (.baload) else none) else (bif Nat.beq pc 15 then some (.ifCond .eq 5) else none))) else (bif Nat.blt pc 20 then (bif Nat.blt pc 19 then (bif Nat.beq pc 18 then some (.iconst 0) else none) else (bif Nat.beq pc 19 then some (.ireturn) else none)) else (bif Nat.blt pc 21 then (bif Nat.beq pc 20 then some (.aload_n 0) else none) else (bif Nat.beq pc 21 then some (.getfield 7) else none))))) else (bif Nat.blt pc 33 then (bif Nat.blt pc 27 then (bif Nat.blt pc 25 then (bif Nat.beq pc 24 then some (.iload_n 1) else none) else (bif Nat.blt pc 26 then (bif Nat.beq pc 25 then some (.iconst 1) else none) else (bif Nat.beq pc 26 then some (.bastore) else none))) else (bif Nat.blt pc 31 then (bif Nat.blt pc 28 then (bif Nat.beq pc 27 then some (.aload_n 0) else none) else (bif Nat.beq pc 28 then some (.getfield 13) else none)) else (bif Nat.blt pc 32 then (bif Nat.beq pc 31 then some (.iload_n 1) else none) else (bif Nat.beq pc 32 then some (.lload_n 2) else none)))) else (bif Nat.blt pc 36 then (bif Nat.blt pc 34 then (bif Nat.beq pc 33 then some (.l2i) else none) else (bif Nat.blt pc 35 then (bif Nat.beq pc 34 then some (.iastore) else none) else (bif Nat.beq pc 35 then some (.aload_n 0) else none))) else (bif Nat.blt pc 40 then (bif Nat.blt pc 39 then (bif Nat.beq pc 36 then some (.getfield 17) else none) else (bif Nat.beq pc 39 then some (.iload_n 1) else none)) else (bif Nat.blt pc 41 then (bif Nat.beq pc 40 then some (.lload_n 2) else none) else (bif Nat.beq pc 41 then some (.bipush 32) else none)))))) else (bif Nat.blt pc 63 then (bif Nat.blt pc 52 then (bif Nat.blt pc 46 then (bif Nat.blt pc 44 then (bif Nat.beq pc 43 then some (.lshr) else none) else (bif Nat.blt pc 45 then (bif Nat.beq pc 44 then some (.l2i) else none) else (bif Nat.beq pc 45 then some (.iastore) else none))) else (bif Nat.blt pc 48 then (bif Nat.blt pc 47 then (bif Nat.beq pc 46 then some (.aload_n 0) else none) else (bif Nat.beq pc 47 then some (.iload_n 1) else none)) else (bif Nat.blt pc 51 then (bif Nat.beq pc 48 then some (.invokevirtual 124) else none) else (bif Nat.beq pc 51 then some (.aload_n 0) else none)))) else (bif Nat.blt pc 57 then (bif Nat.blt pc 55 then (bif Nat.beq pc 52 then some (.getfield 23) else none) else (bif Nat.blt pc 56 then (bif Nat.beq pc 55 then some (.iconst 2) else none) else (bif Nat.beq pc 56 then some (.iload_n 1) else none))) else (bif Nat.blt pc 59 then (bif Nat.blt pc 58 then (bif Nat.beq pc 57 then some (.imul) else none) else (bif Nat.beq pc 58 then some (.aload_n 0) else none)) else (bif Nat.blt pc 62 then (bif Nat.beq pc 59 then some (.getfield 117) else none) else (bif Nat.beq pc 62 then some (.iastore) else none))))) else (bif Nat.blt pc 72 then (bif Nat.blt pc 68 then (bif Nat.blt pc 64 then (bif Nat.beq pc 63 then some (.aload_n 0) else none) else (bif Nat.blt pc 67 then (bif Nat.beq pc 64 then some (.getfield 23) else none) else (bif Nat.beq pc 67 then some (.iconst 2) else none))) else (bif Nat.blt pc 70 then (bif Nat.blt pc 69 then (bif Nat.beq pc 68 then some (.iload_n 1) else none) else (bif Nat.beq pc 69 then some (.imul) else none)) else (bif Nat.blt pc 71 then (bif Nat.beq pc 70 then some (.iconst 1) else none) else (bif Nat.beq pc 71 then some (.iadd) else none)))) else (bif Nat.blt pc 78 then (bif Nat.blt pc 76 then (bif Nat.blt pc 73 then (bif Nat.beq pc 72 then some (.aload_n 0) else none) else (bif Nat.beq pc 73 then some (.getfield 121) else none)) else (bif Nat.blt pc 77 then (bif Nat.beq pc 76 then some (.iastore) else none) else (bif Nat.beq pc 77 then some (.aload_n 0) else none))) else (bif Nat.blt pc 82 then (bif Nat.blt pc 79 then (bif Nat.beq pc 78 then some (.iload_n 1) else none) else (bif Nat.beq pc 79 then some (.invokevirtual 134) else none)) else (bif Nat.blt pc 83 then (bif Nat.beq pc 82 then some (.iconst 1) else none) else (bif Nat.beq pc 83 then some (.ireturn) else none))))))
def q_x95 : Nat → Option Instr := q_g 84 q_t95
def q_y95 : MethodName := ⟨"RatchetPostModel", "register", "(IJ)Z"⟩
def q_m95 : q_MI := (q_y95, prog_10_method_18_code, 4, (some .boolean), 8, 2, false, q_x95)
def q_t96 (pc : Nat) : Option Instr := bif Nat.blt pc 27 then (bif Nat.blt pc 15 then (bif Nat.blt pc 8 then (bif Nat.blt pc 2 then (bif Nat.blt pc 1 then (bif Nat.beq pc 0 then some (.aload_n 0) else none) else (bif Nat.beq pc 1 then some (.iload_n 1) else none)) else (bif Nat.blt pc 5 then (bif Nat.beq pc 2 then some (.invokevirtual 109) else none) else (bif Nat.beq pc 5 then some (.ifCond .ne 5) else none))) else (bif Nat.blt pc 10 then (bif Nat.blt pc 9 then (bif Nat.beq pc 8 then some (.iconst 0) else none) else (bif Nat.beq pc 9 then some (.ireturn) else none)) else (bif Nat.blt pc 11 then (bif Nat.beq pc 10 then some (.aload_n 0) else none) else (bif Nat.blt pc 14 then (bif Nat.beq pc 11 then some (.getfield 29) else none) else (bif Nat.beq pc 14 then some (.iconst 2) else none))))) else (bif Nat.blt pc 22 then (bif Nat.blt pc 17 then (bif Nat.blt pc 16 then (bif Nat.beq pc 15 then some (.iload_n 1) else none) else (bif Nat.beq pc 16 then some (.imul) else none)) else (bif Nat.blt pc 18 then (bif Nat.beq pc 17 then some (.aload_n 0) else none) else (bif Nat.blt pc 21 then (bif Nat.beq pc 18 then some (.getfield 26) else none) else (bif Nat.beq pc 21 then some (.iconst 2) else none)))) else (bif Nat.blt pc 24 then (bif Nat.blt pc 23 then (bif Nat.beq pc 22 then some (.iload_n 1) else none) else (bif Nat.beq pc 23 then some (.imul) else none)) else (bif Nat.blt pc 25 then (bif Nat.beq pc 24 then some (.iaload) else none) else (bif Nat.blt pc 26 then (bif Nat.beq pc 25 then some (.iastore) else none) else (bif Nat.beq pc 26 then some (.aload_n 0) else none)))))) else (bif Nat.blt pc 41 then (bif Nat.blt pc 34 then (bif Nat.blt pc 31 then (bif Nat.blt pc 30 then (bif Nat.beq pc 27 then some (.getfield 29) else none) else (bif Nat.beq pc 30 then some (.iconst 2) else none)) else (bif Nat.blt pc 32 then (bif Nat.beq pc 31 then some (.iload_n 1) else none) else (bif Nat.blt pc 33 then (bif Nat.beq pc 32 then some (.imul) else none) else (bif Nat.beq pc 33 then some (.iconst 1) else none)))) else (bif Nat.blt pc 36 then (bif Nat.blt pc 35 then (bif Nat.beq pc 34 then some (.iadd) else none) else (bif Nat.beq pc 35 then some (.aload_n 0) else none)) else (bif Nat.blt pc 39 then (bif Nat.beq pc 36 then some (.getfield 26) else none) else (bif Nat.blt pc 40 then (bif Nat.beq pc 39 then some (.iconst 2) else none) else (bif Nat.beq pc 40 then some (.iload_n 1) else none))))) else (bif Nat.blt pc 46 then (bif Nat.blt pc 43 then (bif Nat.blt pc 42 then (bif Nat.beq pc 41 then some (.imul) else none) else (bif Nat.beq pc 42 then some (.iconst 1) else none)) else (bif Nat.blt pc 44 then (bif Nat.beq pc 43 then some (.iadd) else none) else (bif Nat.blt pc 45 then (bif Nat.beq pc 44 then some (.iaload) else none) else (bif Nat.beq pc 45 then some (.iastore) else none)))) else (bif Nat.blt pc 48 then (bif Nat.blt pc 47 then (bif Nat.beq pc 46 then some (.aload_n 0) else none) else (bif Nat.beq pc 47 then some (.iload_n 1) else none)) else (bif Nat.blt pc 51 then (bif Nat.beq pc 48 then some (.invokevirtual 134) else none) else (bif Nat.blt pc 52 then (bif Nat.beq pc 51 then some (.iconst 1) else none) else (bif Nat.beq pc 52 then some (.ireturn) else none))))))
def q_x96 : Nat → Option Instr := q_g 53 q_t96
def q_y96 : MethodName := ⟨"RatchetPostModel", "rotate", "(I)Z"⟩
def q_m96 : q_MI := (q_y96, prog_10_method_19_code, 2, (some .boolean), 8, 2, false, q_x96)
def q_t97 (pc : Nat) : Option Instr := bif Nat.blt pc 78 then (bif Nat.blt pc 40 then (bif Nat.blt pc 21 then (bif Nat.blt pc 10 then (bif Nat.blt pc 5 then (bif Nat.blt pc 1 then (bif Nat.beq pc 0 then some (.aload_n 0) else none) else (bif Nat.blt pc 2 then (bif Nat.beq pc 1 then some (.iload_n 1) else none) else (bif Nat.beq pc 2 then some (.invokevirtual 109) else none))) else (bif Nat.blt pc 8 then (bif Nat.beq pc 5 then some (.ifCond .eq 14) else none) else (bif Nat.blt pc 9 then (bif Nat.beq pc 8 then some (.iload_n 2) else none) else (bif Nat.beq pc 9 then some (.iconst 1) else none)))) else (bif Nat.blt pc 16 then (bif Nat.blt pc 13 then (bif Nat.beq pc 10 then some (.if_icmp .lt 9) else none) else (bif Nat.blt pc 14 then (bif Nat.beq pc 13 then some (.iload_n 2) else none) else (bif Nat.beq pc 14 then some (.bipush 6) else none))) else (bif Nat.blt pc 19 then (bif Nat.beq pc 16 then some (.if_icmp .le 5) else none) else (bif Nat.blt pc 20 then (bif Nat.beq pc 19 then some (.iconst (-1)) else none) else (bif Nat.beq pc 20 then some (.ireturn) else none))))) else (bif Nat.blt pc 29 then (bif Nat.blt pc 24 then (bif Nat.blt pc 22 then (bif Nat.beq pc 21 then some (.iconst 0) else none) else (bif Nat.blt pc 23 then (bif Nat.beq pc 22 then some (.istore_n 3) else none) else (bif Nat.beq pc 23 then some (.iload_n 3) else none))) else (bif Nat.blt pc 25 then (bif Nat.beq pc 24 then some (.iload_n 2) else none) else (bif Nat.blt pc 28 then (bif Nat.beq pc 25 then some (.if_icmp .ge 122) else none) else (bif Nat.beq pc 28 then some (.aload_n 0) else none)))) else (bif Nat.blt pc 34 then (bif Nat.blt pc 32 then (bif Nat.beq pc 29 then some (.getfield 44) else none) else (bif Nat.blt pc 33 then (bif Nat.beq pc 32 then some (.iload_n 1) else none) else (bif Nat.beq pc 33 then some (.iaload) else none))) else (bif Nat.blt pc 36 then (bif Nat.beq pc 34 then some (.bipush 6) else none) else (bif Nat.blt pc 39 then (bif Nat.beq pc 36 then some (.if_icmp .ge 111) else none) else (bif Nat.beq pc 39 then some (.aload_n 0) else none)))))) else (bif Nat.blt pc 62 then (bif Nat.blt pc 51 then (bif Nat.blt pc 45 then (bif Nat.blt pc 43 then (bif Nat.beq pc 40 then some (.getfield 35) else none) else (bif Nat.blt pc 44 then (bif Nat.beq pc 43 then some (.iload_n 1) else none) else (bif Nat.beq pc 44 then some (.iaload) else none))) else (bif Nat.blt pc 47 then (bif Nat.beq pc 45 then some (.bipush 10) else none) else (bif Nat.blt pc 50 then (bif Nat.beq pc 47 then some (.if_icmp .ge 100) else none) else (bif Nat.beq pc 50 then some (.aload_n 0) else none)))) else (bif Nat.blt pc 56 then (bif Nat.blt pc 52 then (bif Nat.beq pc 51 then some (.iload_n 1) else none) else (bif Nat.blt pc 55 then (bif Nat.beq pc 52 then some (.invokevirtual 124) else none) else (bif Nat.beq pc 55 then some (.aload_n 0) else none))) else (bif Nat.blt pc 59 then (bif Nat.beq pc 56 then some (.getfield 32) else none) else (bif Nat.blt pc 60 then (bif Nat.beq pc 59 then some (.iconst 2) else none) else (bif Nat.beq pc 60 then some (.bipush 10) else none))))) else (bif Nat.blt pc 70 then (bif Nat.blt pc 65 then (bif Nat.blt pc 63 then (bif Nat.beq pc 62 then some (.iload_n 1) else none) else (bif Nat.blt pc 64 then (bif Nat.beq pc 63 then some (.imul) else none) else (bif Nat.beq pc 64 then some (.aload_n 0) else none))) else (bif Nat.blt pc 68 then (bif Nat.beq pc 65 then some (.getfield 35) else none) else (bif Nat.blt pc 69 then (bif Nat.beq pc 68 then some (.iload_n 1) else none) else (bif Nat.beq pc 69 then some (.iaload) else none)))) else (bif Nat.blt pc 73 then (bif Nat.blt pc 71 then (bif Nat.beq pc 70 then some (.iadd) else none) else (bif Nat.blt pc 72 then (bif Nat.beq pc 71 then some (.imul) else none) else (bif Nat.beq pc 72 then some (.aload_n 0) else none))) else (bif Nat.blt pc 76 then (bif Nat.beq pc 73 then some (.getfield 117) else none) else (bif Nat.blt pc 77 then (bif Nat.beq pc 76 then some (.iastore) else none) else (bif Nat.beq pc 77 then some (.aload_n 0) else none))))))) else (bif Nat.blt pc 114 then (bif Nat.blt pc 95 then (bif Nat.blt pc 87 then (bif Nat.blt pc 84 then (bif Nat.blt pc 81 then (bif Nat.beq pc 78 then some (.getfield 32) else none) else (bif Nat.blt pc 82 then (bif Nat.beq pc 81 then some (.iconst 2) else none) else (bif Nat.beq pc 82 then some (.bipush 10) else none))) else (bif Nat.blt pc 85 then (bif Nat.beq pc 84 then some (.iload_n 1) else none) else (bif Nat.blt pc 86 then (bif Nat.beq pc 85 then some (.imul) else none) else (bif Nat.beq pc 86 then some (.aload_n 0) else none)))) else (bif Nat.blt pc 92 then (bif Nat.blt pc 90 then (bif Nat.beq pc 87 then some (.getfield 35) else none) else (bif Nat.blt pc 91 then (bif Nat.beq pc 90 then some (.iload_n 1) else none) else (bif Nat.beq pc 91 then some (.iaload) else none))) else (bif Nat.blt pc 93 then (bif Nat.beq pc 92 then some (.iadd) else none) else (bif Nat.blt pc 94 then (bif Nat.beq pc 93 then some (.imul) else none) else (bif Nat.beq pc 94 then some (.iconst 1) else none))))) else (bif Nat.blt pc 105 then (bif Nat.blt pc 100 then (bif Nat.blt pc 96 then (bif Nat.beq pc 95 then some (.iadd) else none) else (bif Nat.blt pc 97 then (bif Nat.beq pc 96 then some (.aload_n 0) else none) else (bif Nat.beq pc 97 then some (.getfield 121) else none))) else (bif Nat.blt pc 101 then (bif Nat.beq pc 100 then some (.iastore) else none) else (bif Nat.blt pc 102 then (bif Nat.beq pc 101 then some (.aload_n 0) else none) else (bif Nat.beq pc 102 then some (.getfield 41) else none)))) else (bif Nat.blt pc 109 then (bif Nat.blt pc 107 then (bif Nat.beq pc 105 then some (.bipush 6) else none) else (bif Nat.blt pc 108 then (bif Nat.beq pc 107 then some (.iload_n 1) else none) else (bif Nat.beq pc 108 then some (.imul) else none))) else (bif Nat.blt pc 110 then (bif Nat.beq pc 109 then some (.aload_n 0) else none) else (bif Nat.blt pc 113 then (bif Nat.beq pc 110 then some (.getfield 44) else none) else (bif Nat.beq pc 113 then some (.iload_n 1) else none)))))) else (bif Nat.blt pc 130 then (bif Nat.blt pc 122 then (bif Nat.blt pc 117 then (bif Nat.blt pc 115 then (bif Nat.beq pc 114 then some (.iaload) else none) else (bif Nat.blt pc 116 then (bif Nat.beq pc 115 then some (.iadd) else none) else (bif Nat.beq pc 116 then some (.aload_n 0) else none))) else (bif Nat.blt pc 120 then (bif Nat.beq pc 117 then some (.getfield 121) else none) else (bif Nat.blt pc 121 then (bif Nat.beq pc 120 then some (.iastore) else none) else (bif Nat.beq pc 121 then some (.aload_n 0) else none)))) else (bif Nat.blt pc 127 then (bif Nat.blt pc 125 then (bif Nat.beq pc 122 then some (.getfield 35) else none) else (bif Nat.blt pc 126 then (bif Nat.beq pc 125 then some (.iload_n 1) else none) else (bif Nat.beq pc 126 then some (.dup2) else none))) else (bif Nat.blt pc 128 then (bif Nat.beq pc 127 then some (.iaload) else none) else (bif Nat.blt pc 129 then (bif Nat.beq pc 128 then some (.iconst 1) else none) else (bif Nat.beq pc 129 then some (.iadd) else none))))) else (bif Nat.blt pc 138 then (bif Nat.blt pc 135 then (bif Nat.blt pc 131 then (bif Nat.beq pc 130 then some (.iastore) else none) else (bif Nat.blt pc 132 then (bif Nat.beq pc 131 then some (.aload_n 0) else none) else (bif Nat.beq pc 132 then some (.getfield 44) else none))) else (bif Nat.blt pc 136 then (bif Nat.beq pc 135 then some (.iload_n 1) else none) else (bif Nat.blt pc 137 then (bif Nat.beq pc 136 then some (.dup2) else none) else (bif Nat.beq pc 137 then some (.iaload) else none)))) else (bif Nat.blt pc 141 then (bif Nat.blt pc 139 then (bif Nat.beq pc 138 then some (.iconst 1) else none) else (bif Nat.blt pc 140 then (bif Nat.beq pc 139 then some (.iadd) else none) else (bif Nat.beq pc 140 then some (.iastore) else none))) else (bif Nat.blt pc 147 then (bif Nat.blt pc 144 then (bif Nat.beq pc 141 then some (.iinc 3 1) else none) else (bif Nat.beq pc 144 then some (.goto (-121)) else none)) else (bif Nat.blt pc 148 then (bif Nat.beq pc 147 then some (.iload_n 3) else none) else (bif Nat.beq pc 148 then some (.ireturn) else none)))))))
def q_x97 : Nat → Option Instr := q_g 149 q_t97
def q_y97 : MethodName := ⟨"RatchetPostModel", "prekeys", "(II)I"⟩
def q_m97 : q_MI := (q_y97, prog_10_method_20_code, 4, (some .int), 8, 1, false, q_x97)
def q_t98 (pc : Nat) : Option Instr := bif Nat.blt pc 20 then (bif Nat.blt pc 12 then (bif Nat.blt pc 5 then (bif Nat.blt pc 1 then (bif Nat.beq pc 0 then some (.aload_n 0) else none) else (bif Nat.blt pc 2 then (bif Nat.beq pc 1 then some (.iload_n 1) else none) else (bif Nat.beq pc 2 then some (.invokevirtual 109) else none))) else (bif Nat.blt pc 8 then (bif Nat.beq pc 5 then some (.ifCond .eq 12) else none) else (bif Nat.blt pc 9 then (bif Nat.beq pc 8 then some (.iload_n 2) else none) else (bif Nat.beq pc 9 then some (.ifCond .lt 8) else none)))) else (bif Nat.blt pc 17 then (bif Nat.blt pc 13 then (bif Nat.beq pc 12 then some (.iload_n 2) else none) else (bif Nat.blt pc 14 then (bif Nat.beq pc 13 then some (.iconst 3) else none) else (bif Nat.beq pc 14 then some (.if_icmp .le 5) else none))) else (bif Nat.blt pc 18 then (bif Nat.beq pc 17 then some (.iconst 0) else none) else (bif Nat.blt pc 19 then (bif Nat.beq pc 18 then some (.ireturn) else none) else (bif Nat.beq pc 19 then some (.aload_n 0) else none))))) else (bif Nat.blt pc 28 then (bif Nat.blt pc 25 then (bif Nat.blt pc 23 then (bif Nat.beq pc 20 then some (.getfield 38) else none) else (bif Nat.blt pc 24 then (bif Nat.beq pc 23 then some (.iconst 4) else none) else (bif Nat.beq pc 24 then some (.iload_n 1) else none))) else (bif Nat.blt pc 26 then (bif Nat.beq pc 25 then some (.imul) else none) else (bif Nat.blt pc 27 then (bif Nat.beq pc 26 then some (.iload_n 2) else none) else (bif Nat.beq pc 27 then some (.iadd) else none)))) else (bif Nat.blt pc 31 then (bif Nat.blt pc 29 then (bif Nat.beq pc 28 then some (.dup2) else none) else (bif Nat.blt pc 30 then (bif Nat.beq pc 29 then some (.iaload) else none) else (bif Nat.beq pc 30 then some (.iload_n 3) else none))) else (bif Nat.blt pc 33 then (bif Nat.blt pc 32 then (bif Nat.beq pc 31 then some (.ixor) else none) else (bif Nat.beq pc 32 then some (.iastore) else none)) else (bif Nat.blt pc 34 then (bif Nat.beq pc 33 then some (.iconst 1) else none) else (bif Nat.beq pc 34 then some (.ireturn) else none)))))
def q_x98 : Nat → Option Instr := q_g 35 q_t98
def q_y98 : MethodName := ⟨"RatchetPostModel", "spoil", "(III)Z"⟩
def q_m98 : q_MI := (q_y98, prog_10_method_21_code, 4, (some .boolean), 8, 2, false, q_x98)
def q_t99 (pc : Nat) : Option Instr := bif Nat.blt pc 50 then (bif Nat.blt pc 25 then (bif Nat.blt pc 13 then (bif Nat.blt pc 6 then (bif Nat.blt pc 4 then (bif Nat.blt pc 1 then (bif Nat.beq pc 0 then some (.aload_n 0) else none) else (bif Nat.beq pc 1 then some (.getfield 38) else none)) else (bif Nat.blt pc 5 then (bif Nat.beq pc 4 then some (.iconst 4) else none) else (bif Nat.beq pc 5 then some (.iload_n 1) else none))) else (bif Nat.blt pc 8 then (bif Nat.blt pc 7 then (bif Nat.beq pc 6 then some (.imul) else none) else (bif Nat.beq pc 7 then some (.iaload) else none)) else (bif Nat.blt pc 9 then (bif Nat.beq pc 8 then some (.istore_n 2) else none) else (bif Nat.blt pc 10 then (bif Nat.beq pc 9 then some (.aload_n 0) else none) else (bif Nat.beq pc 10 then some (.getfield 38) else none))))) else (bif Nat.blt pc 18 then (bif Nat.blt pc 15 then (bif Nat.blt pc 14 then (bif Nat.beq pc 13 then some (.iconst 4) else none) else (bif Nat.beq pc 14 then some (.iload_n 1) else none)) else (bif Nat.blt pc 16 then (bif Nat.beq pc 15 then some (.imul) else none) else (bif Nat.blt pc 17 then (bif Nat.beq pc 16 then some (.iconst 1) else none) else (bif Nat.beq pc 17 then some (.iadd) else none)))) else (bif Nat.blt pc 20 then (bif Nat.blt pc 19 then (bif Nat.beq pc 18 then some (.iaload) else none) else (bif Nat.beq pc 19 then some (.istore_n 3) else none)) else (bif Nat.blt pc 21 then (bif Nat.beq pc 20 then some (.aload_n 0) else none) else (bif Nat.blt pc 24 then (bif Nat.beq pc 21 then some (.getfield 38) else none) else (bif Nat.beq pc 24 then some (.iconst 4) else none)))))) else (bif Nat.blt pc 37 then (bif Nat.blt pc 29 then (bif Nat.blt pc 27 then (bif Nat.blt pc 26 then (bif Nat.beq pc 25 then some (.iload_n 1) else none) else (bif Nat.beq pc 26 then some (.imul) else none)) else (bif Nat.blt pc 28 then (bif Nat.beq pc 27 then some (.iconst 2) else none) else (bif Nat.beq pc 28 then some (.iadd) else none))) else (bif Nat.blt pc 32 then (bif Nat.blt pc 30 then (bif Nat.beq pc 29 then some (.iaload) else none) else (bif Nat.beq pc 30 then some (.istore 4) else none)) else (bif Nat.blt pc 33 then (bif Nat.beq pc 32 then some (.aload_n 0) else none) else (bif Nat.blt pc 36 then (bif Nat.beq pc 33 then some (.getfield 38) else none) else (bif Nat.beq pc 36 then some (.iconst 4) else none))))) else (bif Nat.blt pc 42 then (bif Nat.blt pc 39 then (bif Nat.blt pc 38 then (bif Nat.beq pc 37 then some (.iload_n 1) else none) else (bif Nat.beq pc 38 then some (.imul) else none)) else (bif Nat.blt pc 40 then (bif Nat.beq pc 39 then some (.iconst 3) else none) else (bif Nat.blt pc 41 then (bif Nat.beq pc 40 then some (.iadd) else none) else (bif Nat.beq pc 41 then some (.iaload) else none)))) else (bif Nat.blt pc 45 then (bif Nat.blt pc 44 then (bif Nat.beq pc 42 then some (.istore 5) else none) else (bif Nat.beq pc 44 then some (.iload_n 2) else none)) else (bif Nat.blt pc 46 then (bif Nat.beq pc 45 then some (.iconst 1) else none) else (bif Nat.blt pc 49 then (bif Nat.beq pc 46 then some (.if_icmp .lt 45) else none) else (bif Nat.beq pc 49 then some (.iload_n 2) else none))))))) else (bif Nat.blt pc 91 then (bif Nat.blt pc 68 then (bif Nat.blt pc 57 then (bif Nat.blt pc 55 then (bif Nat.blt pc 52 then (bif Nat.beq pc 50 then some (.ldc 81) else none) else (bif Nat.beq pc 52 then some (.if_icmp .ge 39) else none)) else (bif Nat.blt pc 56 then (bif Nat.beq pc 55 then some (.iload_n 3) else none) else (bif Nat.beq pc 56 then some (.iconst 1) else none))) else (bif Nat.blt pc 61 then (bif Nat.blt pc 60 then (bif Nat.beq pc 57 then some (.if_icmp .lt 34) else none) else (bif Nat.beq pc 60 then some (.iload_n 3) else none)) else (bif Nat.blt pc 63 then (bif Nat.beq pc 61 then some (.ldc 81) else none) else (bif Nat.blt pc 66 then (bif Nat.beq pc 63 then some (.if_icmp .ge 28) else none) else (bif Nat.beq pc 66 then some (.iload 4) else none))))) else (bif Nat.blt pc 79 then (bif Nat.blt pc 72 then (bif Nat.blt pc 69 then (bif Nat.beq pc 68 then some (.iconst 1) else none) else (bif Nat.beq pc 69 then some (.if_icmp .lt 22) else none)) else (bif Nat.blt pc 74 then (bif Nat.beq pc 72 then some (.iload 4) else none) else (bif Nat.blt pc 76 then (bif Nat.beq pc 74 then some (.ldc 81) else none) else (bif Nat.beq pc 76 then some (.if_icmp .ge 15) else none)))) else (bif Nat.blt pc 84 then (bif Nat.blt pc 81 then (bif Nat.beq pc 79 then some (.iload 5) else none) else (bif Nat.beq pc 81 then some (.ifCond .lt 10) else none)) else (bif Nat.blt pc 86 then (bif Nat.beq pc 84 then some (.iload 5) else none) else (bif Nat.blt pc 88 then (bif Nat.beq pc 86 then some (.ldc 137) else none) else (bif Nat.beq pc 88 then some (.if_icmp .le 5) else none)))))) else (bif Nat.blt pc 105 then (bif Nat.blt pc 97 then (bif Nat.blt pc 93 then (bif Nat.blt pc 92 then (bif Nat.beq pc 91 then some (.iconst 0) else none) else (bif Nat.beq pc 92 then some (.ireturn) else none)) else (bif Nat.blt pc 95 then (bif Nat.beq pc 93 then some (.bipush 7) else none) else (bif Nat.beq pc 95 then some (.iload 5) else none))) else (bif Nat.blt pc 102 then (bif Nat.blt pc 100 then (bif Nat.beq pc 97 then some (.invokestatic 82) else none) else (bif Nat.beq pc 100 then some (.iload 4) else none)) else (bif Nat.blt pc 103 then (bif Nat.beq pc 102 then some (.iload_n 2) else none) else (bif Nat.blt pc 104 then (bif Nat.beq pc 103 then some (.aload_n 0) else none) else (bif Nat.beq pc 104 then some (.iload_n 2) else none))))) else (bif Nat.blt pc 117 then (bif Nat.blt pc 108 then (bif Nat.blt pc 106 then (bif Nat.beq pc 105 then some (.iload_n 3) else none) else (bif Nat.beq pc 106 then some (.iload 4) else none)) else (bif Nat.blt pc 111 then (bif Nat.beq pc 108 then some (.invokevirtual 128) else none) else (bif Nat.blt pc 114 then (bif Nat.beq pc 111 then some (.invokestatic 82) else none) else (bif Nat.beq pc 114 then some (.invokestatic 77) else none)))) else (bif Nat.blt pc 121 then (bif Nat.blt pc 120 then (bif Nat.beq pc 117 then some (.if_icmp .ne 7) else none) else (bif Nat.beq pc 120 then some (.iconst 1) else none)) else (bif Nat.blt pc 124 then (bif Nat.beq pc 121 then some (.goto 4) else none) else (bif Nat.blt pc 125 then (bif Nat.beq pc 124 then some (.iconst 0) else none) else (bif Nat.beq pc 125 then some (.ireturn) else none)))))))
def q_x99 : Nat → Option Instr := q_g 126 q_t99
def q_y99 : MethodName := ⟨"RatchetPostModel", "holds", "(I)Z"⟩
def q_m99 : q_MI := (q_y99, prog_10_method_22_code, 6, (some .boolean), 8, 2, false, q_x99)
def q_t100 (pc : Nat) : Option Instr := bif Nat.blt pc 22 then (bif Nat.blt pc 10 then (bif Nat.blt pc 3 then (bif Nat.blt pc 1 then (bif Nat.beq pc 0 then some (.iconst 0) else none) else (bif Nat.blt pc 2 then (bif Nat.beq pc 1 then some (.istore_n 3) else none) else (bif Nat.beq pc 2 then some (.iload_n 3) else none))) else (bif Nat.blt pc 6 then (bif Nat.beq pc 3 then some (.sipush 158) else none) else (bif Nat.blt pc 9 then (bif Nat.beq pc 6 then some (.if_icmp .ge 31) else none) else (bif Nat.beq pc 9 then some (.aload_n 0) else none)))) else (bif Nat.blt pc 15 then (bif Nat.blt pc 13 then (bif Nat.beq pc 10 then some (.getfield 53) else none) else (bif Nat.blt pc 14 then (bif Nat.beq pc 13 then some (.iload_n 3) else none) else (bif Nat.beq pc 14 then some (.aload_n 0) else none))) else (bif Nat.blt pc 18 then (bif Nat.beq pc 15 then some (.getfield 47) else none) else (bif Nat.blt pc 21 then (bif Nat.beq pc 18 then some (.sipush 158) else none) else (bif Nat.beq pc 21 then some (.iconst 3) else none))))) else (bif Nat.blt pc 28 then (bif Nat.blt pc 25 then (bif Nat.blt pc 23 then (bif Nat.beq pc 22 then some (.iload_n 1) else none) else (bif Nat.blt pc 24 then (bif Nat.beq pc 23 then some (.imul) else none) else (bif Nat.beq pc 24 then some (.iload_n 2) else none))) else (bif Nat.blt pc 26 then (bif Nat.beq pc 25 then some (.iadd) else none) else (bif Nat.blt pc 27 then (bif Nat.beq pc 26 then some (.imul) else none) else (bif Nat.beq pc 27 then some (.iload_n 3) else none)))) else (bif Nat.blt pc 31 then (bif Nat.blt pc 29 then (bif Nat.beq pc 28 then some (.iadd) else none) else (bif Nat.blt pc 30 then (bif Nat.beq pc 29 then some (.iaload) else none) else (bif Nat.beq pc 30 then some (.iastore) else none))) else (bif Nat.blt pc 34 then (bif Nat.beq pc 31 then some (.iinc 3 1) else none) else (bif Nat.blt pc 37 then (bif Nat.beq pc 34 then some (.goto (-32)) else none) else (bif Nat.beq pc 37 then some (.return_) else none)))))
def q_x100 : Nat → Option Instr := q_g 38 q_t100
def q_y100 : MethodName := ⟨"RatchetPostModel", "load", "(II)V"⟩
def q_m100 : q_MI := (q_y100, prog_10_method_23_code, 4, none, 8, 0, false, q_x100)
def q_t101 (pc : Nat) : Option Instr := bif Nat.blt pc 20 then (bif Nat.blt pc 10 then (bif Nat.blt pc 3 then (bif Nat.blt pc 1 then (bif Nat.beq pc 0 then some (.iconst 0) else none) else (bif Nat.blt pc 2 then (bif Nat.beq pc 1 then some (.istore_n 3) else none) else (bif Nat.beq pc 2 then some (.iload_n 3) else none))) else (bif Nat.blt pc 6 then (bif Nat.beq pc 3 then some (.sipush 158) else none) else (bif Nat.blt pc 9 then (bif Nat.beq pc 6 then some (.if_icmp .ge 31) else none) else (bif Nat.beq pc 9 then some (.aload_n 0) else none)))) else (bif Nat.blt pc 17 then (bif Nat.blt pc 13 then (bif Nat.beq pc 10 then some (.getfield 47) else none) else (bif Nat.blt pc 16 then (bif Nat.beq pc 13 then some (.sipush 158) else none) else (bif Nat.beq pc 16 then some (.iconst 3) else none))) else (bif Nat.blt pc 18 then (bif Nat.beq pc 17 then some (.iload_n 1) else none) else (bif Nat.blt pc 19 then (bif Nat.beq pc 18 then some (.imul) else none) else (bif Nat.beq pc 19 then some (.iload_n 2) else none))))) else (bif Nat.blt pc 28 then (bif Nat.blt pc 23 then (bif Nat.blt pc 21 then (bif Nat.beq pc 20 then some (.iadd) else none) else (bif Nat.blt pc 22 then (bif Nat.beq pc 21 then some (.imul) else none) else (bif Nat.beq pc 22 then some (.iload_n 3) else none))) else (bif Nat.blt pc 24 then (bif Nat.beq pc 23 then some (.iadd) else none) else (bif Nat.blt pc 25 then (bif Nat.beq pc 24 then some (.aload_n 0) else none) else (bif Nat.beq pc 25 then some (.getfield 53) else none)))) else (bif Nat.blt pc 31 then (bif Nat.blt pc 29 then (bif Nat.beq pc 28 then some (.iload_n 3) else none) else (bif Nat.blt pc 30 then (bif Nat.beq pc 29 then some (.iaload) else none) else (bif Nat.beq pc 30 then some (.iastore) else none))) else (bif Nat.blt pc 34 then (bif Nat.beq pc 31 then some (.iinc 3 1) else none) else (bif Nat.blt pc 37 then (bif Nat.beq pc 34 then some (.goto (-32)) else none) else (bif Nat.beq pc 37 then some (.return_) else none)))))
def q_x101 : Nat → Option Instr := q_g 38 q_t101
def q_y101 : MethodName := ⟨"RatchetPostModel", "save", "(II)V"⟩
def q_m101 : q_MI := (q_y101, prog_10_method_24_code, 4, none, 8, 0, false, q_x101)
def q_t102 (pc : Nat) : Option Instr := bif Nat.blt pc 37 then (bif Nat.blt pc 21 then (bif Nat.blt pc 7 then (bif Nat.blt pc 2 then (bif Nat.blt pc 1 then (bif Nat.beq pc 0 then some (.iload_n 2) else none) else (bif Nat.beq pc 1 then some (.istore_n 3) else none)) else (bif Nat.blt pc 3 then (bif Nat.beq pc 2 then some (.iload_n 3) else none) else (bif Nat.blt pc 6 then (bif Nat.beq pc 3 then some (.ifCond .le 62) else none) else (bif Nat.beq pc 6 then some (.iconst 0) else none)))) else (bif Nat.blt pc 14 then (bif Nat.blt pc 9 then (bif Nat.beq pc 7 then some (.istore 4) else none) else (bif Nat.blt pc 11 then (bif Nat.beq pc 9 then some (.iload 4) else none) else (bif Nat.beq pc 11 then some (.sipush 158) else none))) else (bif Nat.blt pc 17 then (bif Nat.beq pc 14 then some (.if_icmp .ge 45) else none) else (bif Nat.blt pc 18 then (bif Nat.beq pc 17 then some (.aload_n 0) else none) else (bif Nat.beq pc 18 then some (.getfield 47) else none))))) else (bif Nat.blt pc 28 then (bif Nat.blt pc 25 then (bif Nat.blt pc 24 then (bif Nat.beq pc 21 then some (.sipush 158) else none) else (bif Nat.beq pc 24 then some (.iconst 3) else none)) else (bif Nat.blt pc 26 then (bif Nat.beq pc 25 then some (.iload_n 1) else none) else (bif Nat.blt pc 27 then (bif Nat.beq pc 26 then some (.imul) else none) else (bif Nat.beq pc 27 then some (.iload_n 3) else none)))) else (bif Nat.blt pc 32 then (bif Nat.blt pc 29 then (bif Nat.beq pc 28 then some (.iadd) else none) else (bif Nat.blt pc 30 then (bif Nat.beq pc 29 then some (.imul) else none) else (bif Nat.beq pc 30 then some (.iload 4) else none))) else (bif Nat.blt pc 33 then (bif Nat.beq pc 32 then some (.iadd) else none) else (bif Nat.blt pc 34 then (bif Nat.beq pc 33 then some (.aload_n 0) else none) else (bif Nat.beq pc 34 then some (.getfield 47) else none)))))) else (bif Nat.blt pc 51 then (bif Nat.blt pc 44 then (bif Nat.blt pc 41 then (bif Nat.blt pc 40 then (bif Nat.beq pc 37 then some (.sipush 158) else none) else (bif Nat.beq pc 40 then some (.iconst 3) else none)) else (bif Nat.blt pc 42 then (bif Nat.beq pc 41 then some (.iload_n 1) else none) else (bif Nat.blt pc 43 then (bif Nat.beq pc 42 then some (.imul) else none) else (bif Nat.beq pc 43 then some (.iload_n 3) else none)))) else (bif Nat.blt pc 47 then (bif Nat.blt pc 45 then (bif Nat.beq pc 44 then some (.iadd) else none) else (bif Nat.blt pc 46 then (bif Nat.beq pc 45 then some (.iconst 1) else none) else (bif Nat.beq pc 46 then some (.isub) else none))) else (bif Nat.blt pc 48 then (bif Nat.beq pc 47 then some (.imul) else none) else (bif Nat.blt pc 50 then (bif Nat.beq pc 48 then some (.iload 4) else none) else (bif Nat.beq pc 50 then some (.iadd) else none))))) else (bif Nat.blt pc 62 then (bif Nat.blt pc 53 then (bif Nat.blt pc 52 then (bif Nat.beq pc 51 then some (.iaload) else none) else (bif Nat.beq pc 52 then some (.iastore) else none)) else (bif Nat.blt pc 56 then (bif Nat.beq pc 53 then some (.iinc 4 1) else none) else (bif Nat.blt pc 59 then (bif Nat.beq pc 56 then some (.goto (-47)) else none) else (bif Nat.beq pc 59 then some (.iinc 3 (-1)) else none)))) else (bif Nat.blt pc 67 then (bif Nat.blt pc 65 then (bif Nat.beq pc 62 then some (.goto (-60)) else none) else (bif Nat.blt pc 66 then (bif Nat.beq pc 65 then some (.aload_n 0) else none) else (bif Nat.beq pc 66 then some (.iload_n 1) else none))) else (bif Nat.blt pc 68 then (bif Nat.beq pc 67 then some (.iconst 0) else none) else (bif Nat.blt pc 71 then (bif Nat.beq pc 68 then some (.invokevirtual 138) else none) else (bif Nat.beq pc 71 then some (.return_) else none))))))
def q_x102 : Nat → Option Instr := q_g 72 q_t102
def q_y102 : MethodName := ⟨"RatchetPostModel", "toFront", "(II)V"⟩
def q_m102 : q_MI := (q_y102, prog_10_method_25_code, 5, none, 8, 0, false, q_x102)
def q_t103 (pc : Nat) : Option Instr := bif Nat.blt pc 20 then (bif Nat.blt pc 10 then (bif Nat.blt pc 5 then (bif Nat.blt pc 1 then (bif Nat.beq pc 0 then some (.aload_n 0) else none) else (bif Nat.blt pc 4 then (bif Nat.beq pc 1 then some (.getfield 50) else none) else (bif Nat.beq pc 4 then some (.iload_n 1) else none))) else (bif Nat.blt pc 6 then (bif Nat.beq pc 5 then some (.iaload) else none) else (bif Nat.blt pc 7 then (bif Nat.beq pc 6 then some (.iconst 3) else none) else (bif Nat.beq pc 7 then some (.if_icmp .ge 12) else none)))) else (bif Nat.blt pc 15 then (bif Nat.blt pc 11 then (bif Nat.beq pc 10 then some (.aload_n 0) else none) else (bif Nat.blt pc 14 then (bif Nat.beq pc 11 then some (.getfield 50) else none) else (bif Nat.beq pc 14 then some (.iload_n 1) else none))) else (bif Nat.blt pc 16 then (bif Nat.beq pc 15 then some (.iaload) else none) else (bif Nat.blt pc 19 then (bif Nat.beq pc 16 then some (.goto 4) else none) else (bif Nat.beq pc 19 then some (.iconst 2) else none))))) else (bif Nat.blt pc 28 then (bif Nat.blt pc 25 then (bif Nat.blt pc 21 then (bif Nat.beq pc 20 then some (.istore_n 2) else none) else (bif Nat.blt pc 22 then (bif Nat.beq pc 21 then some (.aload_n 0) else none) else (bif Nat.beq pc 22 then some (.getfield 50) else none))) else (bif Nat.blt pc 26 then (bif Nat.beq pc 25 then some (.iload_n 1) else none) else (bif Nat.blt pc 27 then (bif Nat.beq pc 26 then some (.iload_n 2) else none) else (bif Nat.beq pc 27 then some (.iconst 1) else none)))) else (bif Nat.blt pc 31 then (bif Nat.blt pc 29 then (bif Nat.beq pc 28 then some (.iadd) else none) else (bif Nat.blt pc 30 then (bif Nat.beq pc 29 then some (.iastore) else none) else (bif Nat.beq pc 30 then some (.aload_n 0) else none))) else (bif Nat.blt pc 33 then (bif Nat.blt pc 32 then (bif Nat.beq pc 31 then some (.iload_n 1) else none) else (bif Nat.beq pc 32 then some (.iload_n 2) else none)) else (bif Nat.blt pc 36 then (bif Nat.beq pc 33 then some (.invokevirtual 142) else none) else (bif Nat.beq pc 36 then some (.return_) else none)))))
def q_x103 : Nat → Option Instr := q_g 37 q_t103
def q_y103 : MethodName := ⟨"RatchetPostModel", "comes", "(I)V"⟩
def q_m103 : q_MI := (q_y103, prog_10_method_26_code, 3, none, 8, 0, false, q_x103)
def q_t104 (pc : Nat) : Option Instr := bif Nat.blt pc 10 then (bif Nat.blt pc 3 then (bif Nat.blt pc 1 then (bif Nat.beq pc 0 then some (.iconst 0) else none) else (bif Nat.blt pc 2 then (bif Nat.beq pc 1 then some (.istore_n 1) else none) else (bif Nat.beq pc 2 then some (.iload_n 1) else none))) else (bif Nat.blt pc 6 then (bif Nat.beq pc 3 then some (.sipush 318) else none) else (bif Nat.blt pc 9 then (bif Nat.beq pc 6 then some (.if_icmp .ge 16) else none) else (bif Nat.beq pc 9 then some (.aload_n 0) else none)))) else (bif Nat.blt pc 15 then (bif Nat.blt pc 13 then (bif Nat.beq pc 10 then some (.getfield 53) else none) else (bif Nat.blt pc 14 then (bif Nat.beq pc 13 then some (.iload_n 1) else none) else (bif Nat.beq pc 14 then some (.iconst 0) else none))) else (bif Nat.blt pc 19 then (bif Nat.blt pc 16 then (bif Nat.beq pc 15 then some (.iastore) else none) else (bif Nat.beq pc 16 then some (.iinc 1 1) else none)) else (bif Nat.blt pc 22 then (bif Nat.beq pc 19 then some (.goto (-17)) else none) else (bif Nat.beq pc 22 then some (.return_) else none))))
def q_x104 : Nat → Option Instr := q_g 23 q_t104
def q_y104 : MethodName := ⟨"RatchetPostModel", "clear", "()V"⟩
def q_m104 : q_MI := (q_y104, prog_10_method_27_code, 2, none, 8, 0, false, q_x104)
def q_t105 (pc : Nat) : Option Instr := bif Nat.blt pc 24 then (bif Nat.blt pc 11 then (bif Nat.blt pc 5 then (bif Nat.blt pc 1 then (bif Nat.beq pc 0 then some (.aload_n 0) else none) else (bif Nat.blt pc 2 then (bif Nat.beq pc 1 then some (.aload_n 0) else none) else (bif Nat.beq pc 2 then some (.getfield 53) else none))) else (bif Nat.blt pc 8 then (bif Nat.blt pc 7 then (bif Nat.beq pc 5 then some (.bipush 14) else none) else (bif Nat.beq pc 7 then some (.iload_n 1) else none)) else (bif Nat.blt pc 10 then (bif Nat.beq pc 8 then some (.bipush 6) else none) else (bif Nat.beq pc 10 then some (.iconst 0) else none)))) else (bif Nat.blt pc 16 then (bif Nat.blt pc 12 then (bif Nat.beq pc 11 then some (.iconst 0) else none) else (bif Nat.blt pc 15 then (bif Nat.beq pc 12 then some (.invokevirtual 102) else none) else (bif Nat.beq pc 15 then some (.aload_n 0) else none))) else (bif Nat.blt pc 20 then (bif Nat.blt pc 17 then (bif Nat.beq pc 16 then some (.aload_n 0) else none) else (bif Nat.beq pc 17 then some (.getfield 53) else none)) else (bif Nat.blt pc 21 then (bif Nat.beq pc 20 then some (.iload_n 2) else none) else (bif Nat.beq pc 21 then some (.invokevirtual 145) else none))))) else (bif Nat.blt pc 34 then (bif Nat.blt pc 29 then (bif Nat.blt pc 25 then (bif Nat.beq pc 24 then some (.aload_n 0) else none) else (bif Nat.blt pc 26 then (bif Nat.beq pc 25 then some (.aload_n 0) else none) else (bif Nat.beq pc 26 then some (.getfield 53) else none))) else (bif Nat.blt pc 32 then (bif Nat.blt pc 31 then (bif Nat.beq pc 29 then some (.bipush 14) else none) else (bif Nat.beq pc 31 then some (.iload_n 1) else none)) else (bif Nat.blt pc 33 then (bif Nat.beq pc 32 then some (.iconst 5) else none) else (bif Nat.beq pc 33 then some (.iconst 0) else none)))) else (bif Nat.blt pc 40 then (bif Nat.blt pc 38 then (bif Nat.blt pc 35 then (bif Nat.beq pc 34 then some (.iconst 0) else none) else (bif Nat.beq pc 35 then some (.invokevirtual 102) else none)) else (bif Nat.blt pc 39 then (bif Nat.beq pc 38 then some (.aload_n 0) else none) else (bif Nat.beq pc 39 then some (.aload_n 0) else none))) else (bif Nat.blt pc 45 then (bif Nat.blt pc 43 then (bif Nat.beq pc 40 then some (.getfield 53) else none) else (bif Nat.beq pc 43 then some (.bipush 14) else none)) else (bif Nat.blt pc 48 then (bif Nat.beq pc 45 then some (.invokevirtual 145) else none) else (bif Nat.beq pc 48 then some (.return_) else none)))))
def q_x105 : Nat → Option Instr := q_g 49 q_t105
def q_y105 : MethodName := ⟨"RatchetPostModel", "step", "(II)V"⟩
def q_m105 : q_MI := (q_y105, prog_10_method_28_code, 3, none, 8, 0, false, q_x105)
def q_t106 (pc : Nat) : Option Instr := bif Nat.blt pc 23 then (bif Nat.blt pc 10 then (bif Nat.blt pc 5 then (bif Nat.blt pc 1 then (bif Nat.beq pc 0 then some (.aload_n 0) else none) else (bif Nat.blt pc 2 then (bif Nat.beq pc 1 then some (.aload_n 0) else none) else (bif Nat.beq pc 2 then some (.getfield 53) else none))) else (bif Nat.blt pc 8 then (bif Nat.blt pc 6 then (bif Nat.beq pc 5 then some (.iload_n 1) else none) else (bif Nat.beq pc 6 then some (.bipush 7) else none)) else (bif Nat.blt pc 9 then (bif Nat.beq pc 8 then some (.iconst 0) else none) else (bif Nat.beq pc 9 then some (.iconst 0) else none)))) else (bif Nat.blt pc 15 then (bif Nat.blt pc 11 then (bif Nat.beq pc 10 then some (.iconst 0) else none) else (bif Nat.blt pc 14 then (bif Nat.beq pc 11 then some (.invokevirtual 102) else none) else (bif Nat.beq pc 14 then some (.aload_n 0) else none))) else (bif Nat.blt pc 19 then (bif Nat.blt pc 16 then (bif Nat.beq pc 15 then some (.aload_n 0) else none) else (bif Nat.beq pc 16 then some (.getfield 69) else none)) else (bif Nat.blt pc 20 then (bif Nat.beq pc 19 then some (.iconst 0) else none) else (bif Nat.beq pc 20 then some (.invokevirtual 145) else none))))) else (bif Nat.blt pc 33 then (bif Nat.blt pc 28 then (bif Nat.blt pc 24 then (bif Nat.beq pc 23 then some (.aload_n 0) else none) else (bif Nat.blt pc 25 then (bif Nat.beq pc 24 then some (.aload_n 0) else none) else (bif Nat.beq pc 25 then some (.getfield 53) else none))) else (bif Nat.blt pc 31 then (bif Nat.blt pc 29 then (bif Nat.beq pc 28 then some (.iload_n 1) else none) else (bif Nat.beq pc 29 then some (.bipush 8) else none)) else (bif Nat.blt pc 32 then (bif Nat.beq pc 31 then some (.iconst 0) else none) else (bif Nat.beq pc 32 then some (.iconst 0) else none)))) else (bif Nat.blt pc 39 then (bif Nat.blt pc 37 then (bif Nat.blt pc 34 then (bif Nat.beq pc 33 then some (.iconst 0) else none) else (bif Nat.beq pc 34 then some (.invokevirtual 102) else none)) else (bif Nat.blt pc 38 then (bif Nat.beq pc 37 then some (.aload_n 0) else none) else (bif Nat.beq pc 38 then some (.aload_n 0) else none))) else (bif Nat.blt pc 43 then (bif Nat.blt pc 42 then (bif Nat.beq pc 39 then some (.getfield 53) else none) else (bif Nat.beq pc 42 then some (.iload_n 1) else none)) else (bif Nat.blt pc 46 then (bif Nat.beq pc 43 then some (.invokevirtual 145) else none) else (bif Nat.beq pc 46 then some (.return_) else none)))))
def q_x106 : Nat → Option Instr := q_g 47 q_t106
def q_y106 : MethodName := ⟨"RatchetPostModel", "take", "(I)V"⟩
def q_m106 : q_MI := (q_y106, prog_10_method_29_code, 2, none, 8, 0, false, q_x106)
def q_t107 (pc : Nat) : Option Instr := bif Nat.blt pc 24 then (bif Nat.blt pc 10 then (bif Nat.blt pc 4 then (bif Nat.blt pc 2 then (bif Nat.blt pc 1 then (bif Nat.beq pc 0 then some (.aload_n 0) else none) else (bif Nat.beq pc 1 then some (.iconst 0) else none)) else (bif Nat.blt pc 3 then (bif Nat.beq pc 2 then some (.iconst 0) else none) else (bif Nat.beq pc 3 then some (.iconst 0) else none))) else (bif Nat.blt pc 8 then (bif Nat.blt pc 5 then (bif Nat.beq pc 4 then some (.iconst 0) else none) else (bif Nat.beq pc 5 then some (.invokevirtual 113) else none)) else (bif Nat.blt pc 9 then (bif Nat.beq pc 8 then some (.aload_n 0) else none) else (bif Nat.beq pc 9 then some (.aload_n 0) else none)))) else (bif Nat.blt pc 16 then (bif Nat.blt pc 14 then (bif Nat.blt pc 13 then (bif Nat.beq pc 10 then some (.getfield 69) else none) else (bif Nat.beq pc 13 then some (.iconst 0) else none)) else (bif Nat.blt pc 15 then (bif Nat.beq pc 14 then some (.iload_n 1) else none) else (bif Nat.beq pc 15 then some (.iload_n 2) else none))) else (bif Nat.blt pc 19 then (bif Nat.blt pc 17 then (bif Nat.beq pc 16 then some (.iload_n 3) else none) else (bif Nat.beq pc 17 then some (.iload 4) else none)) else (bif Nat.blt pc 22 then (bif Nat.beq pc 19 then some (.invokevirtual 102) else none) else (bif Nat.blt pc 23 then (bif Nat.beq pc 22 then some (.aload_n 0) else none) else (bif Nat.beq pc 23 then some (.aload_n 0) else none)))))) else (bif Nat.blt pc 41 then (bif Nat.blt pc 32 then (bif Nat.blt pc 28 then (bif Nat.blt pc 27 then (bif Nat.beq pc 24 then some (.getfield 69) else none) else (bif Nat.beq pc 27 then some (.iconst 0) else none)) else (bif Nat.blt pc 31 then (bif Nat.beq pc 28 then some (.invokevirtual 145) else none) else (bif Nat.beq pc 31 then some (.aload_n 0) else none))) else (bif Nat.blt pc 36 then (bif Nat.blt pc 33 then (bif Nat.beq pc 32 then some (.aload_n 0) else none) else (bif Nat.beq pc 33 then some (.getfield 69) else none)) else (bif Nat.blt pc 37 then (bif Nat.beq pc 36 then some (.iconst 0) else none) else (bif Nat.blt pc 39 then (bif Nat.beq pc 37 then some (.iload 5) else none) else (bif Nat.beq pc 39 then some (.iload 6) else none))))) else (bif Nat.blt pc 48 then (bif Nat.blt pc 44 then (bif Nat.blt pc 42 then (bif Nat.beq pc 41 then some (.iconst 4) else none) else (bif Nat.beq pc 42 then some (.iload 7) else none)) else (bif Nat.blt pc 47 then (bif Nat.beq pc 44 then some (.invokevirtual 102) else none) else (bif Nat.beq pc 47 then some (.aload_n 0) else none))) else (bif Nat.blt pc 52 then (bif Nat.blt pc 49 then (bif Nat.beq pc 48 then some (.aload_n 0) else none) else (bif Nat.beq pc 49 then some (.getfield 53) else none)) else (bif Nat.blt pc 54 then (bif Nat.beq pc 52 then some (.bipush 14) else none) else (bif Nat.blt pc 57 then (bif Nat.beq pc 54 then some (.invokevirtual 145) else none) else (bif Nat.beq pc 57 then some (.return_) else none))))))
def q_x107 : Nat → Option Instr := q_g 58 q_t107
def q_y107 : MethodName := ⟨"RatchetPostModel", "agree", "(IIIIIII)V"⟩
def q_m107 : q_MI := (q_y107, prog_10_method_30_code, 8, none, 8, 0, false, q_x107)
def q_t108 (pc : Nat) : Option Instr := bif Nat.blt pc 153 then (bif Nat.blt pc 78 then (bif Nat.blt pc 39 then (bif Nat.blt pc 20 then (bif Nat.blt pc 10 then (bif Nat.blt pc 3 then (bif Nat.blt pc 1 then (bif Nat.beq pc 0 then some (.aload_n 0) else none) else (bif Nat.blt pc 2 then (bif Nat.beq pc 1 then some (.iload_n 1) else none) else (bif Nat.beq pc 2 then some (.iload_n 2) else none))) else (bif Nat.blt pc 6 then (bif Nat.beq pc 3 then some (.invokevirtual 149) else none) else (bif Nat.blt pc 9 then (bif Nat.beq pc 6 then some (.ifCond .ne 5) else none) else (bif Nat.beq pc 9 then some (.iconst (-1)) else none)))) else (bif Nat.blt pc 15 then (bif Nat.blt pc 11 then (bif Nat.beq pc 10 then some (.ireturn) else none) else (bif Nat.blt pc 12 then (bif Nat.beq pc 11 then some (.aload_n 0) else none) else (bif Nat.beq pc 12 then some (.getfield 44) else none))) else (bif Nat.blt pc 16 then (bif Nat.beq pc 15 then some (.iload_n 2) else none) else (bif Nat.blt pc 17 then (bif Nat.beq pc 16 then some (.iaload) else none) else (bif Nat.beq pc 17 then some (.ifCond .le 15) else none))))) else (bif Nat.blt pc 29 then (bif Nat.blt pc 26 then (bif Nat.blt pc 21 then (bif Nat.beq pc 20 then some (.aload_n 0) else none) else (bif Nat.blt pc 24 then (bif Nat.beq pc 21 then some (.getfield 41) else none) else (bif Nat.beq pc 24 then some (.bipush 6) else none))) else (bif Nat.blt pc 27 then (bif Nat.beq pc 26 then some (.iload_n 2) else none) else (bif Nat.blt pc 28 then (bif Nat.beq pc 27 then some (.imul) else none) else (bif Nat.beq pc 28 then some (.iaload) else none)))) else (bif Nat.blt pc 34 then (bif Nat.blt pc 32 then (bif Nat.beq pc 29 then some (.goto 4) else none) else (bif Nat.blt pc 33 then (bif Nat.beq pc 32 then some (.iconst 0) else none) else (bif Nat.beq pc 33 then some (.istore_n 3) else none))) else (bif Nat.blt pc 35 then (bif Nat.beq pc 34 then some (.aload_n 0) else none) else (bif Nat.blt pc 38 then (bif Nat.beq pc 35 then some (.getfield 44) else none) else (bif Nat.beq pc 38 then some (.iload_n 2) else none)))))) else (bif Nat.blt pc 57 then (bif Nat.blt pc 47 then (bif Nat.blt pc 42 then (bif Nat.blt pc 40 then (bif Nat.beq pc 39 then some (.dup2) else none) else (bif Nat.blt pc 41 then (bif Nat.beq pc 40 then some (.iaload) else none) else (bif Nat.beq pc 41 then some (.aload_n 0) else none))) else (bif Nat.blt pc 45 then (bif Nat.beq pc 42 then some (.getfield 44) else none) else (bif Nat.blt pc 46 then (bif Nat.beq pc 45 then some (.iload_n 2) else none) else (bif Nat.beq pc 46 then some (.iaload) else none)))) else (bif Nat.blt pc 54 then (bif Nat.blt pc 50 then (bif Nat.beq pc 47 then some (.ifCond .le 7) else none) else (bif Nat.blt pc 51 then (bif Nat.beq pc 50 then some (.iconst 1) else none) else (bif Nat.beq pc 51 then some (.goto 4) else none))) else (bif Nat.blt pc 55 then (bif Nat.beq pc 54 then some (.iconst 0) else none) else (bif Nat.blt pc 56 then (bif Nat.beq pc 55 then some (.isub) else none) else (bif Nat.beq pc 56 then some (.iastore) else none))))) else (bif Nat.blt pc 67 then (bif Nat.blt pc 62 then (bif Nat.blt pc 58 then (bif Nat.beq pc 57 then some (.iconst 0) else none) else (bif Nat.blt pc 60 then (bif Nat.beq pc 58 then some (.istore 4) else none) else (bif Nat.beq pc 60 then some (.iload 4) else none))) else (bif Nat.blt pc 63 then (bif Nat.beq pc 62 then some (.aload_n 0) else none) else (bif Nat.blt pc 66 then (bif Nat.beq pc 63 then some (.getfield 44) else none) else (bif Nat.beq pc 66 then some (.iload_n 2) else none)))) else (bif Nat.blt pc 72 then (bif Nat.blt pc 68 then (bif Nat.beq pc 67 then some (.iaload) else none) else (bif Nat.blt pc 71 then (bif Nat.beq pc 68 then some (.if_icmp .ge 35) else none) else (bif Nat.beq pc 71 then some (.aload_n 0) else none))) else (bif Nat.blt pc 75 then (bif Nat.beq pc 72 then some (.getfield 41) else none) else (bif Nat.blt pc 77 then (bif Nat.beq pc 75 then some (.bipush 6) else none) else (bif Nat.beq pc 77 then some (.iload_n 2) else none))))))) else (bif Nat.blt pc 117 then (bif Nat.blt pc 95 then (bif Nat.blt pc 88 then (bif Nat.blt pc 82 then (bif Nat.blt pc 79 then (bif Nat.beq pc 78 then some (.imul) else none) else (bif Nat.blt pc 81 then (bif Nat.beq pc 79 then some (.iload 4) else none) else (bif Nat.beq pc 81 then some (.iadd) else none))) else (bif Nat.blt pc 83 then (bif Nat.beq pc 82 then some (.aload_n 0) else none) else (bif Nat.blt pc 86 then (bif Nat.beq pc 83 then some (.getfield 41) else none) else (bif Nat.beq pc 86 then some (.bipush 6) else none)))) else (bif Nat.blt pc 92 then (bif Nat.blt pc 89 then (bif Nat.beq pc 88 then some (.iload_n 2) else none) else (bif Nat.blt pc 90 then (bif Nat.beq pc 89 then some (.imul) else none) else (bif Nat.beq pc 90 then some (.iload 4) else none))) else (bif Nat.blt pc 93 then (bif Nat.beq pc 92 then some (.iadd) else none) else (bif Nat.blt pc 94 then (bif Nat.beq pc 93 then some (.iconst 1) else none) else (bif Nat.beq pc 94 then some (.iadd) else none))))) else (bif Nat.blt pc 105 then (bif Nat.blt pc 100 then (bif Nat.blt pc 96 then (bif Nat.beq pc 95 then some (.iaload) else none) else (bif Nat.blt pc 97 then (bif Nat.beq pc 96 then some (.iastore) else none) else (bif Nat.beq pc 97 then some (.iinc 4 1) else none))) else (bif Nat.blt pc 103 then (bif Nat.beq pc 100 then some (.goto (-40)) else none) else (bif Nat.blt pc 104 then (bif Nat.beq pc 103 then some (.aload_n 0) else none) else (bif Nat.beq pc 104 then some (.iload_n 2) else none)))) else (bif Nat.blt pc 112 then (bif Nat.blt pc 108 then (bif Nat.beq pc 105 then some (.invokevirtual 153) else none) else (bif Nat.blt pc 111 then (bif Nat.beq pc 108 then some (.ifCond .ne 5) else none) else (bif Nat.beq pc 111 then some (.iconst 1) else none))) else (bif Nat.blt pc 113 then (bif Nat.beq pc 112 then some (.ireturn) else none) else (bif Nat.blt pc 114 then (bif Nat.beq pc 113 then some (.aload_n 0) else none) else (bif Nat.beq pc 114 then some (.getfield 38) else none)))))) else (bif Nat.blt pc 132 then (bif Nat.blt pc 124 then (bif Nat.blt pc 120 then (bif Nat.blt pc 118 then (bif Nat.beq pc 117 then some (.iconst 4) else none) else (bif Nat.blt pc 119 then (bif Nat.beq pc 118 then some (.iload_n 2) else none) else (bif Nat.beq pc 119 then some (.imul) else none))) else (bif Nat.blt pc 121 then (bif Nat.beq pc 120 then some (.iaload) else none) else (bif Nat.blt pc 123 then (bif Nat.beq pc 121 then some (.istore 4) else none) else (bif Nat.beq pc 123 then some (.aload_n 0) else none)))) else (bif Nat.blt pc 129 then (bif Nat.blt pc 127 then (bif Nat.beq pc 124 then some (.getfield 38) else none) else (bif Nat.blt pc 128 then (bif Nat.beq pc 127 then some (.iconst 4) else none) else (bif Nat.beq pc 128 then some (.iload_n 2) else none))) else (bif Nat.blt pc 130 then (bif Nat.beq pc 129 then some (.imul) else none) else (bif Nat.blt pc 131 then (bif Nat.beq pc 130 then some (.iconst 1) else none) else (bif Nat.beq pc 131 then some (.iadd) else none))))) else (bif Nat.blt pc 141 then (bif Nat.blt pc 136 then (bif Nat.blt pc 133 then (bif Nat.beq pc 132 then some (.iaload) else none) else (bif Nat.blt pc 135 then (bif Nat.beq pc 133 then some (.istore 5) else none) else (bif Nat.beq pc 135 then some (.aload_n 0) else none))) else (bif Nat.blt pc 137 then (bif Nat.beq pc 136 then some (.iload_n 1) else none) else (bif Nat.blt pc 140 then (bif Nat.beq pc 137 then some (.invokevirtual 124) else none) else (bif Nat.beq pc 140 then some (.aload_n 0) else none)))) else (bif Nat.blt pc 147 then (bif Nat.blt pc 144 then (bif Nat.beq pc 141 then some (.getfield 117) else none) else (bif Nat.blt pc 146 then (bif Nat.beq pc 144 then some (.istore 6) else none) else (bif Nat.beq pc 146 then some (.aload_n 0) else none))) else (bif Nat.blt pc 150 then (bif Nat.beq pc 147 then some (.getfield 121) else none) else (bif Nat.blt pc 152 then (bif Nat.beq pc 150 then some (.istore 7) else none) else (bif Nat.beq pc 152 then some (.aload_n 0) else none)))))))) else (bif Nat.blt pc 232 then (bif Nat.blt pc 193 then (bif Nat.blt pc 174 then (bif Nat.blt pc 165 then (bif Nat.blt pc 158 then (bif Nat.blt pc 154 then (bif Nat.beq pc 153 then some (.iload_n 1) else none) else (bif Nat.blt pc 157 then (bif Nat.beq pc 154 then some (.invokevirtual 124) else none) else (bif Nat.beq pc 157 then some (.aload_n 0) else none))) else (bif Nat.blt pc 161 then (bif Nat.beq pc 158 then some (.invokevirtual 156) else none) else (bif Nat.blt pc 162 then (bif Nat.beq pc 161 then some (.aload_n 0) else none) else (bif Nat.beq pc 162 then some (.getfield 53) else none)))) else (bif Nat.blt pc 169 then (bif Nat.blt pc 166 then (bif Nat.beq pc 165 then some (.iconst 0) else none) else (bif Nat.blt pc 168 then (bif Nat.beq pc 166 then some (.iload 7) else none) else (bif Nat.beq pc 168 then some (.iastore) else none))) else (bif Nat.blt pc 170 then (bif Nat.beq pc 169 then some (.aload_n 0) else none) else (bif Nat.blt pc 173 then (bif Nat.beq pc 170 then some (.getfield 53) else none) else (bif Nat.beq pc 173 then some (.iconst 1) else none))))) else (bif Nat.blt pc 183 then (bif Nat.blt pc 178 then (bif Nat.blt pc 176 then (bif Nat.beq pc 174 then some (.iload 5) else none) else (bif Nat.blt pc 177 then (bif Nat.beq pc 176 then some (.iastore) else none) else (bif Nat.beq pc 177 then some (.aload_n 0) else none))) else (bif Nat.blt pc 181 then (bif Nat.beq pc 178 then some (.getfield 53) else none) else (bif Nat.blt pc 182 then (bif Nat.beq pc 181 then some (.iconst 2) else none) else (bif Nat.beq pc 182 then some (.aload_n 0) else none)))) else (bif Nat.blt pc 188 then (bif Nat.blt pc 186 then (bif Nat.beq pc 183 then some (.getfield 117) else none) else (bif Nat.blt pc 187 then (bif Nat.beq pc 186 then some (.iastore) else none) else (bif Nat.beq pc 187 then some (.aload_n 0) else none))) else (bif Nat.blt pc 191 then (bif Nat.beq pc 188 then some (.getfield 53) else none) else (bif Nat.blt pc 192 then (bif Nat.beq pc 191 then some (.iconst 3) else none) else (bif Nat.beq pc 192 then some (.aload_n 0) else none)))))) else (bif Nat.blt pc 214 then (bif Nat.blt pc 204 then (bif Nat.blt pc 198 then (bif Nat.blt pc 196 then (bif Nat.beq pc 193 then some (.getfield 121) else none) else (bif Nat.blt pc 197 then (bif Nat.beq pc 196 then some (.iastore) else none) else (bif Nat.beq pc 197 then some (.aload_n 0) else none))) else (bif Nat.blt pc 201 then (bif Nat.beq pc 198 then some (.getfield 53) else none) else (bif Nat.blt pc 203 then (bif Nat.beq pc 201 then some (.bipush 10) else none) else (bif Nat.beq pc 203 then some (.iconst 1) else none)))) else (bif Nat.blt pc 209 then (bif Nat.blt pc 205 then (bif Nat.beq pc 204 then some (.iastore) else none) else (bif Nat.blt pc 206 then (bif Nat.beq pc 205 then some (.aload_n 0) else none) else (bif Nat.beq pc 206 then some (.getfield 53) else none))) else (bif Nat.blt pc 211 then (bif Nat.beq pc 209 then some (.bipush 12) else none) else (bif Nat.blt pc 213 then (bif Nat.beq pc 211 then some (.iload 5) else none) else (bif Nat.beq pc 213 then some (.iastore) else none))))) else (bif Nat.blt pc 223 then (bif Nat.blt pc 220 then (bif Nat.blt pc 215 then (bif Nat.beq pc 214 then some (.aload_n 0) else none) else (bif Nat.blt pc 218 then (bif Nat.beq pc 215 then some (.getfield 53) else none) else (bif Nat.beq pc 218 then some (.bipush 13) else none))) else (bif Nat.blt pc 221 then (bif Nat.beq pc 220 then some (.iload_n 3) else none) else (bif Nat.blt pc 222 then (bif Nat.beq pc 221 then some (.iastore) else none) else (bif Nat.beq pc 222 then some (.aload_n 0) else none)))) else (bif Nat.blt pc 229 then (bif Nat.blt pc 225 then (bif Nat.beq pc 223 then some (.iload 5) else none) else (bif Nat.blt pc 226 then (bif Nat.beq pc 225 then some (.aload_n 0) else none) else (bif Nat.beq pc 226 then some (.getfield 23) else none))) else (bif Nat.blt pc 230 then (bif Nat.beq pc 229 then some (.iconst 2) else none) else (bif Nat.blt pc 231 then (bif Nat.beq pc 230 then some (.iload_n 1) else none) else (bif Nat.beq pc 231 then some (.imul) else none))))))) else (bif Nat.blt pc 276 then (bif Nat.blt pc 258 then (bif Nat.blt pc 245 then (bif Nat.blt pc 238 then (bif Nat.blt pc 233 then (bif Nat.beq pc 232 then some (.iaload) else none) else (bif Nat.blt pc 236 then (bif Nat.beq pc 233 then some (.invokestatic 82) else none) else (bif Nat.beq pc 236 then some (.iload 4) else none))) else (bif Nat.blt pc 240 then (bif Nat.beq pc 238 then some (.iload 6) else none) else (bif Nat.blt pc 243 then (bif Nat.beq pc 240 then some (.invokestatic 82) else none) else (bif Nat.beq pc 243 then some (.iload 5) else none)))) else (bif Nat.blt pc 251 then (bif Nat.blt pc 247 then (bif Nat.beq pc 245 then some (.iload 6) else none) else (bif Nat.blt pc 250 then (bif Nat.beq pc 247 then some (.invokestatic 82) else none) else (bif Nat.beq pc 250 then some (.iload_n 3) else none))) else (bif Nat.blt pc 254 then (bif Nat.beq pc 251 then some (.ifCond .ne 7) else none) else (bif Nat.blt pc 255 then (bif Nat.beq pc 254 then some (.iconst 0) else none) else (bif Nat.beq pc 255 then some (.goto 9) else none))))) else (bif Nat.blt pc 269 then (bif Nat.blt pc 264 then (bif Nat.blt pc 259 then (bif Nat.beq pc 258 then some (.iload_n 3) else none) else (bif Nat.blt pc 261 then (bif Nat.beq pc 259 then some (.iload 6) else none) else (bif Nat.beq pc 261 then some (.invokestatic 82) else none))) else (bif Nat.blt pc 265 then (bif Nat.beq pc 264 then some (.aload_n 0) else none) else (bif Nat.blt pc 268 then (bif Nat.beq pc 265 then some (.getfield 23) else none) else (bif Nat.beq pc 268 then some (.iconst 2) else none)))) else (bif Nat.blt pc 272 then (bif Nat.blt pc 270 then (bif Nat.beq pc 269 then some (.iload_n 1) else none) else (bif Nat.blt pc 271 then (bif Nat.beq pc 270 then some (.imul) else none) else (bif Nat.beq pc 271 then some (.iconst 1) else none))) else (bif Nat.blt pc 273 then (bif Nat.beq pc 272 then some (.iadd) else none) else (bif Nat.blt pc 274 then (bif Nat.beq pc 273 then some (.iaload) else none) else (bif Nat.beq pc 274 then some (.iload 4) else none)))))) else (bif Nat.blt pc 298 then (bif Nat.blt pc 287 then (bif Nat.blt pc 281 then (bif Nat.blt pc 277 then (bif Nat.beq pc 276 then some (.iload_n 3) else none) else (bif Nat.blt pc 280 then (bif Nat.beq pc 277 then some (.invokevirtual 159) else none) else (bif Nat.beq pc 280 then some (.aload_n 0) else none))) else (bif Nat.blt pc 283 then (bif Nat.beq pc 281 then some (.iload 5) else none) else (bif Nat.blt pc 284 then (bif Nat.beq pc 283 then some (.aload_n 0) else none) else (bif Nat.beq pc 284 then some (.getfield 53) else none)))) else (bif Nat.blt pc 292 then (bif Nat.blt pc 288 then (bif Nat.beq pc 287 then some (.iconst 2) else none) else (bif Nat.blt pc 289 then (bif Nat.beq pc 288 then some (.iaload) else none) else (bif Nat.beq pc 289 then some (.invokestatic 82) else none))) else (bif Nat.blt pc 294 then (bif Nat.beq pc 292 then some (.bipush 22) else none) else (bif Nat.blt pc 297 then (bif Nat.beq pc 294 then some (.invokevirtual 163) else none) else (bif Nat.beq pc 297 then some (.aload_n 0) else none))))) else (bif Nat.blt pc 306 then (bif Nat.blt pc 303 then (bif Nat.blt pc 301 then (bif Nat.beq pc 298 then some (.getfield 53) else none) else (bif Nat.blt pc 302 then (bif Nat.beq pc 301 then some (.iconst 4) else none) else (bif Nat.beq pc 302 then some (.iconst 1) else none))) else (bif Nat.blt pc 304 then (bif Nat.beq pc 303 then some (.iastore) else none) else (bif Nat.blt pc 305 then (bif Nat.beq pc 304 then some (.aload_n 0) else none) else (bif Nat.beq pc 305 then some (.iconst 4) else none)))) else (bif Nat.blt pc 309 then (bif Nat.blt pc 307 then (bif Nat.beq pc 306 then some (.iload_n 1) else none) else (bif Nat.blt pc 308 then (bif Nat.beq pc 307 then some (.imul) else none) else (bif Nat.beq pc 308 then some (.iload_n 2) else none))) else (bif Nat.blt pc 313 then (bif Nat.blt pc 310 then (bif Nat.beq pc 309 then some (.iadd) else none) else (bif Nat.beq pc 310 then some (.invokevirtual 166) else none)) else (bif Nat.blt pc 314 then (bif Nat.beq pc 313 then some (.iconst 0) else none) else (bif Nat.beq pc 314 then some (.ireturn) else none))))))))
def q_x108 : Nat → Option Instr := q_g 315 q_t108
def q_y108 : MethodName := ⟨"RatchetPostModel", "begin", "(II)I"⟩
def q_m108 : q_MI := (q_y108, prog_10_method_31_code, 8, (some .int), 8, 1, false, q_x108)
def q_t109 (pc : Nat) : Option Instr := bif Nat.blt pc 23 then (bif Nat.blt pc 9 then (bif Nat.blt pc 5 then (bif Nat.blt pc 1 then (bif Nat.beq pc 0 then some (.aload_n 0) else none) else (bif Nat.blt pc 2 then (bif Nat.beq pc 1 then some (.aload_n 0) else none) else (bif Nat.beq pc 2 then some (.getfield 69) else none))) else (bif Nat.blt pc 7 then (bif Nat.blt pc 6 then (bif Nat.beq pc 5 then some (.iconst 0) else none) else (bif Nat.beq pc 6 then some (.iload_n 1) else none)) else (bif Nat.blt pc 8 then (bif Nat.beq pc 7 then some (.iload_n 2) else none) else (bif Nat.beq pc 8 then some (.iload_n 3) else none)))) else (bif Nat.blt pc 15 then (bif Nat.blt pc 13 then (bif Nat.blt pc 11 then (bif Nat.beq pc 9 then some (.lload 4) else none) else (bif Nat.beq pc 11 then some (.bipush 32) else none)) else (bif Nat.blt pc 14 then (bif Nat.beq pc 13 then some (.lshr) else none) else (bif Nat.beq pc 14 then some (.l2i) else none))) else (bif Nat.blt pc 19 then (bif Nat.blt pc 18 then (bif Nat.beq pc 15 then some (.invokevirtual 102) else none) else (bif Nat.beq pc 18 then some (.aload_n 0) else none)) else (bif Nat.blt pc 20 then (bif Nat.beq pc 19 then some (.aload_n 0) else none) else (bif Nat.beq pc 20 then some (.getfield 72) else none))))) else (bif Nat.blt pc 35 then (bif Nat.blt pc 28 then (bif Nat.blt pc 24 then (bif Nat.beq pc 23 then some (.iconst 0) else none) else (bif Nat.blt pc 27 then (bif Nat.beq pc 24 then some (.invokevirtual 145) else none) else (bif Nat.beq pc 27 then some (.aload_n 0) else none))) else (bif Nat.blt pc 32 then (bif Nat.blt pc 29 then (bif Nat.beq pc 28 then some (.aload_n 0) else none) else (bif Nat.beq pc 29 then some (.getfield 72) else none)) else (bif Nat.blt pc 33 then (bif Nat.beq pc 32 then some (.iconst 0) else none) else (bif Nat.beq pc 33 then some (.lload 4) else none)))) else (bif Nat.blt pc 42 then (bif Nat.blt pc 38 then (bif Nat.blt pc 36 then (bif Nat.beq pc 35 then some (.l2i) else none) else (bif Nat.beq pc 36 then some (.iload 6) else none)) else (bif Nat.blt pc 40 then (bif Nat.beq pc 38 then some (.iload 7) else none) else (bif Nat.beq pc 40 then some (.bipush 10) else none))) else (bif Nat.blt pc 46 then (bif Nat.blt pc 45 then (bif Nat.beq pc 42 then some (.invokevirtual 102) else none) else (bif Nat.beq pc 45 then some (.aload_n 0) else none)) else (bif Nat.blt pc 49 then (bif Nat.beq pc 46 then some (.invokevirtual 105) else none) else (bif Nat.beq pc 49 then some (.lreturn) else none)))))
def q_x109 : Nat → Option Instr := q_g 50 q_t109
def q_y109 : MethodName := ⟨"RatchetPostModel", "tag", "(IIIJII)J"⟩
def q_m109 : q_MI := (q_y109, prog_10_method_32_code, 8, (some .long), 8, 3, false, q_x109)
def q_t110 (pc : Nat) : Option Instr := bif Nat.blt pc 9 then (bif Nat.blt pc 5 then (bif Nat.blt pc 1 then (bif Nat.beq pc 0 then some (.aload_n 0) else none) else (bif Nat.blt pc 2 then (bif Nat.beq pc 1 then some (.aload_n 0) else none) else (bif Nat.beq pc 2 then some (.getfield 69) else none))) else (bif Nat.blt pc 6 then (bif Nat.beq pc 5 then some (.iconst 0) else none) else (bif Nat.blt pc 8 then (bif Nat.beq pc 6 then some (.bipush 9) else none) else (bif Nat.beq pc 8 then some (.iconst 0) else none)))) else (bif Nat.blt pc 14 then (bif Nat.blt pc 10 then (bif Nat.beq pc 9 then some (.iconst 0) else none) else (bif Nat.blt pc 11 then (bif Nat.beq pc 10 then some (.iconst 0) else none) else (bif Nat.beq pc 11 then some (.invokevirtual 102) else none))) else (bif Nat.blt pc 15 then (bif Nat.beq pc 14 then some (.aload_n 0) else none) else (bif Nat.blt pc 18 then (bif Nat.beq pc 15 then some (.invokevirtual 105) else none) else (bif Nat.beq pc 18 then some (.lreturn) else none))))
def q_x110 : Nat → Option Instr := q_g 19 q_t110
def q_y110 : MethodName := ⟨"RatchetPostModel", "mask", "()J"⟩
def q_m110 : q_MI := (q_y110, prog_10_method_33_code, 1, (some .long), 8, 3, false, q_x110)
def q_t111 (pc : Nat) : Option Instr := bif Nat.blt pc 205 then (bif Nat.blt pc 102 then (bif Nat.blt pc 49 then (bif Nat.blt pc 23 then (bif Nat.blt pc 13 then (bif Nat.blt pc 3 then (bif Nat.blt pc 1 then (bif Nat.beq pc 0 then some (.aload_n 0) else none) else (bif Nat.blt pc 2 then (bif Nat.beq pc 1 then some (.iload_n 1) else none) else (bif Nat.beq pc 2 then some (.iload_n 2) else none))) else (bif Nat.blt pc 9 then (bif Nat.blt pc 6 then (bif Nat.beq pc 3 then some (.invokevirtual 149) else none) else (bif Nat.beq pc 6 then some (.ifCond .eq 25) else none)) else (bif Nat.blt pc 10 then (bif Nat.beq pc 9 then some (.aload_n 0) else none) else (bif Nat.beq pc 10 then some (.getfield 50) else none)))) else (bif Nat.blt pc 17 then (bif Nat.blt pc 15 then (bif Nat.blt pc 14 then (bif Nat.beq pc 13 then some (.iconst 4) else none) else (bif Nat.beq pc 14 then some (.iload_n 1) else none)) else (bif Nat.blt pc 16 then (bif Nat.beq pc 15 then some (.imul) else none) else (bif Nat.beq pc 16 then some (.iload_n 2) else none))) else (bif Nat.blt pc 19 then (bif Nat.blt pc 18 then (bif Nat.beq pc 17 then some (.iadd) else none) else (bif Nat.beq pc 18 then some (.iaload) else none)) else (bif Nat.blt pc 22 then (bif Nat.beq pc 19 then some (.ifCond .eq 12) else none) else (bif Nat.beq pc 22 then some (.aload_n 0) else none))))) else (bif Nat.blt pc 36 then (bif Nat.blt pc 32 then (bif Nat.blt pc 28 then (bif Nat.blt pc 26 then (bif Nat.beq pc 23 then some (.getfield 169) else none) else (bif Nat.beq pc 26 then some (.bipush 60) else none)) else (bif Nat.blt pc 31 then (bif Nat.beq pc 28 then some (.if_icmp .ne 5) else none) else (bif Nat.beq pc 31 then some (.iconst (-1)) else none))) else (bif Nat.blt pc 34 then (bif Nat.blt pc 33 then (bif Nat.beq pc 32 then some (.ireturn) else none) else (bif Nat.beq pc 33 then some (.iconst 4) else none)) else (bif Nat.blt pc 35 then (bif Nat.beq pc 34 then some (.iload_n 1) else none) else (bif Nat.beq pc 35 then some (.imul) else none)))) else (bif Nat.blt pc 41 then (bif Nat.blt pc 38 then (bif Nat.blt pc 37 then (bif Nat.beq pc 36 then some (.iload_n 2) else none) else (bif Nat.beq pc 37 then some (.iadd) else none)) else (bif Nat.blt pc 40 then (bif Nat.beq pc 38 then some (.istore 5) else none) else (bif Nat.beq pc 40 then some (.aload_n 0) else none))) else (bif Nat.blt pc 44 then (bif Nat.blt pc 43 then (bif Nat.beq pc 41 then some (.iload 5) else none) else (bif Nat.beq pc 43 then some (.iconst 0) else none)) else (bif Nat.blt pc 47 then (bif Nat.beq pc 44 then some (.invokevirtual 172) else none) else (bif Nat.beq pc 47 then some (.bipush 12) else none)))))) else (bif Nat.blt pc 76 then (bif Nat.blt pc 61 then (bif Nat.blt pc 54 then (bif Nat.blt pc 50 then (bif Nat.beq pc 49 then some (.aload_n 0) else none) else (bif Nat.blt pc 53 then (bif Nat.beq pc 50 then some (.getfield 169) else none) else (bif Nat.beq pc 53 then some (.imul) else none))) else (bif Nat.blt pc 57 then (bif Nat.blt pc 56 then (bif Nat.beq pc 54 then some (.istore 6) else none) else (bif Nat.beq pc 56 then some (.iconst 0) else none)) else (bif Nat.blt pc 59 then (bif Nat.beq pc 57 then some (.istore 7) else none) else (bif Nat.beq pc 59 then some (.iload 7) else none)))) else (bif Nat.blt pc 70 then (bif Nat.blt pc 66 then (bif Nat.blt pc 63 then (bif Nat.beq pc 61 then some (.bipush 12) else none) else (bif Nat.beq pc 63 then some (.if_icmp .ge 20) else none)) else (bif Nat.blt pc 67 then (bif Nat.beq pc 66 then some (.aload_n 0) else none) else (bif Nat.beq pc 67 then some (.getfield 56) else none))) else (bif Nat.blt pc 74 then (bif Nat.blt pc 72 then (bif Nat.beq pc 70 then some (.iload 6) else none) else (bif Nat.beq pc 72 then some (.iload 7) else none)) else (bif Nat.blt pc 75 then (bif Nat.beq pc 74 then some (.iadd) else none) else (bif Nat.beq pc 75 then some (.lconst 0) else none))))) else (bif Nat.blt pc 91 then (bif Nat.blt pc 84 then (bif Nat.blt pc 80 then (bif Nat.blt pc 77 then (bif Nat.beq pc 76 then some (.lastore) else none) else (bif Nat.beq pc 77 then some (.iinc 7 1) else none)) else (bif Nat.blt pc 83 then (bif Nat.beq pc 80 then some (.goto (-21)) else none) else (bif Nat.beq pc 83 then some (.aload_n 0) else none))) else (bif Nat.blt pc 89 then (bif Nat.blt pc 87 then (bif Nat.beq pc 84 then some (.getfield 56) else none) else (bif Nat.beq pc 87 then some (.iload 6) else none)) else (bif Nat.blt pc 90 then (bif Nat.beq pc 89 then some (.iload_n 1) else none) else (bif Nat.beq pc 90 then some (.i2l) else none)))) else (bif Nat.blt pc 98 then (bif Nat.blt pc 93 then (bif Nat.blt pc 92 then (bif Nat.beq pc 91 then some (.lastore) else none) else (bif Nat.beq pc 92 then some (.aload_n 0) else none)) else (bif Nat.blt pc 96 then (bif Nat.beq pc 93 then some (.getfield 56) else none) else (bif Nat.beq pc 96 then some (.iload 6) else none))) else (bif Nat.blt pc 100 then (bif Nat.blt pc 99 then (bif Nat.beq pc 98 then some (.iconst 1) else none) else (bif Nat.beq pc 99 then some (.iadd) else none)) else (bif Nat.blt pc 101 then (bif Nat.beq pc 100 then some (.iload_n 2) else none) else (bif Nat.beq pc 101 then some (.i2l) else none))))))) else (bif Nat.blt pc 159 then (bif Nat.blt pc 129 then (bif Nat.blt pc 114 then (bif Nat.blt pc 107 then (bif Nat.blt pc 103 then (bif Nat.beq pc 102 then some (.lastore) else none) else (bif Nat.blt pc 104 then (bif Nat.beq pc 103 then some (.aload_n 0) else none) else (bif Nat.beq pc 104 then some (.getfield 53) else none))) else (bif Nat.blt pc 110 then (bif Nat.blt pc 109 then (bif Nat.beq pc 107 then some (.bipush 10) else none) else (bif Nat.beq pc 109 then some (.iaload) else none)) else (bif Nat.blt pc 111 then (bif Nat.beq pc 110 then some (.iconst 1) else none) else (bif Nat.beq pc 111 then some (.if_icmp .ne 17) else none)))) else (bif Nat.blt pc 121 then (bif Nat.blt pc 118 then (bif Nat.blt pc 115 then (bif Nat.beq pc 114 then some (.aload_n 0) else none) else (bif Nat.beq pc 115 then some (.getfield 53) else none)) else (bif Nat.blt pc 120 then (bif Nat.beq pc 118 then some (.bipush 11) else none) else (bif Nat.beq pc 120 then some (.iaload) else none))) else (bif Nat.blt pc 125 then (bif Nat.blt pc 124 then (bif Nat.beq pc 121 then some (.ifCond .ne 7) else none) else (bif Nat.beq pc 124 then some (.iconst 1) else none)) else (bif Nat.blt pc 128 then (bif Nat.beq pc 125 then some (.goto 4) else none) else (bif Nat.beq pc 128 then some (.iconst 0) else none))))) else (bif Nat.blt pc 144 then (bif Nat.blt pc 137 then (bif Nat.blt pc 132 then (bif Nat.blt pc 131 then (bif Nat.beq pc 129 then some (.istore 7) else none) else (bif Nat.beq pc 131 then some (.aload_n 0) else none)) else (bif Nat.blt pc 135 then (bif Nat.beq pc 132 then some (.getfield 56) else none) else (bif Nat.beq pc 135 then some (.iload 6) else none))) else (bif Nat.blt pc 139 then (bif Nat.blt pc 138 then (bif Nat.beq pc 137 then some (.iconst 2) else none) else (bif Nat.beq pc 138 then some (.iadd) else none)) else (bif Nat.blt pc 141 then (bif Nat.beq pc 139 then some (.iload 7) else none) else (bif Nat.beq pc 141 then some (.ifCond .eq 7) else none)))) else (bif Nat.blt pc 150 then (bif Nat.blt pc 148 then (bif Nat.blt pc 145 then (bif Nat.beq pc 144 then some (.lconst 0) else none) else (bif Nat.beq pc 145 then some (.goto 4) else none)) else (bif Nat.blt pc 149 then (bif Nat.beq pc 148 then some (.lconst 1) else none) else (bif Nat.beq pc 149 then some (.lastore) else none))) else (bif Nat.blt pc 155 then (bif Nat.blt pc 152 then (bif Nat.beq pc 150 then some (.iload 7) else none) else (bif Nat.beq pc 152 then some (.ifCond .eq 74) else none)) else (bif Nat.blt pc 156 then (bif Nat.beq pc 155 then some (.aload_n 0) else none) else (bif Nat.beq pc 156 then some (.getfield 56) else none)))))) else (bif Nat.blt pc 181 then (bif Nat.blt pc 170 then (bif Nat.blt pc 164 then (bif Nat.blt pc 162 then (bif Nat.blt pc 161 then (bif Nat.beq pc 159 then some (.iload 6) else none) else (bif Nat.beq pc 161 then some (.iconst 3) else none)) else (bif Nat.blt pc 163 then (bif Nat.beq pc 162 then some (.iadd) else none) else (bif Nat.beq pc 163 then some (.aload_n 0) else none))) else (bif Nat.blt pc 168 then (bif Nat.blt pc 167 then (bif Nat.beq pc 164 then some (.getfield 23) else none) else (bif Nat.beq pc 167 then some (.iconst 2) else none)) else (bif Nat.blt pc 169 then (bif Nat.beq pc 168 then some (.iload_n 1) else none) else (bif Nat.beq pc 169 then some (.imul) else none)))) else (bif Nat.blt pc 174 then (bif Nat.blt pc 172 then (bif Nat.blt pc 171 then (bif Nat.beq pc 170 then some (.iconst 1) else none) else (bif Nat.beq pc 171 then some (.iadd) else none)) else (bif Nat.blt pc 173 then (bif Nat.beq pc 172 then some (.iaload) else none) else (bif Nat.beq pc 173 then some (.i2l) else none))) else (bif Nat.blt pc 176 then (bif Nat.blt pc 175 then (bif Nat.beq pc 174 then some (.lastore) else none) else (bif Nat.beq pc 175 then some (.aload_n 0) else none)) else (bif Nat.blt pc 179 then (bif Nat.beq pc 176 then some (.getfield 56) else none) else (bif Nat.beq pc 179 then some (.iload 6) else none))))) else (bif Nat.blt pc 191 then (bif Nat.blt pc 187 then (bif Nat.blt pc 183 then (bif Nat.blt pc 182 then (bif Nat.beq pc 181 then some (.iconst 4) else none) else (bif Nat.beq pc 182 then some (.iadd) else none)) else (bif Nat.blt pc 184 then (bif Nat.beq pc 183 then some (.aload_n 0) else none) else (bif Nat.beq pc 184 then some (.getfield 53) else none))) else (bif Nat.blt pc 189 then (bif Nat.blt pc 188 then (bif Nat.beq pc 187 then some (.iconst 0) else none) else (bif Nat.beq pc 188 then some (.iaload) else none)) else (bif Nat.blt pc 190 then (bif Nat.beq pc 189 then some (.i2l) else none) else (bif Nat.beq pc 190 then some (.lastore) else none)))) else (bif Nat.blt pc 198 then (bif Nat.blt pc 195 then (bif Nat.blt pc 192 then (bif Nat.beq pc 191 then some (.aload_n 0) else none) else (bif Nat.beq pc 192 then some (.getfield 56) else none)) else (bif Nat.blt pc 197 then (bif Nat.beq pc 195 then some (.iload 6) else none) else (bif Nat.beq pc 197 then some (.iconst 5) else none))) else (bif Nat.blt pc 200 then (bif Nat.blt pc 199 then (bif Nat.beq pc 198 then some (.iadd) else none) else (bif Nat.beq pc 199 then some (.aload_n 0) else none)) else (bif Nat.blt pc 203 then (bif Nat.beq pc 200 then some (.getfield 53) else none) else (bif Nat.beq pc 203 then some (.bipush 12) else none)))))))) else (bif Nat.blt pc 305 then (bif Nat.blt pc 253 then (bif Nat.blt pc 227 then (bif Nat.blt pc 216 then (bif Nat.blt pc 208 then (bif Nat.blt pc 206 then (bif Nat.beq pc 205 then some (.iaload) else none) else (bif Nat.blt pc 207 then (bif Nat.beq pc 206 then some (.i2l) else none) else (bif Nat.beq pc 207 then some (.lastore) else none))) else (bif Nat.blt pc 212 then (bif Nat.blt pc 209 then (bif Nat.beq pc 208 then some (.aload_n 0) else none) else (bif Nat.beq pc 209 then some (.getfield 56) else none)) else (bif Nat.blt pc 214 then (bif Nat.beq pc 212 then some (.iload 6) else none) else (bif Nat.beq pc 214 then some (.bipush 6) else none)))) else (bif Nat.blt pc 223 then (bif Nat.blt pc 218 then (bif Nat.blt pc 217 then (bif Nat.beq pc 216 then some (.iadd) else none) else (bif Nat.beq pc 217 then some (.aload_n 0) else none)) else (bif Nat.blt pc 221 then (bif Nat.beq pc 218 then some (.getfield 53) else none) else (bif Nat.beq pc 221 then some (.bipush 13) else none))) else (bif Nat.blt pc 225 then (bif Nat.blt pc 224 then (bif Nat.beq pc 223 then some (.iaload) else none) else (bif Nat.beq pc 224 then some (.i2l) else none)) else (bif Nat.blt pc 226 then (bif Nat.beq pc 225 then some (.lastore) else none) else (bif Nat.beq pc 226 then some (.aload_n 0) else none))))) else (bif Nat.blt pc 241 then (bif Nat.blt pc 235 then (bif Nat.blt pc 232 then (bif Nat.blt pc 230 then (bif Nat.beq pc 227 then some (.getfield 56) else none) else (bif Nat.beq pc 230 then some (.iload 6) else none)) else (bif Nat.blt pc 234 then (bif Nat.beq pc 232 then some (.bipush 7) else none) else (bif Nat.beq pc 234 then some (.iadd) else none))) else (bif Nat.blt pc 239 then (bif Nat.blt pc 236 then (bif Nat.beq pc 235 then some (.aload_n 0) else none) else (bif Nat.beq pc 236 then some (.getfield 53) else none)) else (bif Nat.blt pc 240 then (bif Nat.beq pc 239 then some (.iconst 3) else none) else (bif Nat.beq pc 240 then some (.iaload) else none)))) else (bif Nat.blt pc 247 then (bif Nat.blt pc 243 then (bif Nat.blt pc 242 then (bif Nat.beq pc 241 then some (.i2l) else none) else (bif Nat.beq pc 242 then some (.lastore) else none)) else (bif Nat.blt pc 244 then (bif Nat.beq pc 243 then some (.aload_n 0) else none) else (bif Nat.beq pc 244 then some (.getfield 56) else none))) else (bif Nat.blt pc 251 then (bif Nat.blt pc 249 then (bif Nat.beq pc 247 then some (.iload 6) else none) else (bif Nat.beq pc 249 then some (.bipush 8) else none)) else (bif Nat.blt pc 252 then (bif Nat.beq pc 251 then some (.iadd) else none) else (bif Nat.beq pc 252 then some (.aload_n 0) else none)))))) else (bif Nat.blt pc 278 then (bif Nat.blt pc 265 then (bif Nat.blt pc 259 then (bif Nat.blt pc 256 then (bif Nat.beq pc 253 then some (.getfield 53) else none) else (bif Nat.blt pc 258 then (bif Nat.beq pc 256 then some (.bipush 6) else none) else (bif Nat.beq pc 258 then some (.iaload) else none))) else (bif Nat.blt pc 261 then (bif Nat.blt pc 260 then (bif Nat.beq pc 259 then some (.i2l) else none) else (bif Nat.beq pc 260 then some (.lastore) else none)) else (bif Nat.blt pc 262 then (bif Nat.beq pc 261 then some (.aload_n 0) else none) else (bif Nat.beq pc 262 then some (.getfield 56) else none)))) else (bif Nat.blt pc 271 then (bif Nat.blt pc 269 then (bif Nat.blt pc 267 then (bif Nat.beq pc 265 then some (.iload 6) else none) else (bif Nat.beq pc 267 then some (.bipush 9) else none)) else (bif Nat.blt pc 270 then (bif Nat.beq pc 269 then some (.iadd) else none) else (bif Nat.beq pc 270 then some (.aload_n 0) else none))) else (bif Nat.blt pc 276 then (bif Nat.blt pc 274 then (bif Nat.beq pc 271 then some (.getfield 53) else none) else (bif Nat.beq pc 274 then some (.bipush 8) else none)) else (bif Nat.blt pc 277 then (bif Nat.beq pc 276 then some (.iaload) else none) else (bif Nat.beq pc 277 then some (.i2l) else none))))) else (bif Nat.blt pc 293 then (bif Nat.blt pc 285 then (bif Nat.blt pc 280 then (bif Nat.blt pc 279 then (bif Nat.beq pc 278 then some (.lastore) else none) else (bif Nat.beq pc 279 then some (.aload_n 0) else none)) else (bif Nat.blt pc 282 then (bif Nat.beq pc 280 then some (.bipush 22) else none) else (bif Nat.beq pc 282 then some (.invokevirtual 175) else none))) else (bif Nat.blt pc 289 then (bif Nat.blt pc 286 then (bif Nat.beq pc 285 then some (.aload_n 0) else none) else (bif Nat.beq pc 286 then some (.getfield 56) else none)) else (bif Nat.blt pc 291 then (bif Nat.beq pc 289 then some (.iload 6) else none) else (bif Nat.beq pc 291 then some (.bipush 10) else none)))) else (bif Nat.blt pc 299 then (bif Nat.blt pc 295 then (bif Nat.blt pc 294 then (bif Nat.beq pc 293 then some (.iadd) else none) else (bif Nat.beq pc 294 then some (.lload_n 3) else none)) else (bif Nat.blt pc 296 then (bif Nat.beq pc 295 then some (.aload_n 0) else none) else (bif Nat.beq pc 296 then some (.invokevirtual 178) else none))) else (bif Nat.blt pc 301 then (bif Nat.blt pc 300 then (bif Nat.beq pc 299 then some (.lxor) else none) else (bif Nat.beq pc 300 then some (.lastore) else none)) else (bif Nat.blt pc 302 then (bif Nat.beq pc 301 then some (.aload_n 0) else none) else (bif Nat.beq pc 302 then some (.getfield 56) else none))))))) else (bif Nat.blt pc 352 then (bif Nat.blt pc 330 then (bif Nat.blt pc 316 then (bif Nat.blt pc 310 then (bif Nat.blt pc 307 then (bif Nat.beq pc 305 then some (.iload 6) else none) else (bif Nat.blt pc 309 then (bif Nat.beq pc 307 then some (.bipush 11) else none) else (bif Nat.beq pc 309 then some (.iadd) else none))) else (bif Nat.blt pc 312 then (bif Nat.blt pc 311 then (bif Nat.beq pc 310 then some (.aload_n 0) else none) else (bif Nat.beq pc 311 then some (.aload_n 0) else none)) else (bif Nat.blt pc 315 then (bif Nat.beq pc 312 then some (.getfield 53) else none) else (bif Nat.beq pc 315 then some (.iconst 3) else none)))) else (bif Nat.blt pc 323 then (bif Nat.blt pc 318 then (bif Nat.blt pc 317 then (bif Nat.beq pc 316 then some (.iaload) else none) else (bif Nat.beq pc 317 then some (.aload_n 0) else none)) else (bif Nat.blt pc 321 then (bif Nat.beq pc 318 then some (.getfield 53) else none) else (bif Nat.beq pc 321 then some (.bipush 6) else none))) else (bif Nat.blt pc 325 then (bif Nat.blt pc 324 then (bif Nat.beq pc 323 then some (.iaload) else none) else (bif Nat.beq pc 324 then some (.aload_n 0) else none)) else (bif Nat.blt pc 328 then (bif Nat.beq pc 325 then some (.getfield 53) else none) else (bif Nat.beq pc 328 then some (.bipush 8) else none))))) else (bif Nat.blt pc 342 then (bif Nat.blt pc 337 then (bif Nat.blt pc 332 then (bif Nat.blt pc 331 then (bif Nat.beq pc 330 then some (.iaload) else none) else (bif Nat.beq pc 331 then some (.aload_n 0) else none)) else (bif Nat.blt pc 335 then (bif Nat.beq pc 332 then some (.getfield 56) else none) else (bif Nat.beq pc 335 then some (.iload 6) else none))) else (bif Nat.blt pc 340 then (bif Nat.blt pc 339 then (bif Nat.beq pc 337 then some (.bipush 10) else none) else (bif Nat.beq pc 339 then some (.iadd) else none)) else (bif Nat.blt pc 341 then (bif Nat.beq pc 340 then some (.laload) else none) else (bif Nat.beq pc 341 then some (.aload_n 0) else none)))) else (bif Nat.blt pc 348 then (bif Nat.blt pc 346 then (bif Nat.blt pc 345 then (bif Nat.beq pc 342 then some (.getfield 23) else none) else (bif Nat.beq pc 345 then some (.iconst 2) else none)) else (bif Nat.blt pc 347 then (bif Nat.beq pc 346 then some (.iload_n 1) else none) else (bif Nat.beq pc 347 then some (.imul) else none))) else (bif Nat.blt pc 350 then (bif Nat.blt pc 349 then (bif Nat.beq pc 348 then some (.iconst 1) else none) else (bif Nat.beq pc 349 then some (.iadd) else none)) else (bif Nat.blt pc 351 then (bif Nat.beq pc 350 then some (.iaload) else none) else (bif Nat.beq pc 351 then some (.aload_n 0) else none)))))) else (bif Nat.blt pc 375 then (bif Nat.blt pc 364 then (bif Nat.blt pc 358 then (bif Nat.blt pc 356 then (bif Nat.blt pc 355 then (bif Nat.beq pc 352 then some (.getfield 23) else none) else (bif Nat.beq pc 355 then some (.iconst 2) else none)) else (bif Nat.blt pc 357 then (bif Nat.beq pc 356 then some (.iload_n 2) else none) else (bif Nat.beq pc 357 then some (.imul) else none))) else (bif Nat.blt pc 360 then (bif Nat.blt pc 359 then (bif Nat.beq pc 358 then some (.iconst 1) else none) else (bif Nat.beq pc 359 then some (.iadd) else none)) else (bif Nat.blt pc 361 then (bif Nat.beq pc 360 then some (.iaload) else none) else (bif Nat.beq pc 361 then some (.invokevirtual 181) else none)))) else (bif Nat.blt pc 371 then (bif Nat.blt pc 366 then (bif Nat.blt pc 365 then (bif Nat.beq pc 364 then some (.lastore) else none) else (bif Nat.beq pc 365 then some (.aload_n 0) else none)) else (bif Nat.blt pc 369 then (bif Nat.beq pc 366 then some (.getfield 53) else none) else (bif Nat.beq pc 369 then some (.bipush 6) else none))) else (bif Nat.blt pc 373 then (bif Nat.blt pc 372 then (bif Nat.beq pc 371 then some (.dup2) else none) else (bif Nat.beq pc 372 then some (.iaload) else none)) else (bif Nat.blt pc 374 then (bif Nat.beq pc 373 then some (.iconst 1) else none) else (bif Nat.beq pc 374 then some (.iadd) else none))))) else (bif Nat.blt pc 388 then (bif Nat.blt pc 380 then (bif Nat.blt pc 377 then (bif Nat.blt pc 376 then (bif Nat.beq pc 375 then some (.iastore) else none) else (bif Nat.beq pc 376 then some (.aload_n 0) else none)) else (bif Nat.blt pc 379 then (bif Nat.beq pc 377 then some (.iload 5) else none) else (bif Nat.beq pc 379 then some (.iconst 0) else none))) else (bif Nat.blt pc 384 then (bif Nat.blt pc 383 then (bif Nat.beq pc 380 then some (.invokevirtual 138) else none) else (bif Nat.beq pc 383 then some (.aload_n 0) else none)) else (bif Nat.blt pc 385 then (bif Nat.beq pc 384 then some (.dup) else none) else (bif Nat.beq pc 385 then some (.getfield 169) else none)))) else (bif Nat.blt pc 394 then (bif Nat.blt pc 390 then (bif Nat.blt pc 389 then (bif Nat.beq pc 388 then some (.iconst 1) else none) else (bif Nat.beq pc 389 then some (.iadd) else none)) else (bif Nat.blt pc 393 then (bif Nat.beq pc 390 then some (.putfield 169) else none) else (bif Nat.beq pc 393 then some (.aload_n 0) else none))) else (bif Nat.blt pc 398 then (bif Nat.blt pc 397 then (bif Nat.beq pc 394 then some (.getfield 169) else none) else (bif Nat.beq pc 397 then some (.iconst 1) else none)) else (bif Nat.blt pc 399 then (bif Nat.beq pc 398 then some (.isub) else none) else (bif Nat.beq pc 399 then some (.ireturn) else none))))))))
def q_x111 : Nat → Option Instr := q_g 400 q_t111
def q_y111 : MethodName := ⟨"RatchetPostModel", "send", "(IIJ)I"⟩
def q_m111 : q_MI := (q_y111, prog_10_method_34_code, 8, (some .int), 8, 1, false, q_x111)
def q_t112 (pc : Nat) : Option Instr := bif Nat.blt pc 9 then (bif Nat.blt pc 4 then (bif Nat.blt pc 1 then (bif Nat.beq pc 0 then some (.iload_n 1) else none) else (bif Nat.beq pc 1 then some (.ifCond .lt 15) else none)) else (bif Nat.blt pc 5 then (bif Nat.beq pc 4 then some (.iload_n 1) else none) else (bif Nat.blt pc 6 then (bif Nat.beq pc 5 then some (.aload_n 0) else none) else (bif Nat.beq pc 6 then some (.getfield 169) else none)))) else (bif Nat.blt pc 13 then (bif Nat.blt pc 12 then (bif Nat.beq pc 9 then some (.if_icmp .ge 7) else none) else (bif Nat.beq pc 12 then some (.iconst 1) else none)) else (bif Nat.blt pc 16 then (bif Nat.beq pc 13 then some (.goto 4) else none) else (bif Nat.blt pc 17 then (bif Nat.beq pc 16 then some (.iconst 0) else none) else (bif Nat.beq pc 17 then some (.ireturn) else none))))
def q_x112 : Nat → Option Instr := q_g 18 q_t112
def q_y112 : MethodName := ⟨"RatchetPostModel", "there", "(I)Z"⟩
def q_m112 : q_MI := (q_y112, prog_10_method_35_code, 2, (some .boolean), 8, 2, false, q_x112)
def q_t113 (pc : Nat) : Option Instr := bif Nat.blt pc 21 then (bif Nat.blt pc 12 then (bif Nat.blt pc 5 then (bif Nat.blt pc 1 then (bif Nat.beq pc 0 then some (.aload_n 0) else none) else (bif Nat.blt pc 2 then (bif Nat.beq pc 1 then some (.iload_n 1) else none) else (bif Nat.beq pc 2 then some (.invokevirtual 185) else none))) else (bif Nat.blt pc 8 then (bif Nat.beq pc 5 then some (.ifCond .eq 13) else none) else (bif Nat.blt pc 9 then (bif Nat.beq pc 8 then some (.iload_n 2) else none) else (bif Nat.beq pc 9 then some (.ifCond .lt 9) else none)))) else (bif Nat.blt pc 18 then (bif Nat.blt pc 13 then (bif Nat.beq pc 12 then some (.iload_n 2) else none) else (bif Nat.blt pc 15 then (bif Nat.beq pc 13 then some (.bipush 11) else none) else (bif Nat.beq pc 15 then some (.if_icmp .le 5) else none))) else (bif Nat.blt pc 19 then (bif Nat.beq pc 18 then some (.iconst 0) else none) else (bif Nat.blt pc 20 then (bif Nat.beq pc 19 then some (.ireturn) else none) else (bif Nat.beq pc 20 then some (.aload_n 0) else none))))) else (bif Nat.blt pc 30 then (bif Nat.blt pc 27 then (bif Nat.blt pc 24 then (bif Nat.beq pc 21 then some (.getfield 56) else none) else (bif Nat.blt pc 26 then (bif Nat.beq pc 24 then some (.bipush 12) else none) else (bif Nat.beq pc 26 then some (.iload_n 1) else none))) else (bif Nat.blt pc 28 then (bif Nat.beq pc 27 then some (.imul) else none) else (bif Nat.blt pc 29 then (bif Nat.beq pc 28 then some (.iload_n 2) else none) else (bif Nat.beq pc 29 then some (.iadd) else none)))) else (bif Nat.blt pc 33 then (bif Nat.blt pc 31 then (bif Nat.beq pc 30 then some (.dup2) else none) else (bif Nat.blt pc 32 then (bif Nat.beq pc 31 then some (.laload) else none) else (bif Nat.beq pc 32 then some (.lload_n 3) else none))) else (bif Nat.blt pc 35 then (bif Nat.blt pc 34 then (bif Nat.beq pc 33 then some (.lxor) else none) else (bif Nat.beq pc 34 then some (.lastore) else none)) else (bif Nat.blt pc 36 then (bif Nat.beq pc 35 then some (.iconst 1) else none) else (bif Nat.beq pc 36 then some (.ireturn) else none)))))
def q_x113 : Nat → Option Instr := q_g 37 q_t113
def q_y113 : MethodName := ⟨"RatchetPostModel", "alter", "(IIJ)Z"⟩
def q_m113 : q_MI := (q_y113, prog_10_method_36_code, 5, (some .boolean), 8, 2, false, q_x113)
def q_t114 (pc : Nat) : Option Instr := bif Nat.blt pc 39 then (bif Nat.blt pc 20 then (bif Nat.blt pc 9 then (bif Nat.blt pc 2 then (bif Nat.blt pc 1 then (bif Nat.beq pc 0 then some (.aload_n 0) else none) else (bif Nat.beq pc 1 then some (.iload_n 1) else none)) else (bif Nat.blt pc 5 then (bif Nat.beq pc 2 then some (.invokevirtual 185) else none) else (bif Nat.blt pc 8 then (bif Nat.beq pc 5 then some (.ifCond .eq 12) else none) else (bif Nat.beq pc 8 then some (.aload_n 0) else none)))) else (bif Nat.blt pc 17 then (bif Nat.blt pc 12 then (bif Nat.beq pc 9 then some (.getfield 169) else none) else (bif Nat.blt pc 14 then (bif Nat.beq pc 12 then some (.bipush 60) else none) else (bif Nat.beq pc 14 then some (.if_icmp .ne 5) else none))) else (bif Nat.blt pc 18 then (bif Nat.beq pc 17 then some (.iconst (-1)) else none) else (bif Nat.blt pc 19 then (bif Nat.beq pc 18 then some (.ireturn) else none) else (bif Nat.beq pc 19 then some (.iconst 0) else none))))) else (bif Nat.blt pc 28 then (bif Nat.blt pc 22 then (bif Nat.blt pc 21 then (bif Nat.beq pc 20 then some (.istore_n 2) else none) else (bif Nat.beq pc 21 then some (.iload_n 2) else none)) else (bif Nat.blt pc 24 then (bif Nat.beq pc 22 then some (.bipush 12) else none) else (bif Nat.blt pc 27 then (bif Nat.beq pc 24 then some (.if_icmp .ge 34) else none) else (bif Nat.beq pc 27 then some (.aload_n 0) else none)))) else (bif Nat.blt pc 34 then (bif Nat.blt pc 31 then (bif Nat.beq pc 28 then some (.getfield 56) else none) else (bif Nat.blt pc 33 then (bif Nat.beq pc 31 then some (.bipush 12) else none) else (bif Nat.beq pc 33 then some (.aload_n 0) else none))) else (bif Nat.blt pc 37 then (bif Nat.beq pc 34 then some (.getfield 169) else none) else (bif Nat.blt pc 38 then (bif Nat.beq pc 37 then some (.imul) else none) else (bif Nat.beq pc 38 then some (.iload_n 2) else none)))))) else (bif Nat.blt pc 55 then (bif Nat.blt pc 47 then (bif Nat.blt pc 41 then (bif Nat.blt pc 40 then (bif Nat.beq pc 39 then some (.iadd) else none) else (bif Nat.beq pc 40 then some (.aload_n 0) else none)) else (bif Nat.blt pc 44 then (bif Nat.beq pc 41 then some (.getfield 56) else none) else (bif Nat.blt pc 46 then (bif Nat.beq pc 44 then some (.bipush 12) else none) else (bif Nat.beq pc 46 then some (.iload_n 1) else none)))) else (bif Nat.blt pc 50 then (bif Nat.blt pc 48 then (bif Nat.beq pc 47 then some (.imul) else none) else (bif Nat.blt pc 49 then (bif Nat.beq pc 48 then some (.iload_n 2) else none) else (bif Nat.beq pc 49 then some (.iadd) else none))) else (bif Nat.blt pc 51 then (bif Nat.beq pc 50 then some (.laload) else none) else (bif Nat.blt pc 52 then (bif Nat.beq pc 51 then some (.lastore) else none) else (bif Nat.beq pc 52 then some (.iinc 2 1) else none))))) else (bif Nat.blt pc 65 then (bif Nat.blt pc 60 then (bif Nat.blt pc 58 then (bif Nat.beq pc 55 then some (.goto (-34)) else none) else (bif Nat.blt pc 59 then (bif Nat.beq pc 58 then some (.aload_n 0) else none) else (bif Nat.beq pc 59 then some (.dup) else none))) else (bif Nat.blt pc 63 then (bif Nat.beq pc 60 then some (.getfield 169) else none) else (bif Nat.blt pc 64 then (bif Nat.beq pc 63 then some (.iconst 1) else none) else (bif Nat.beq pc 64 then some (.iadd) else none)))) else (bif Nat.blt pc 72 then (bif Nat.blt pc 68 then (bif Nat.beq pc 65 then some (.putfield 169) else none) else (bif Nat.blt pc 69 then (bif Nat.beq pc 68 then some (.aload_n 0) else none) else (bif Nat.beq pc 69 then some (.getfield 169) else none))) else (bif Nat.blt pc 73 then (bif Nat.beq pc 72 then some (.iconst 1) else none) else (bif Nat.blt pc 74 then (bif Nat.beq pc 73 then some (.isub) else none) else (bif Nat.beq pc 74 then some (.ireturn) else none))))))
def q_x114 : Nat → Option Instr := q_g 75 q_t114
def q_y114 : MethodName := ⟨"RatchetPostModel", "copy", "(I)I"⟩
def q_m114 : q_MI := (q_y114, prog_10_method_37_code, 3, (some .int), 8, 1, false, q_x114)
def q_t115 (pc : Nat) : Option Instr := bif Nat.blt pc 9 then (bif Nat.blt pc 3 then (bif Nat.blt pc 1 then (bif Nat.beq pc 0 then some (.lload_n 0) else none) else (bif Nat.blt pc 2 then (bif Nat.beq pc 1 then some (.lload_n 2) else none) else (bif Nat.beq pc 2 then some (.lcmp) else none))) else (bif Nat.blt pc 6 then (bif Nat.beq pc 3 then some (.ifCond .lt 14) else none) else (bif Nat.blt pc 7 then (bif Nat.beq pc 6 then some (.lload_n 0) else none) else (bif Nat.beq pc 7 then some (.lload 4) else none)))) else (bif Nat.blt pc 14 then (bif Nat.blt pc 10 then (bif Nat.beq pc 9 then some (.lcmp) else none) else (bif Nat.blt pc 13 then (bif Nat.beq pc 10 then some (.ifCond .gt 7) else none) else (bif Nat.beq pc 13 then some (.iconst 1) else none))) else (bif Nat.blt pc 17 then (bif Nat.beq pc 14 then some (.goto 4) else none) else (bif Nat.blt pc 18 then (bif Nat.beq pc 17 then some (.iconst 0) else none) else (bif Nat.beq pc 18 then some (.ireturn) else none))))
def q_x115 : Nat → Option Instr := q_g 19 q_t115
def q_y115 : MethodName := ⟨"RatchetPostModel", "within", "(JJJ)Z"⟩
def q_m115 : q_MI := (q_y115, prog_10_method_38_code, 6, (some .boolean), 8, 2, false, q_x115)
def q_t116 (pc : Nat) : Option Instr := bif Nat.blt pc 100 then (bif Nat.blt pc 49 then (bif Nat.blt pc 19 then (bif Nat.blt pc 11 then (bif Nat.blt pc 5 then (bif Nat.blt pc 1 then (bif Nat.beq pc 0 then some (.aload_n 0) else none) else (bif Nat.blt pc 4 then (bif Nat.beq pc 1 then some (.getfield 56) else none) else (bif Nat.beq pc 4 then some (.iload_n 1) else none))) else (bif Nat.blt pc 7 then (bif Nat.blt pc 6 then (bif Nat.beq pc 5 then some (.laload) else none) else (bif Nat.beq pc 6 then some (.lstore_n 2) else none)) else (bif Nat.blt pc 8 then (bif Nat.beq pc 7 then some (.aload_n 0) else none) else (bif Nat.beq pc 8 then some (.getfield 56) else none)))) else (bif Nat.blt pc 14 then (bif Nat.blt pc 12 then (bif Nat.beq pc 11 then some (.iload_n 1) else none) else (bif Nat.blt pc 13 then (bif Nat.beq pc 12 then some (.iconst 1) else none) else (bif Nat.beq pc 13 then some (.iadd) else none))) else (bif Nat.blt pc 17 then (bif Nat.blt pc 15 then (bif Nat.beq pc 14 then some (.laload) else none) else (bif Nat.beq pc 15 then some (.lstore 4) else none)) else (bif Nat.blt pc 18 then (bif Nat.beq pc 17 then some (.lload_n 2) else none) else (bif Nat.beq pc 18 then some (.lconst 0) else none))))) else (bif Nat.blt pc 37 then (bif Nat.blt pc 28 then (bif Nat.blt pc 22 then (bif Nat.beq pc 19 then some (.ldc2_w 188) else none) else (bif Nat.blt pc 25 then (bif Nat.beq pc 22 then some (.invokestatic 190) else none) else (bif Nat.beq pc 25 then some (.ifCond .eq 43) else none))) else (bif Nat.blt pc 31 then (bif Nat.blt pc 30 then (bif Nat.beq pc 28 then some (.lload 4) else none) else (bif Nat.beq pc 30 then some (.lconst 0) else none)) else (bif Nat.blt pc 34 then (bif Nat.beq pc 31 then some (.ldc2_w 188) else none) else (bif Nat.beq pc 34 then some (.invokestatic 190) else none)))) else (bif Nat.blt pc 42 then (bif Nat.blt pc 40 then (bif Nat.beq pc 37 then some (.ifCond .eq 31) else none) else (bif Nat.blt pc 41 then (bif Nat.beq pc 40 then some (.aload_n 0) else none) else (bif Nat.beq pc 41 then some (.lload_n 2) else none))) else (bif Nat.blt pc 45 then (bif Nat.blt pc 43 then (bif Nat.beq pc 42 then some (.l2i) else none) else (bif Nat.beq pc 43 then some (.lload 4) else none)) else (bif Nat.blt pc 46 then (bif Nat.beq pc 45 then some (.l2i) else none) else (bif Nat.beq pc 46 then some (.invokevirtual 149) else none)))))) else (bif Nat.blt pc 71 then (bif Nat.blt pc 60 then (bif Nat.blt pc 56 then (bif Nat.blt pc 52 then (bif Nat.beq pc 49 then some (.ifCond .eq 19) else none) else (bif Nat.blt pc 53 then (bif Nat.beq pc 52 then some (.aload_n 0) else none) else (bif Nat.beq pc 53 then some (.getfield 56) else none))) else (bif Nat.blt pc 58 then (bif Nat.blt pc 57 then (bif Nat.beq pc 56 then some (.iload_n 1) else none) else (bif Nat.beq pc 57 then some (.iconst 2) else none)) else (bif Nat.blt pc 59 then (bif Nat.beq pc 58 then some (.iadd) else none) else (bif Nat.beq pc 59 then some (.laload) else none)))) else (bif Nat.blt pc 65 then (bif Nat.blt pc 61 then (bif Nat.beq pc 60 then some (.lconst 0) else none) else (bif Nat.blt pc 62 then (bif Nat.beq pc 61 then some (.lconst 1) else none) else (bif Nat.beq pc 62 then some (.invokestatic 190) else none))) else (bif Nat.blt pc 69 then (bif Nat.blt pc 68 then (bif Nat.beq pc 65 then some (.ifCond .ne 5) else none) else (bif Nat.beq pc 68 then some (.iconst 1) else none)) else (bif Nat.blt pc 70 then (bif Nat.beq pc 69 then some (.ireturn) else none) else (bif Nat.beq pc 70 then some (.aload_n 0) else none))))) else (bif Nat.blt pc 85 then (bif Nat.blt pc 77 then (bif Nat.blt pc 74 then (bif Nat.beq pc 71 then some (.getfield 56) else none) else (bif Nat.blt pc 75 then (bif Nat.beq pc 74 then some (.iload_n 1) else none) else (bif Nat.beq pc 75 then some (.bipush 7) else none))) else (bif Nat.blt pc 79 then (bif Nat.blt pc 78 then (bif Nat.beq pc 77 then some (.iadd) else none) else (bif Nat.beq pc 78 then some (.laload) else none)) else (bif Nat.blt pc 82 then (bif Nat.beq pc 79 then some (.ldc2_w 194) else none) else (bif Nat.beq pc 82 then some (.ldc2_w 196) else none)))) else (bif Nat.blt pc 95 then (bif Nat.blt pc 91 then (bif Nat.blt pc 88 then (bif Nat.beq pc 85 then some (.invokestatic 190) else none) else (bif Nat.beq pc 88 then some (.ifCond .eq 41) else none)) else (bif Nat.blt pc 92 then (bif Nat.beq pc 91 then some (.aload_n 0) else none) else (bif Nat.beq pc 92 then some (.getfield 56) else none))) else (bif Nat.blt pc 98 then (bif Nat.blt pc 96 then (bif Nat.beq pc 95 then some (.iload_n 1) else none) else (bif Nat.beq pc 96 then some (.bipush 8) else none)) else (bif Nat.blt pc 99 then (bif Nat.beq pc 98 then some (.iadd) else none) else (bif Nat.beq pc 99 then some (.laload) else none))))))) else (bif Nat.blt pc 149 then (bif Nat.blt pc 129 then (bif Nat.blt pc 115 then (bif Nat.blt pc 107 then (bif Nat.blt pc 101 then (bif Nat.beq pc 100 then some (.lconst 0) else none) else (bif Nat.blt pc 104 then (bif Nat.beq pc 101 then some (.ldc2_w 198) else none) else (bif Nat.beq pc 104 then some (.invokestatic 190) else none))) else (bif Nat.blt pc 111 then (bif Nat.blt pc 110 then (bif Nat.beq pc 107 then some (.ifCond .eq 22) else none) else (bif Nat.beq pc 110 then some (.aload_n 0) else none)) else (bif Nat.blt pc 114 then (bif Nat.beq pc 111 then some (.getfield 56) else none) else (bif Nat.beq pc 114 then some (.iload_n 1) else none)))) else (bif Nat.blt pc 119 then (bif Nat.blt pc 117 then (bif Nat.beq pc 115 then some (.bipush 9) else none) else (bif Nat.blt pc 118 then (bif Nat.beq pc 117 then some (.iadd) else none) else (bif Nat.beq pc 118 then some (.laload) else none))) else (bif Nat.blt pc 123 then (bif Nat.blt pc 120 then (bif Nat.beq pc 119 then some (.lconst 0) else none) else (bif Nat.beq pc 120 then some (.ldc2_w 198) else none)) else (bif Nat.blt pc 126 then (bif Nat.beq pc 123 then some (.invokestatic 190) else none) else (bif Nat.beq pc 126 then some (.ifCond .ne 5) else none))))) else (bif Nat.blt pc 138 then (bif Nat.blt pc 132 then (bif Nat.blt pc 130 then (bif Nat.beq pc 129 then some (.iconst 1) else none) else (bif Nat.blt pc 131 then (bif Nat.beq pc 130 then some (.ireturn) else none) else (bif Nat.beq pc 131 then some (.aload_n 0) else none))) else (bif Nat.blt pc 136 then (bif Nat.blt pc 135 then (bif Nat.beq pc 132 then some (.getfield 56) else none) else (bif Nat.beq pc 135 then some (.iload_n 1) else none)) else (bif Nat.blt pc 137 then (bif Nat.beq pc 136 then some (.iconst 2) else none) else (bif Nat.beq pc 137 then some (.iadd) else none)))) else (bif Nat.blt pc 141 then (bif Nat.blt pc 139 then (bif Nat.beq pc 138 then some (.laload) else none) else (bif Nat.blt pc 140 then (bif Nat.beq pc 139 then some (.lconst 0) else none) else (bif Nat.beq pc 140 then some (.lcmp) else none))) else (bif Nat.blt pc 145 then (bif Nat.blt pc 144 then (bif Nat.beq pc 141 then some (.ifCond .ne 51) else none) else (bif Nat.beq pc 144 then some (.aload_n 0) else none)) else (bif Nat.blt pc 148 then (bif Nat.beq pc 145 then some (.getfield 56) else none) else (bif Nat.beq pc 148 then some (.iload_n 1) else none)))))) else (bif Nat.blt pc 165 then (bif Nat.blt pc 158 then (bif Nat.blt pc 152 then (bif Nat.blt pc 150 then (bif Nat.beq pc 149 then some (.iconst 3) else none) else (bif Nat.blt pc 151 then (bif Nat.beq pc 150 then some (.iadd) else none) else (bif Nat.beq pc 151 then some (.laload) else none))) else (bif Nat.blt pc 156 then (bif Nat.blt pc 153 then (bif Nat.beq pc 152 then some (.aload_n 0) else none) else (bif Nat.beq pc 153 then some (.getfield 23) else none)) else (bif Nat.blt pc 157 then (bif Nat.beq pc 156 then some (.iconst 2) else none) else (bif Nat.beq pc 157 then some (.lload_n 2) else none)))) else (bif Nat.blt pc 161 then (bif Nat.blt pc 159 then (bif Nat.beq pc 158 then some (.l2i) else none) else (bif Nat.blt pc 160 then (bif Nat.beq pc 159 then some (.imul) else none) else (bif Nat.beq pc 160 then some (.iconst 1) else none))) else (bif Nat.blt pc 163 then (bif Nat.blt pc 162 then (bif Nat.beq pc 161 then some (.iadd) else none) else (bif Nat.beq pc 162 then some (.iaload) else none)) else (bif Nat.blt pc 164 then (bif Nat.beq pc 163 then some (.i2l) else none) else (bif Nat.beq pc 164 then some (.lcmp) else none))))) else (bif Nat.blt pc 176 then (bif Nat.blt pc 172 then (bif Nat.blt pc 168 then (bif Nat.beq pc 165 then some (.ifCond .ne 23) else none) else (bif Nat.blt pc 169 then (bif Nat.beq pc 168 then some (.aload_n 0) else none) else (bif Nat.beq pc 169 then some (.getfield 56) else none))) else (bif Nat.blt pc 174 then (bif Nat.blt pc 173 then (bif Nat.beq pc 172 then some (.iload_n 1) else none) else (bif Nat.beq pc 173 then some (.iconst 4) else none)) else (bif Nat.blt pc 175 then (bif Nat.beq pc 174 then some (.iadd) else none) else (bif Nat.beq pc 175 then some (.laload) else none)))) else (bif Nat.blt pc 188 then (bif Nat.blt pc 182 then (bif Nat.blt pc 179 then (bif Nat.beq pc 176 then some (.ldc2_w 194) else none) else (bif Nat.beq pc 179 then some (.ldc2_w 196) else none)) else (bif Nat.blt pc 185 then (bif Nat.beq pc 182 then some (.invokestatic 190) else none) else (bif Nat.beq pc 185 then some (.ifCond .ne 7) else none))) else (bif Nat.blt pc 192 then (bif Nat.blt pc 189 then (bif Nat.beq pc 188 then some (.iconst 1) else none) else (bif Nat.beq pc 189 then some (.goto 4) else none)) else (bif Nat.blt pc 193 then (bif Nat.beq pc 192 then some (.iconst 0) else none) else (bif Nat.beq pc 193 then some (.ireturn) else none)))))))
def q_x116 : Nat → Option Instr := q_g 194 q_t116
def q_y116 : MethodName := ⟨"RatchetPostModel", "malformed", "(I)Z"⟩
def q_m116 : q_MI := (q_y116, prog_10_method_39_code, 6, (some .boolean), 8, 2, false, q_x116)
def q_t117 (pc : Nat) : Option Instr := bif Nat.blt pc 76 then (bif Nat.blt pc 39 then (bif Nat.blt pc 20 then (bif Nat.blt pc 10 then (bif Nat.blt pc 5 then (bif Nat.blt pc 1 then (bif Nat.beq pc 0 then some (.aload_n 0) else none) else (bif Nat.blt pc 2 then (bif Nat.beq pc 1 then some (.iload_n 1) else none) else (bif Nat.beq pc 2 then some (.invokevirtual 185) else none))) else (bif Nat.blt pc 8 then (bif Nat.beq pc 5 then some (.ifCond .ne 5) else none) else (bif Nat.blt pc 9 then (bif Nat.beq pc 8 then some (.iconst (-1)) else none) else (bif Nat.beq pc 9 then some (.ireturn) else none)))) else (bif Nat.blt pc 14 then (bif Nat.blt pc 12 then (bif Nat.beq pc 10 then some (.bipush 12) else none) else (bif Nat.blt pc 13 then (bif Nat.beq pc 12 then some (.iload_n 1) else none) else (bif Nat.beq pc 13 then some (.imul) else none))) else (bif Nat.blt pc 16 then (bif Nat.blt pc 15 then (bif Nat.beq pc 14 then some (.istore_n 2) else none) else (bif Nat.beq pc 15 then some (.aload_n 0) else none)) else (bif Nat.blt pc 17 then (bif Nat.beq pc 16 then some (.iload_n 2) else none) else (bif Nat.beq pc 17 then some (.invokevirtual 200) else none))))) else (bif Nat.blt pc 30 then (bif Nat.blt pc 25 then (bif Nat.blt pc 23 then (bif Nat.beq pc 20 then some (.ifCond .eq 5) else none) else (bif Nat.blt pc 24 then (bif Nat.beq pc 23 then some (.iconst 4) else none) else (bif Nat.beq pc 24 then some (.ireturn) else none))) else (bif Nat.blt pc 26 then (bif Nat.beq pc 25 then some (.aload_n 0) else none) else (bif Nat.blt pc 29 then (bif Nat.beq pc 26 then some (.getfield 56) else none) else (bif Nat.beq pc 29 then some (.iload_n 2) else none)))) else (bif Nat.blt pc 33 then (bif Nat.blt pc 31 then (bif Nat.beq pc 30 then some (.laload) else none) else (bif Nat.blt pc 32 then (bif Nat.beq pc 31 then some (.l2i) else none) else (bif Nat.beq pc 32 then some (.istore_n 3) else none))) else (bif Nat.blt pc 37 then (bif Nat.blt pc 34 then (bif Nat.beq pc 33 then some (.aload_n 0) else none) else (bif Nat.beq pc 34 then some (.getfield 56) else none)) else (bif Nat.blt pc 38 then (bif Nat.beq pc 37 then some (.iload_n 2) else none) else (bif Nat.beq pc 38 then some (.iconst 1) else none)))))) else (bif Nat.blt pc 57 then (bif Nat.blt pc 47 then (bif Nat.blt pc 42 then (bif Nat.blt pc 40 then (bif Nat.beq pc 39 then some (.iadd) else none) else (bif Nat.blt pc 41 then (bif Nat.beq pc 40 then some (.laload) else none) else (bif Nat.beq pc 41 then some (.l2i) else none))) else (bif Nat.blt pc 44 then (bif Nat.beq pc 42 then some (.istore 4) else none) else (bif Nat.blt pc 45 then (bif Nat.beq pc 44 then some (.iconst 4) else none) else (bif Nat.beq pc 45 then some (.iload 4) else none)))) else (bif Nat.blt pc 50 then (bif Nat.blt pc 48 then (bif Nat.beq pc 47 then some (.imul) else none) else (bif Nat.blt pc 49 then (bif Nat.beq pc 48 then some (.iload_n 3) else none) else (bif Nat.beq pc 49 then some (.iadd) else none))) else (bif Nat.blt pc 53 then (bif Nat.blt pc 52 then (bif Nat.beq pc 50 then some (.istore 5) else none) else (bif Nat.beq pc 52 then some (.aload_n 0) else none)) else (bif Nat.blt pc 56 then (bif Nat.beq pc 53 then some (.getfield 56) else none) else (bif Nat.beq pc 56 then some (.iload_n 2) else none))))) else (bif Nat.blt pc 65 then (bif Nat.blt pc 60 then (bif Nat.blt pc 58 then (bif Nat.beq pc 57 then some (.iconst 2) else none) else (bif Nat.blt pc 59 then (bif Nat.beq pc 58 then some (.iadd) else none) else (bif Nat.beq pc 59 then some (.laload) else none))) else (bif Nat.blt pc 61 then (bif Nat.beq pc 60 then some (.lconst 1) else none) else (bif Nat.blt pc 62 then (bif Nat.beq pc 61 then some (.lcmp) else none) else (bif Nat.beq pc 62 then some (.ifCond .ne 13) else none)))) else (bif Nat.blt pc 69 then (bif Nat.blt pc 66 then (bif Nat.beq pc 65 then some (.aload_n 0) else none) else (bif Nat.blt pc 67 then (bif Nat.beq pc 66 then some (.iload_n 2) else none) else (bif Nat.beq pc 67 then some (.iload 5) else none))) else (bif Nat.blt pc 74 then (bif Nat.blt pc 71 then (bif Nat.beq pc 69 then some (.iload 4) else none) else (bif Nat.beq pc 71 then some (.invokevirtual 203) else none)) else (bif Nat.blt pc 75 then (bif Nat.beq pc 74 then some (.ireturn) else none) else (bif Nat.beq pc 75 then some (.iconst 0) else none))))))) else (bif Nat.blt pc 119 then (bif Nat.blt pc 101 then (bif Nat.blt pc 87 then (bif Nat.blt pc 81 then (bif Nat.blt pc 78 then (bif Nat.beq pc 76 then some (.istore 6) else none) else (bif Nat.blt pc 80 then (bif Nat.beq pc 78 then some (.iload 6) else none) else (bif Nat.beq pc 80 then some (.aload_n 0) else none))) else (bif Nat.blt pc 84 then (bif Nat.beq pc 81 then some (.getfield 50) else none) else (bif Nat.blt pc 86 then (bif Nat.beq pc 84 then some (.iload 5) else none) else (bif Nat.beq pc 86 then some (.iaload) else none)))) else (bif Nat.blt pc 94 then (bif Nat.blt pc 90 then (bif Nat.beq pc 87 then some (.if_icmp .ge 71) else none) else (bif Nat.blt pc 91 then (bif Nat.beq pc 90 then some (.aload_n 0) else none) else (bif Nat.beq pc 91 then some (.getfield 47) else none))) else (bif Nat.blt pc 98 then (bif Nat.blt pc 97 then (bif Nat.beq pc 94 then some (.sipush 158) else none) else (bif Nat.beq pc 97 then some (.iconst 3) else none)) else (bif Nat.blt pc 100 then (bif Nat.beq pc 98 then some (.iload 5) else none) else (bif Nat.beq pc 100 then some (.imul) else none))))) else (bif Nat.blt pc 108 then (bif Nat.blt pc 105 then (bif Nat.blt pc 103 then (bif Nat.beq pc 101 then some (.iload 6) else none) else (bif Nat.blt pc 104 then (bif Nat.beq pc 103 then some (.iadd) else none) else (bif Nat.beq pc 104 then some (.imul) else none))) else (bif Nat.blt pc 106 then (bif Nat.beq pc 105 then some (.iaload) else none) else (bif Nat.blt pc 107 then (bif Nat.beq pc 106 then some (.i2l) else none) else (bif Nat.beq pc 107 then some (.aload_n 0) else none)))) else (bif Nat.blt pc 113 then (bif Nat.blt pc 111 then (bif Nat.beq pc 108 then some (.getfield 56) else none) else (bif Nat.blt pc 112 then (bif Nat.beq pc 111 then some (.iload_n 2) else none) else (bif Nat.beq pc 112 then some (.iconst 4) else none))) else (bif Nat.blt pc 115 then (bif Nat.blt pc 114 then (bif Nat.beq pc 113 then some (.iadd) else none) else (bif Nat.beq pc 114 then some (.laload) else none)) else (bif Nat.blt pc 116 then (bif Nat.beq pc 115 then some (.lcmp) else none) else (bif Nat.beq pc 116 then some (.ifCond .ne 36) else none)))))) else (bif Nat.blt pc 144 then (bif Nat.blt pc 129 then (bif Nat.blt pc 124 then (bif Nat.blt pc 120 then (bif Nat.beq pc 119 then some (.aload_n 0) else none) else (bif Nat.blt pc 122 then (bif Nat.beq pc 120 then some (.iload 5) else none) else (bif Nat.beq pc 122 then some (.iload 6) else none))) else (bif Nat.blt pc 127 then (bif Nat.beq pc 124 then some (.invokevirtual 172) else none) else (bif Nat.blt pc 128 then (bif Nat.beq pc 127 then some (.aload_n 0) else none) else (bif Nat.beq pc 128 then some (.iload_n 2) else none)))) else (bif Nat.blt pc 136 then (bif Nat.blt pc 131 then (bif Nat.beq pc 129 then some (.iload 4) else none) else (bif Nat.blt pc 134 then (bif Nat.beq pc 131 then some (.invokevirtual 206) else none) else (bif Nat.beq pc 134 then some (.istore 7) else none))) else (bif Nat.blt pc 141 then (bif Nat.blt pc 138 then (bif Nat.beq pc 136 then some (.iload 7) else none) else (bif Nat.beq pc 138 then some (.ifCond .ne 11) else none)) else (bif Nat.blt pc 142 then (bif Nat.beq pc 141 then some (.aload_n 0) else none) else (bif Nat.beq pc 142 then some (.iload 5) else none))))) else (bif Nat.blt pc 158 then (bif Nat.blt pc 151 then (bif Nat.blt pc 146 then (bif Nat.beq pc 144 then some (.iload 6) else none) else (bif Nat.blt pc 149 then (bif Nat.beq pc 146 then some (.invokevirtual 138) else none) else (bif Nat.beq pc 149 then some (.iload 7) else none))) else (bif Nat.blt pc 152 then (bif Nat.beq pc 151 then some (.ireturn) else none) else (bif Nat.blt pc 155 then (bif Nat.beq pc 152 then some (.iinc 6 1) else none) else (bif Nat.beq pc 155 then some (.goto (-77)) else none)))) else (bif Nat.blt pc 162 then (bif Nat.blt pc 159 then (bif Nat.beq pc 158 then some (.aload_n 0) else none) else (bif Nat.blt pc 160 then (bif Nat.beq pc 159 then some (.iload_n 2) else none) else (bif Nat.beq pc 160 then some (.iload 5) else none))) else (bif Nat.blt pc 165 then (bif Nat.blt pc 163 then (bif Nat.beq pc 162 then some (.iload_n 3) else none) else (bif Nat.beq pc 163 then some (.iload 4) else none)) else (bif Nat.blt pc 168 then (bif Nat.beq pc 165 then some (.invokevirtual 209) else none) else (bif Nat.beq pc 168 then some (.ireturn) else none)))))))
def q_x117 : Nat → Option Instr := q_g 169 q_t117
def q_y117 : MethodName := ⟨"RatchetPostModel", "open", "(I)I"⟩
def q_m117 : q_MI := (q_y117, prog_10_method_40_code, 8, (some .int), 8, 1, false, q_x117)
def q_t118 (pc : Nat) : Option Instr := bif Nat.blt pc 31 then (bif Nat.blt pc 15 then (bif Nat.blt pc 7 then (bif Nat.blt pc 4 then (bif Nat.blt pc 2 then (bif Nat.beq pc 0 then some (.bipush 6) else none) else (bif Nat.beq pc 2 then some (.istore 4) else none)) else (bif Nat.blt pc 5 then (bif Nat.beq pc 4 then some (.iconst 0) else none) else (bif Nat.beq pc 5 then some (.istore 5) else none))) else (bif Nat.blt pc 10 then (bif Nat.blt pc 9 then (bif Nat.beq pc 7 then some (.iload 5) else none) else (bif Nat.beq pc 9 then some (.aload_n 0) else none)) else (bif Nat.blt pc 13 then (bif Nat.beq pc 10 then some (.getfield 50) else none) else (bif Nat.blt pc 14 then (bif Nat.beq pc 13 then some (.iload_n 2) else none) else (bif Nat.beq pc 14 then some (.iaload) else none))))) else (bif Nat.blt pc 22 then (bif Nat.blt pc 19 then (bif Nat.blt pc 18 then (bif Nat.beq pc 15 then some (.if_icmp .ge 52) else none) else (bif Nat.beq pc 18 then some (.aload_n 0) else none)) else (bif Nat.blt pc 20 then (bif Nat.beq pc 19 then some (.iload_n 2) else none) else (bif Nat.beq pc 20 then some (.iload 5) else none))) else (bif Nat.blt pc 26 then (bif Nat.blt pc 25 then (bif Nat.beq pc 22 then some (.invokevirtual 172) else none) else (bif Nat.beq pc 25 then some (.aload_n 0) else none)) else (bif Nat.blt pc 27 then (bif Nat.beq pc 26 then some (.iload_n 1) else none) else (bif Nat.blt pc 28 then (bif Nat.beq pc 27 then some (.iload_n 3) else none) else (bif Nat.beq pc 28 then some (.invokevirtual 206) else none)))))) else (bif Nat.blt pc 47 then (bif Nat.blt pc 39 then (bif Nat.blt pc 35 then (bif Nat.blt pc 33 then (bif Nat.beq pc 31 then some (.istore 6) else none) else (bif Nat.beq pc 33 then some (.iload 6) else none)) else (bif Nat.blt pc 38 then (bif Nat.beq pc 35 then some (.ifCond .ne 12) else none) else (bif Nat.beq pc 38 then some (.aload_n 0) else none))) else (bif Nat.blt pc 42 then (bif Nat.blt pc 40 then (bif Nat.beq pc 39 then some (.iload_n 2) else none) else (bif Nat.beq pc 40 then some (.iload 5) else none)) else (bif Nat.blt pc 45 then (bif Nat.beq pc 42 then some (.invokevirtual 142) else none) else (bif Nat.blt pc 46 then (bif Nat.beq pc 45 then some (.iconst 0) else none) else (bif Nat.beq pc 46 then some (.ireturn) else none))))) else (bif Nat.blt pc 59 then (bif Nat.blt pc 52 then (bif Nat.blt pc 49 then (bif Nat.beq pc 47 then some (.iload 5) else none) else (bif Nat.beq pc 49 then some (.ifCond .ne 8) else none)) else (bif Nat.blt pc 54 then (bif Nat.beq pc 52 then some (.iload 6) else none) else (bif Nat.blt pc 57 then (bif Nat.beq pc 54 then some (.goto 5) else none) else (bif Nat.beq pc 57 then some (.iload 4) else none)))) else (bif Nat.blt pc 64 then (bif Nat.blt pc 61 then (bif Nat.beq pc 59 then some (.istore 4) else none) else (bif Nat.beq pc 61 then some (.iinc 5 1) else none)) else (bif Nat.blt pc 67 then (bif Nat.beq pc 64 then some (.goto (-57)) else none) else (bif Nat.blt pc 69 then (bif Nat.beq pc 67 then some (.iload 4) else none) else (bif Nat.beq pc 69 then some (.ireturn) else none))))))
def q_x118 : Nat → Option Instr := q_g 70 q_t118
def q_y118 : MethodName := ⟨"RatchetPostModel", "further", "(III)I"⟩
def q_m118 : q_MI := (q_y118, prog_10_method_41_code, 7, (some .int), 8, 1, false, q_x118)
def q_t119 (pc : Nat) : Option Instr := bif Nat.blt pc 232 then (bif Nat.blt pc 108 then (bif Nat.blt pc 52 then (bif Nat.blt pc 24 then (bif Nat.blt pc 12 then (bif Nat.blt pc 6 then (bif Nat.blt pc 4 then (bif Nat.blt pc 1 then (bif Nat.beq pc 0 then some (.aload_n 0) else none) else (bif Nat.beq pc 1 then some (.getfield 56) else none)) else (bif Nat.blt pc 5 then (bif Nat.beq pc 4 then some (.iload_n 1) else none) else (bif Nat.beq pc 5 then some (.iconst 5) else none))) else (bif Nat.blt pc 8 then (bif Nat.blt pc 7 then (bif Nat.beq pc 6 then some (.iadd) else none) else (bif Nat.beq pc 7 then some (.laload) else none)) else (bif Nat.blt pc 9 then (bif Nat.beq pc 8 then some (.aload_n 0) else none) else (bif Nat.beq pc 9 then some (.getfield 26) else none)))) else (bif Nat.blt pc 17 then (bif Nat.blt pc 15 then (bif Nat.blt pc 13 then (bif Nat.beq pc 12 then some (.iconst 2) else none) else (bif Nat.beq pc 13 then some (.iload 4) else none)) else (bif Nat.blt pc 16 then (bif Nat.beq pc 15 then some (.imul) else none) else (bif Nat.beq pc 16 then some (.iconst 1) else none))) else (bif Nat.blt pc 19 then (bif Nat.blt pc 18 then (bif Nat.beq pc 17 then some (.iadd) else none) else (bif Nat.beq pc 18 then some (.iaload) else none)) else (bif Nat.blt pc 20 then (bif Nat.beq pc 19 then some (.i2l) else none) else (bif Nat.blt pc 21 then (bif Nat.beq pc 20 then some (.lcmp) else none) else (bif Nat.beq pc 21 then some (.ifCond .ne 7) else none)))))) else (bif Nat.blt pc 39 then (bif Nat.blt pc 31 then (bif Nat.blt pc 28 then (bif Nat.blt pc 25 then (bif Nat.beq pc 24 then some (.iconst 1) else none) else (bif Nat.beq pc 25 then some (.goto 4) else none)) else (bif Nat.blt pc 29 then (bif Nat.beq pc 28 then some (.iconst 0) else none) else (bif Nat.beq pc 29 then some (.istore 5) else none))) else (bif Nat.blt pc 35 then (bif Nat.blt pc 32 then (bif Nat.beq pc 31 then some (.aload_n 0) else none) else (bif Nat.beq pc 32 then some (.getfield 29) else none)) else (bif Nat.blt pc 36 then (bif Nat.beq pc 35 then some (.iconst 2) else none) else (bif Nat.blt pc 38 then (bif Nat.beq pc 36 then some (.iload 4) else none) else (bif Nat.beq pc 38 then some (.imul) else none))))) else (bif Nat.blt pc 45 then (bif Nat.blt pc 41 then (bif Nat.blt pc 40 then (bif Nat.beq pc 39 then some (.iconst 1) else none) else (bif Nat.beq pc 40 then some (.iadd) else none)) else (bif Nat.blt pc 42 then (bif Nat.beq pc 41 then some (.iaload) else none) else (bif Nat.beq pc 42 then some (.ifCond .eq 31) else none))) else (bif Nat.blt pc 49 then (bif Nat.blt pc 46 then (bif Nat.beq pc 45 then some (.aload_n 0) else none) else (bif Nat.beq pc 46 then some (.getfield 56) else none)) else (bif Nat.blt pc 50 then (bif Nat.beq pc 49 then some (.iload_n 1) else none) else (bif Nat.blt pc 51 then (bif Nat.beq pc 50 then some (.iconst 5) else none) else (bif Nat.beq pc 51 then some (.iadd) else none))))))) else (bif Nat.blt pc 77 then (bif Nat.blt pc 63 then (bif Nat.blt pc 58 then (bif Nat.blt pc 54 then (bif Nat.blt pc 53 then (bif Nat.beq pc 52 then some (.laload) else none) else (bif Nat.beq pc 53 then some (.aload_n 0) else none)) else (bif Nat.blt pc 57 then (bif Nat.beq pc 54 then some (.getfield 29) else none) else (bif Nat.beq pc 57 then some (.iconst 2) else none))) else (bif Nat.blt pc 61 then (bif Nat.blt pc 60 then (bif Nat.beq pc 58 then some (.iload 4) else none) else (bif Nat.beq pc 60 then some (.imul) else none)) else (bif Nat.blt pc 62 then (bif Nat.beq pc 61 then some (.iconst 1) else none) else (bif Nat.beq pc 62 then some (.iadd) else none)))) else (bif Nat.blt pc 69 then (bif Nat.blt pc 65 then (bif Nat.blt pc 64 then (bif Nat.beq pc 63 then some (.iaload) else none) else (bif Nat.beq pc 64 then some (.i2l) else none)) else (bif Nat.blt pc 66 then (bif Nat.beq pc 65 then some (.lcmp) else none) else (bif Nat.beq pc 66 then some (.ifCond .ne 7) else none))) else (bif Nat.blt pc 73 then (bif Nat.blt pc 70 then (bif Nat.beq pc 69 then some (.iconst 1) else none) else (bif Nat.beq pc 70 then some (.goto 4) else none)) else (bif Nat.blt pc 74 then (bif Nat.beq pc 73 then some (.iconst 0) else none) else (bif Nat.blt pc 76 then (bif Nat.beq pc 74 then some (.istore 6) else none) else (bif Nat.beq pc 76 then some (.iconst (-1)) else none)))))) else (bif Nat.blt pc 92 then (bif Nat.blt pc 85 then (bif Nat.blt pc 80 then (bif Nat.blt pc 79 then (bif Nat.beq pc 77 then some (.istore 7) else none) else (bif Nat.beq pc 79 then some (.aload_n 0) else none)) else (bif Nat.blt pc 83 then (bif Nat.beq pc 80 then some (.getfield 35) else none) else (bif Nat.beq pc 83 then some (.iload 4) else none))) else (bif Nat.blt pc 87 then (bif Nat.blt pc 86 then (bif Nat.beq pc 85 then some (.iaload) else none) else (bif Nat.beq pc 86 then some (.iconst 1) else none)) else (bif Nat.blt pc 88 then (bif Nat.beq pc 87 then some (.isub) else none) else (bif Nat.blt pc 90 then (bif Nat.beq pc 88 then some (.istore 8) else none) else (bif Nat.beq pc 90 then some (.iload 8) else none))))) else (bif Nat.blt pc 100 then (bif Nat.blt pc 96 then (bif Nat.blt pc 95 then (bif Nat.beq pc 92 then some (.ifCond .lt 49) else none) else (bif Nat.beq pc 95 then some (.aload_n 0) else none)) else (bif Nat.blt pc 99 then (bif Nat.beq pc 96 then some (.getfield 32) else none) else (bif Nat.beq pc 99 then some (.iconst 2) else none))) else (bif Nat.blt pc 104 then (bif Nat.blt pc 102 then (bif Nat.beq pc 100 then some (.bipush 10) else none) else (bif Nat.beq pc 102 then some (.iload 4) else none)) else (bif Nat.blt pc 105 then (bif Nat.beq pc 104 then some (.imul) else none) else (bif Nat.blt pc 107 then (bif Nat.beq pc 105 then some (.iload 8) else none) else (bif Nat.beq pc 107 then some (.iadd) else none)))))))) else (bif Nat.blt pc 171 then (bif Nat.blt pc 135 then (bif Nat.blt pc 118 then (bif Nat.blt pc 112 then (bif Nat.blt pc 110 then (bif Nat.blt pc 109 then (bif Nat.beq pc 108 then some (.imul) else none) else (bif Nat.beq pc 109 then some (.iconst 1) else none)) else (bif Nat.blt pc 111 then (bif Nat.beq pc 110 then some (.iadd) else none) else (bif Nat.beq pc 111 then some (.iaload) else none))) else (bif Nat.blt pc 114 then (bif Nat.blt pc 113 then (bif Nat.beq pc 112 then some (.i2l) else none) else (bif Nat.beq pc 113 then some (.aload_n 0) else none)) else (bif Nat.blt pc 117 then (bif Nat.beq pc 114 then some (.getfield 56) else none) else (bif Nat.beq pc 117 then some (.iload_n 1) else none)))) else (bif Nat.blt pc 123 then (bif Nat.blt pc 121 then (bif Nat.blt pc 120 then (bif Nat.beq pc 118 then some (.bipush 6) else none) else (bif Nat.beq pc 120 then some (.iadd) else none)) else (bif Nat.blt pc 122 then (bif Nat.beq pc 121 then some (.laload) else none) else (bif Nat.beq pc 122 then some (.lcmp) else none))) else (bif Nat.blt pc 128 then (bif Nat.blt pc 126 then (bif Nat.beq pc 123 then some (.ifCond .ne 8) else none) else (bif Nat.beq pc 126 then some (.iload 8) else none)) else (bif Nat.blt pc 131 then (bif Nat.beq pc 128 then some (.goto 5) else none) else (bif Nat.blt pc 133 then (bif Nat.beq pc 131 then some (.iload 7) else none) else (bif Nat.beq pc 133 then some (.istore 7) else none)))))) else (bif Nat.blt pc 157 then (bif Nat.blt pc 146 then (bif Nat.blt pc 141 then (bif Nat.blt pc 138 then (bif Nat.beq pc 135 then some (.iinc 8 (-1)) else none) else (bif Nat.beq pc 138 then some (.goto (-48)) else none)) else (bif Nat.blt pc 143 then (bif Nat.beq pc 141 then some (.iload 5) else none) else (bif Nat.beq pc 143 then some (.ifCond .ne 8) else none))) else (bif Nat.blt pc 151 then (bif Nat.blt pc 148 then (bif Nat.beq pc 146 then some (.iload 6) else none) else (bif Nat.beq pc 148 then some (.ifCond .eq 22) else none)) else (bif Nat.blt pc 153 then (bif Nat.beq pc 151 then some (.iload 7) else none) else (bif Nat.blt pc 156 then (bif Nat.beq pc 153 then some (.ifCond .ge 19) else none) else (bif Nat.beq pc 156 then some (.aload_n 0) else none))))) else (bif Nat.blt pc 164 then (bif Nat.blt pc 161 then (bif Nat.blt pc 160 then (bif Nat.beq pc 157 then some (.getfield 56) else none) else (bif Nat.beq pc 160 then some (.iload_n 1) else none)) else (bif Nat.blt pc 163 then (bif Nat.beq pc 161 then some (.bipush 6) else none) else (bif Nat.beq pc 163 then some (.iadd) else none))) else (bif Nat.blt pc 166 then (bif Nat.blt pc 165 then (bif Nat.beq pc 164 then some (.laload) else none) else (bif Nat.beq pc 165 then some (.lconst 0) else none)) else (bif Nat.blt pc 167 then (bif Nat.beq pc 166 then some (.lcmp) else none) else (bif Nat.blt pc 170 then (bif Nat.beq pc 167 then some (.ifCond .eq 5) else none) else (bif Nat.beq pc 170 then some (.iconst 3) else none))))))) else (bif Nat.blt pc 200 then (bif Nat.blt pc 183 then (bif Nat.blt pc 177 then (bif Nat.blt pc 173 then (bif Nat.blt pc 172 then (bif Nat.beq pc 171 then some (.ireturn) else none) else (bif Nat.beq pc 172 then some (.aload_n 0) else none)) else (bif Nat.blt pc 176 then (bif Nat.beq pc 173 then some (.getfield 56) else none) else (bif Nat.beq pc 176 then some (.iload_n 1) else none))) else (bif Nat.blt pc 179 then (bif Nat.blt pc 178 then (bif Nat.beq pc 177 then some (.iconst 4) else none) else (bif Nat.beq pc 178 then some (.iadd) else none)) else (bif Nat.blt pc 180 then (bif Nat.beq pc 179 then some (.laload) else none) else (bif Nat.blt pc 181 then (bif Nat.beq pc 180 then some (.l2i) else none) else (bif Nat.beq pc 181 then some (.istore 8) else none))))) else (bif Nat.blt pc 192 then (bif Nat.blt pc 188 then (bif Nat.blt pc 185 then (bif Nat.beq pc 183 then some (.iload 5) else none) else (bif Nat.beq pc 185 then some (.ifCond .eq 15) else none)) else (bif Nat.blt pc 189 then (bif Nat.beq pc 188 then some (.aload_n 0) else none) else (bif Nat.beq pc 189 then some (.getfield 26) else none))) else (bif Nat.blt pc 195 then (bif Nat.blt pc 193 then (bif Nat.beq pc 192 then some (.iconst 2) else none) else (bif Nat.beq pc 193 then some (.iload 4) else none)) else (bif Nat.blt pc 196 then (bif Nat.beq pc 195 then some (.imul) else none) else (bif Nat.blt pc 197 then (bif Nat.beq pc 196 then some (.iaload) else none) else (bif Nat.beq pc 197 then some (.goto 12) else none)))))) else (bif Nat.blt pc 216 then (bif Nat.blt pc 207 then (bif Nat.blt pc 204 then (bif Nat.blt pc 201 then (bif Nat.beq pc 200 then some (.aload_n 0) else none) else (bif Nat.beq pc 201 then some (.getfield 29) else none)) else (bif Nat.blt pc 205 then (bif Nat.beq pc 204 then some (.iconst 2) else none) else (bif Nat.beq pc 205 then some (.iload 4) else none))) else (bif Nat.blt pc 209 then (bif Nat.blt pc 208 then (bif Nat.beq pc 207 then some (.imul) else none) else (bif Nat.beq pc 208 then some (.iaload) else none)) else (bif Nat.blt pc 211 then (bif Nat.beq pc 209 then some (.istore 9) else none) else (bif Nat.blt pc 213 then (bif Nat.beq pc 211 then some (.iload 7) else none) else (bif Nat.beq pc 213 then some (.ifCond .ge 7) else none))))) else (bif Nat.blt pc 224 then (bif Nat.blt pc 220 then (bif Nat.blt pc 217 then (bif Nat.beq pc 216 then some (.iconst 0) else none) else (bif Nat.beq pc 217 then some (.goto 20) else none)) else (bif Nat.blt pc 221 then (bif Nat.beq pc 220 then some (.aload_n 0) else none) else (bif Nat.beq pc 221 then some (.getfield 32) else none))) else (bif Nat.blt pc 227 then (bif Nat.blt pc 225 then (bif Nat.beq pc 224 then some (.iconst 2) else none) else (bif Nat.beq pc 225 then some (.bipush 10) else none)) else (bif Nat.blt pc 229 then (bif Nat.beq pc 227 then some (.iload 4) else none) else (bif Nat.blt pc 230 then (bif Nat.beq pc 229 then some (.imul) else none) else (bif Nat.beq pc 230 then some (.iload 7) else none))))))))) else (bif Nat.blt pc 345 then (bif Nat.blt pc 282 then (bif Nat.blt pc 258 then (bif Nat.blt pc 243 then (bif Nat.blt pc 236 then (bif Nat.blt pc 234 then (bif Nat.blt pc 233 then (bif Nat.beq pc 232 then some (.iadd) else none) else (bif Nat.beq pc 233 then some (.imul) else none)) else (bif Nat.blt pc 235 then (bif Nat.beq pc 234 then some (.iconst 1) else none) else (bif Nat.beq pc 235 then some (.iadd) else none))) else (bif Nat.blt pc 239 then (bif Nat.blt pc 237 then (bif Nat.beq pc 236 then some (.iaload) else none) else (bif Nat.beq pc 237 then some (.istore 10) else none)) else (bif Nat.blt pc 240 then (bif Nat.beq pc 239 then some (.aload_n 0) else none) else (bif Nat.beq pc 240 then some (.invokevirtual 156) else none)))) else (bif Nat.blt pc 250 then (bif Nat.blt pc 247 then (bif Nat.blt pc 244 then (bif Nat.beq pc 243 then some (.aload_n 0) else none) else (bif Nat.beq pc 244 then some (.getfield 53) else none)) else (bif Nat.blt pc 248 then (bif Nat.beq pc 247 then some (.iconst 0) else none) else (bif Nat.beq pc 248 then some (.iload 8) else none))) else (bif Nat.blt pc 252 then (bif Nat.blt pc 251 then (bif Nat.beq pc 250 then some (.iastore) else none) else (bif Nat.beq pc 251 then some (.aload_n 0) else none)) else (bif Nat.blt pc 255 then (bif Nat.beq pc 252 then some (.getfield 53) else none) else (bif Nat.blt pc 256 then (bif Nat.beq pc 255 then some (.iconst 2) else none) else (bif Nat.beq pc 256 then some (.iload 9) else none)))))) else (bif Nat.blt pc 271 then (bif Nat.blt pc 264 then (bif Nat.blt pc 260 then (bif Nat.blt pc 259 then (bif Nat.beq pc 258 then some (.iastore) else none) else (bif Nat.beq pc 259 then some (.aload_n 0) else none)) else (bif Nat.blt pc 263 then (bif Nat.beq pc 260 then some (.getfield 53) else none) else (bif Nat.beq pc 263 then some (.iconst 3) else none))) else (bif Nat.blt pc 268 then (bif Nat.blt pc 265 then (bif Nat.beq pc 264 then some (.aload_n 0) else none) else (bif Nat.beq pc 265 then some (.getfield 56) else none)) else (bif Nat.blt pc 269 then (bif Nat.beq pc 268 then some (.iload_n 1) else none) else (bif Nat.blt pc 270 then (bif Nat.beq pc 269 then some (.iconst 5) else none) else (bif Nat.beq pc 270 then some (.iadd) else none))))) else (bif Nat.blt pc 275 then (bif Nat.blt pc 273 then (bif Nat.blt pc 272 then (bif Nat.beq pc 271 then some (.laload) else none) else (bif Nat.beq pc 272 then some (.l2i) else none)) else (bif Nat.blt pc 274 then (bif Nat.beq pc 273 then some (.iastore) else none) else (bif Nat.beq pc 274 then some (.aload_n 0) else none))) else (bif Nat.blt pc 279 then (bif Nat.blt pc 276 then (bif Nat.beq pc 275 then some (.aload_n 0) else none) else (bif Nat.beq pc 276 then some (.getfield 23) else none)) else (bif Nat.blt pc 280 then (bif Nat.beq pc 279 then some (.iconst 2) else none) else (bif Nat.blt pc 281 then (bif Nat.beq pc 280 then some (.iload_n 3) else none) else (bif Nat.beq pc 281 then some (.imul) else none))))))) else (bif Nat.blt pc 313 then (bif Nat.blt pc 296 then (bif Nat.blt pc 287 then (bif Nat.blt pc 284 then (bif Nat.blt pc 283 then (bif Nat.beq pc 282 then some (.iconst 1) else none) else (bif Nat.beq pc 283 then some (.iadd) else none)) else (bif Nat.blt pc 285 then (bif Nat.beq pc 284 then some (.iaload) else none) else (bif Nat.beq pc 285 then some (.iload 9) else none))) else (bif Nat.blt pc 292 then (bif Nat.blt pc 290 then (bif Nat.beq pc 287 then some (.invokestatic 82) else none) else (bif Nat.beq pc 290 then some (.iload 8) else none)) else (bif Nat.blt pc 293 then (bif Nat.beq pc 292 then some (.aload_n 0) else none) else (bif Nat.beq pc 293 then some (.getfield 23) else none)))) else (bif Nat.blt pc 301 then (bif Nat.blt pc 299 then (bif Nat.blt pc 297 then (bif Nat.beq pc 296 then some (.iconst 2) else none) else (bif Nat.beq pc 297 then some (.iload 4) else none)) else (bif Nat.blt pc 300 then (bif Nat.beq pc 299 then some (.imul) else none) else (bif Nat.beq pc 300 then some (.iaload) else none))) else (bif Nat.blt pc 306 then (bif Nat.blt pc 304 then (bif Nat.beq pc 301 then some (.invokestatic 82) else none) else (bif Nat.beq pc 304 then some (.iload 8) else none)) else (bif Nat.blt pc 308 then (bif Nat.beq pc 306 then some (.iload 9) else none) else (bif Nat.blt pc 311 then (bif Nat.beq pc 308 then some (.invokestatic 82) else none) else (bif Nat.beq pc 311 then some (.iload 7) else none)))))) else (bif Nat.blt pc 331 then (bif Nat.blt pc 322 then (bif Nat.blt pc 317 then (bif Nat.blt pc 316 then (bif Nat.beq pc 313 then some (.ifCond .ge 7) else none) else (bif Nat.beq pc 316 then some (.iconst 0) else none)) else (bif Nat.blt pc 320 then (bif Nat.beq pc 317 then some (.goto 23) else none) else (bif Nat.beq pc 320 then some (.iload 8) else none))) else (bif Nat.blt pc 326 then (bif Nat.blt pc 323 then (bif Nat.beq pc 322 then some (.aload_n 0) else none) else (bif Nat.beq pc 323 then some (.getfield 32) else none)) else (bif Nat.blt pc 327 then (bif Nat.beq pc 326 then some (.iconst 2) else none) else (bif Nat.blt pc 329 then (bif Nat.beq pc 327 then some (.bipush 10) else none) else (bif Nat.beq pc 329 then some (.iload 4) else none))))) else (bif Nat.blt pc 336 then (bif Nat.blt pc 334 then (bif Nat.blt pc 332 then (bif Nat.beq pc 331 then some (.imul) else none) else (bif Nat.beq pc 332 then some (.iload 7) else none)) else (bif Nat.blt pc 335 then (bif Nat.beq pc 334 then some (.iadd) else none) else (bif Nat.beq pc 335 then some (.imul) else none))) else (bif Nat.blt pc 340 then (bif Nat.blt pc 337 then (bif Nat.beq pc 336 then some (.iaload) else none) else (bif Nat.beq pc 337 then some (.invokestatic 82) else none)) else (bif Nat.blt pc 341 then (bif Nat.beq pc 340 then some (.aload_n 0) else none) else (bif Nat.blt pc 344 then (bif Nat.beq pc 341 then some (.getfield 23) else none) else (bif Nat.beq pc 344 then some (.iconst 2) else none)))))))) else (bif Nat.blt pc 402 then (bif Nat.blt pc 368 then (bif Nat.blt pc 355 then (bif Nat.blt pc 349 then (bif Nat.blt pc 347 then (bif Nat.blt pc 346 then (bif Nat.beq pc 345 then some (.iload_n 3) else none) else (bif Nat.beq pc 346 then some (.imul) else none)) else (bif Nat.blt pc 348 then (bif Nat.beq pc 347 then some (.iconst 1) else none) else (bif Nat.beq pc 348 then some (.iadd) else none))) else (bif Nat.blt pc 351 then (bif Nat.blt pc 350 then (bif Nat.beq pc 349 then some (.iaload) else none) else (bif Nat.beq pc 350 then some (.aload_n 0) else none)) else (bif Nat.blt pc 354 then (bif Nat.beq pc 351 then some (.getfield 23) else none) else (bif Nat.beq pc 354 then some (.iconst 2) else none)))) else (bif Nat.blt pc 360 then (bif Nat.blt pc 358 then (bif Nat.blt pc 357 then (bif Nat.beq pc 355 then some (.iload 4) else none) else (bif Nat.beq pc 357 then some (.imul) else none)) else (bif Nat.blt pc 359 then (bif Nat.beq pc 358 then some (.iconst 1) else none) else (bif Nat.beq pc 359 then some (.iadd) else none))) else (bif Nat.blt pc 363 then (bif Nat.blt pc 361 then (bif Nat.beq pc 360 then some (.iaload) else none) else (bif Nat.beq pc 361 then some (.iload 10) else none)) else (bif Nat.blt pc 366 then (bif Nat.beq pc 363 then some (.invokevirtual 159) else none) else (bif Nat.blt pc 367 then (bif Nat.beq pc 366 then some (.aload_n 0) else none) else (bif Nat.beq pc 367 then some (.iload_n 1) else none)))))) else (bif Nat.blt pc 385 then (bif Nat.blt pc 377 then (bif Nat.blt pc 373 then (bif Nat.blt pc 370 then (bif Nat.beq pc 368 then some (.iload 4) else none) else (bif Nat.beq pc 370 then some (.invokevirtual 206) else none)) else (bif Nat.blt pc 375 then (bif Nat.beq pc 373 then some (.istore 11) else none) else (bif Nat.beq pc 375 then some (.iload 11) else none))) else (bif Nat.blt pc 382 then (bif Nat.blt pc 380 then (bif Nat.beq pc 377 then some (.ifCond .eq 6) else none) else (bif Nat.beq pc 380 then some (.iload 11) else none)) else (bif Nat.blt pc 383 then (bif Nat.beq pc 382 then some (.ireturn) else none) else (bif Nat.blt pc 384 then (bif Nat.beq pc 383 then some (.aload_n 0) else none) else (bif Nat.beq pc 384 then some (.iload_n 2) else none))))) else (bif Nat.blt pc 394 then (bif Nat.blt pc 390 then (bif Nat.blt pc 388 then (bif Nat.beq pc 385 then some (.invokevirtual 166) else none) else (bif Nat.beq pc 388 then some (.iload 7) else none)) else (bif Nat.blt pc 393 then (bif Nat.beq pc 390 then some (.ifCond .lt 68) else none) else (bif Nat.beq pc 393 then some (.aload_n 0) else none))) else (bif Nat.blt pc 399 then (bif Nat.blt pc 397 then (bif Nat.beq pc 394 then some (.getfield 35) else none) else (bif Nat.beq pc 397 then some (.iload 4) else none)) else (bif Nat.blt pc 400 then (bif Nat.beq pc 399 then some (.dup2) else none) else (bif Nat.blt pc 401 then (bif Nat.beq pc 400 then some (.iaload) else none) else (bif Nat.beq pc 401 then some (.iconst 1) else none))))))) else (bif Nat.blt pc 430 then (bif Nat.blt pc 414 then (bif Nat.blt pc 407 then (bif Nat.blt pc 404 then (bif Nat.blt pc 403 then (bif Nat.beq pc 402 then some (.isub) else none) else (bif Nat.beq pc 403 then some (.iastore) else none)) else (bif Nat.blt pc 405 then (bif Nat.beq pc 404 then some (.iconst 2) else none) else (bif Nat.beq pc 405 then some (.bipush 10) else none))) else (bif Nat.blt pc 410 then (bif Nat.blt pc 409 then (bif Nat.beq pc 407 then some (.iload 4) else none) else (bif Nat.beq pc 409 then some (.imul) else none)) else (bif Nat.blt pc 412 then (bif Nat.beq pc 410 then some (.iload 7) else none) else (bif Nat.blt pc 413 then (bif Nat.beq pc 412 then some (.iadd) else none) else (bif Nat.beq pc 413 then some (.imul) else none))))) else (bif Nat.blt pc 421 then (bif Nat.blt pc 418 then (bif Nat.blt pc 416 then (bif Nat.beq pc 414 then some (.istore 12) else none) else (bif Nat.beq pc 416 then some (.iload 12) else none)) else (bif Nat.blt pc 419 then (bif Nat.beq pc 418 then some (.iconst 2) else none) else (bif Nat.beq pc 419 then some (.bipush 10) else none))) else (bif Nat.blt pc 424 then (bif Nat.blt pc 423 then (bif Nat.beq pc 421 then some (.iload 4) else none) else (bif Nat.beq pc 423 then some (.imul) else none)) else (bif Nat.blt pc 425 then (bif Nat.beq pc 424 then some (.aload_n 0) else none) else (bif Nat.blt pc 428 then (bif Nat.beq pc 425 then some (.getfield 35) else none) else (bif Nat.beq pc 428 then some (.iload 4) else none)))))) else (bif Nat.blt pc 446 then (bif Nat.blt pc 436 then (bif Nat.blt pc 432 then (bif Nat.blt pc 431 then (bif Nat.beq pc 430 then some (.iaload) else none) else (bif Nat.beq pc 431 then some (.iadd) else none)) else (bif Nat.blt pc 433 then (bif Nat.beq pc 432 then some (.imul) else none) else (bif Nat.beq pc 433 then some (.if_icmp .ge 25) else none))) else (bif Nat.blt pc 440 then (bif Nat.blt pc 437 then (bif Nat.beq pc 436 then some (.aload_n 0) else none) else (bif Nat.beq pc 437 then some (.getfield 32) else none)) else (bif Nat.blt pc 442 then (bif Nat.beq pc 440 then some (.iload 12) else none) else (bif Nat.blt pc 443 then (bif Nat.beq pc 442 then some (.aload_n 0) else none) else (bif Nat.beq pc 443 then some (.getfield 32) else none))))) else (bif Nat.blt pc 451 then (bif Nat.blt pc 449 then (bif Nat.blt pc 448 then (bif Nat.beq pc 446 then some (.iload 12) else none) else (bif Nat.beq pc 448 then some (.iconst 2) else none)) else (bif Nat.blt pc 450 then (bif Nat.beq pc 449 then some (.iadd) else none) else (bif Nat.beq pc 450 then some (.iaload) else none))) else (bif Nat.blt pc 455 then (bif Nat.blt pc 452 then (bif Nat.beq pc 451 then some (.iastore) else none) else (bif Nat.beq pc 452 then some (.iinc 12 1) else none)) else (bif Nat.blt pc 458 then (bif Nat.beq pc 455 then some (.goto (-39)) else none) else (bif Nat.blt pc 459 then (bif Nat.beq pc 458 then some (.iconst 0) else none) else (bif Nat.beq pc 459 then some (.ireturn) else none)))))))))
def q_x119 : Nat → Option Instr := q_g 460 q_t119
def q_y119 : MethodName := ⟨"RatchetPostModel", "begun", "(IIII)I"⟩
def q_m119 : q_MI := (q_y119, prog_10_method_42_code, 13, (some .int), 8, 1, false, q_x119)
def q_t120 (pc : Nat) : Option Instr := bif Nat.blt pc 29 then (bif Nat.blt pc 13 then (bif Nat.blt pc 6 then (bif Nat.blt pc 4 then (bif Nat.blt pc 1 then (bif Nat.beq pc 0 then some (.aload_n 0) else none) else (bif Nat.beq pc 1 then some (.getfield 20) else none)) else (bif Nat.blt pc 5 then (bif Nat.beq pc 4 then some (.iload_n 2) else none) else (bif Nat.beq pc 5 then some (.iaload) else none))) else (bif Nat.blt pc 8 then (bif Nat.blt pc 7 then (bif Nat.beq pc 6 then some (.istore_n 3) else none) else (bif Nat.beq pc 7 then some (.aload_n 0) else none)) else (bif Nat.blt pc 9 then (bif Nat.beq pc 8 then some (.iload_n 1) else none) else (bif Nat.blt pc 10 then (bif Nat.beq pc 9 then some (.iload_n 2) else none) else (bif Nat.beq pc 10 then some (.invokevirtual 213) else none))))) else (bif Nat.blt pc 21 then (bif Nat.blt pc 17 then (bif Nat.blt pc 15 then (bif Nat.beq pc 13 then some (.istore 4) else none) else (bif Nat.beq pc 15 then some (.iload 4) else none)) else (bif Nat.blt pc 20 then (bif Nat.beq pc 17 then some (.ifCond .eq 13) else none) else (bif Nat.beq pc 20 then some (.aload_n 0) else none))) else (bif Nat.blt pc 25 then (bif Nat.blt pc 24 then (bif Nat.beq pc 21 then some (.getfield 20) else none) else (bif Nat.beq pc 24 then some (.iload_n 2) else none)) else (bif Nat.blt pc 26 then (bif Nat.beq pc 25 then some (.iload_n 3) else none) else (bif Nat.blt pc 27 then (bif Nat.beq pc 26 then some (.iastore) else none) else (bif Nat.beq pc 27 then some (.iload 4) else none)))))) else (bif Nat.blt pc 41 then (bif Nat.blt pc 35 then (bif Nat.blt pc 31 then (bif Nat.blt pc 30 then (bif Nat.beq pc 29 then some (.ireturn) else none) else (bif Nat.beq pc 30 then some (.aload_n 0) else none)) else (bif Nat.blt pc 32 then (bif Nat.beq pc 31 then some (.aload_n 0) else none) else (bif Nat.beq pc 32 then some (.getfield 56) else none))) else (bif Nat.blt pc 38 then (bif Nat.blt pc 36 then (bif Nat.beq pc 35 then some (.iload_n 1) else none) else (bif Nat.beq pc 36 then some (.bipush 10) else none)) else (bif Nat.blt pc 39 then (bif Nat.beq pc 38 then some (.iadd) else none) else (bif Nat.blt pc 40 then (bif Nat.beq pc 39 then some (.laload) else none) else (bif Nat.beq pc 40 then some (.aload_n 0) else none))))) else (bif Nat.blt pc 52 then (bif Nat.blt pc 45 then (bif Nat.blt pc 44 then (bif Nat.beq pc 41 then some (.invokevirtual 178) else none) else (bif Nat.beq pc 44 then some (.lxor) else none)) else (bif Nat.blt pc 48 then (bif Nat.beq pc 45 then some (.putfield 216) else none) else (bif Nat.blt pc 49 then (bif Nat.beq pc 48 then some (.aload_n 0) else none) else (bif Nat.beq pc 49 then some (.getfield 53) else none)))) else (bif Nat.blt pc 55 then (bif Nat.blt pc 54 then (bif Nat.beq pc 52 then some (.bipush 11) else none) else (bif Nat.beq pc 54 then some (.iconst 1) else none)) else (bif Nat.blt pc 56 then (bif Nat.beq pc 55 then some (.iastore) else none) else (bif Nat.blt pc 57 then (bif Nat.beq pc 56 then some (.iconst 0) else none) else (bif Nat.beq pc 57 then some (.ireturn) else none))))))
def q_x120 : Nat → Option Instr := q_g 58 q_t120
def q_y120 : MethodName := ⟨"RatchetPostModel", "tried", "(II)I"⟩
def q_m120 : q_MI := (q_y120, prog_10_method_43_code, 5, (some .int), 8, 1, false, q_x120)
def q_t121 (pc : Nat) : Option Instr := bif Nat.blt pc 48 then (bif Nat.blt pc 23 then (bif Nat.blt pc 12 then (bif Nat.blt pc 6 then (bif Nat.blt pc 4 then (bif Nat.blt pc 1 then (bif Nat.beq pc 0 then some (.aload_n 0) else none) else (bif Nat.beq pc 1 then some (.getfield 56) else none)) else (bif Nat.blt pc 5 then (bif Nat.beq pc 4 then some (.iload_n 1) else none) else (bif Nat.beq pc 5 then some (.laload) else none))) else (bif Nat.blt pc 8 then (bif Nat.blt pc 7 then (bif Nat.beq pc 6 then some (.l2i) else none) else (bif Nat.beq pc 7 then some (.istore_n 2) else none)) else (bif Nat.blt pc 9 then (bif Nat.beq pc 8 then some (.aload_n 0) else none) else (bif Nat.beq pc 9 then some (.getfield 56) else none)))) else (bif Nat.blt pc 16 then (bif Nat.blt pc 14 then (bif Nat.blt pc 13 then (bif Nat.beq pc 12 then some (.iload_n 1) else none) else (bif Nat.beq pc 13 then some (.iconst 1) else none)) else (bif Nat.blt pc 15 then (bif Nat.beq pc 14 then some (.iadd) else none) else (bif Nat.beq pc 15 then some (.laload) else none))) else (bif Nat.blt pc 18 then (bif Nat.blt pc 17 then (bif Nat.beq pc 16 then some (.l2i) else none) else (bif Nat.beq pc 17 then some (.istore_n 3) else none)) else (bif Nat.blt pc 19 then (bif Nat.beq pc 18 then some (.aload_n 0) else none) else (bif Nat.blt pc 20 then (bif Nat.beq pc 19 then some (.aload_n 0) else none) else (bif Nat.beq pc 20 then some (.getfield 56) else none)))))) else (bif Nat.blt pc 36 then (bif Nat.blt pc 28 then (bif Nat.blt pc 26 then (bif Nat.blt pc 24 then (bif Nat.beq pc 23 then some (.iload_n 1) else none) else (bif Nat.beq pc 24 then some (.bipush 7) else none)) else (bif Nat.blt pc 27 then (bif Nat.beq pc 26 then some (.iadd) else none) else (bif Nat.beq pc 27 then some (.laload) else none))) else (bif Nat.blt pc 30 then (bif Nat.blt pc 29 then (bif Nat.beq pc 28 then some (.l2i) else none) else (bif Nat.beq pc 29 then some (.aload_n 0) else none)) else (bif Nat.blt pc 33 then (bif Nat.beq pc 30 then some (.getfield 56) else none) else (bif Nat.blt pc 34 then (bif Nat.beq pc 33 then some (.iload_n 1) else none) else (bif Nat.beq pc 34 then some (.bipush 8) else none))))) else (bif Nat.blt pc 40 then (bif Nat.blt pc 38 then (bif Nat.blt pc 37 then (bif Nat.beq pc 36 then some (.iadd) else none) else (bif Nat.beq pc 37 then some (.laload) else none)) else (bif Nat.blt pc 39 then (bif Nat.beq pc 38 then some (.l2i) else none) else (bif Nat.beq pc 39 then some (.aload_n 0) else none))) else (bif Nat.blt pc 44 then (bif Nat.blt pc 43 then (bif Nat.beq pc 40 then some (.getfield 56) else none) else (bif Nat.beq pc 43 then some (.iload_n 1) else none)) else (bif Nat.blt pc 46 then (bif Nat.beq pc 44 then some (.bipush 9) else none) else (bif Nat.blt pc 47 then (bif Nat.beq pc 46 then some (.iadd) else none) else (bif Nat.beq pc 47 then some (.laload) else none))))))) else (bif Nat.blt pc 73 then (bif Nat.blt pc 62 then (bif Nat.blt pc 54 then (bif Nat.blt pc 50 then (bif Nat.blt pc 49 then (bif Nat.beq pc 48 then some (.l2i) else none) else (bif Nat.beq pc 49 then some (.aload_n 0) else none)) else (bif Nat.blt pc 53 then (bif Nat.beq pc 50 then some (.getfield 56) else none) else (bif Nat.beq pc 53 then some (.iload_n 1) else none))) else (bif Nat.blt pc 57 then (bif Nat.blt pc 56 then (bif Nat.beq pc 54 then some (.bipush 10) else none) else (bif Nat.beq pc 56 then some (.iadd) else none)) else (bif Nat.blt pc 58 then (bif Nat.beq pc 57 then some (.laload) else none) else (bif Nat.blt pc 59 then (bif Nat.beq pc 58 then some (.aload_n 0) else none) else (bif Nat.beq pc 59 then some (.getfield 23) else none))))) else (bif Nat.blt pc 66 then (bif Nat.blt pc 64 then (bif Nat.blt pc 63 then (bif Nat.beq pc 62 then some (.iconst 2) else none) else (bif Nat.beq pc 63 then some (.iload_n 2) else none)) else (bif Nat.blt pc 65 then (bif Nat.beq pc 64 then some (.imul) else none) else (bif Nat.beq pc 65 then some (.iconst 1) else none))) else (bif Nat.blt pc 68 then (bif Nat.blt pc 67 then (bif Nat.beq pc 66 then some (.iadd) else none) else (bif Nat.beq pc 67 then some (.iaload) else none)) else (bif Nat.blt pc 69 then (bif Nat.beq pc 68 then some (.aload_n 0) else none) else (bif Nat.blt pc 72 then (bif Nat.beq pc 69 then some (.getfield 23) else none) else (bif Nat.beq pc 72 then some (.iconst 2) else none)))))) else (bif Nat.blt pc 86 then (bif Nat.blt pc 77 then (bif Nat.blt pc 75 then (bif Nat.blt pc 74 then (bif Nat.beq pc 73 then some (.iload_n 3) else none) else (bif Nat.beq pc 74 then some (.imul) else none)) else (bif Nat.blt pc 76 then (bif Nat.beq pc 75 then some (.iconst 1) else none) else (bif Nat.beq pc 76 then some (.iadd) else none))) else (bif Nat.blt pc 81 then (bif Nat.blt pc 78 then (bif Nat.beq pc 77 then some (.iaload) else none) else (bif Nat.beq pc 78 then some (.invokevirtual 181) else none)) else (bif Nat.blt pc 82 then (bif Nat.beq pc 81 then some (.aload_n 0) else none) else (bif Nat.blt pc 85 then (bif Nat.beq pc 82 then some (.getfield 56) else none) else (bif Nat.beq pc 85 then some (.iload_n 1) else none))))) else (bif Nat.blt pc 91 then (bif Nat.blt pc 89 then (bif Nat.blt pc 88 then (bif Nat.beq pc 86 then some (.bipush 11) else none) else (bif Nat.beq pc 88 then some (.iadd) else none)) else (bif Nat.blt pc 90 then (bif Nat.beq pc 89 then some (.laload) else none) else (bif Nat.beq pc 90 then some (.lcmp) else none))) else (bif Nat.blt pc 95 then (bif Nat.blt pc 94 then (bif Nat.beq pc 91 then some (.ifCond .ne 7) else none) else (bif Nat.beq pc 94 then some (.iconst 1) else none)) else (bif Nat.blt pc 98 then (bif Nat.beq pc 95 then some (.goto 4) else none) else (bif Nat.blt pc 99 then (bif Nat.beq pc 98 then some (.iconst 0) else none) else (bif Nat.beq pc 99 then some (.ireturn) else none)))))))
def q_x121 : Nat → Option Instr := q_g 100 q_t121
def q_y121 : MethodName := ⟨"RatchetPostModel", "fits", "(I)Z"⟩
def q_m121 : q_MI := (q_y121, prog_10_method_44_code, 4, (some .boolean), 8, 2, false, q_x121)
def q_t122 (pc : Nat) : Option Instr := bif Nat.blt pc 158 then (bif Nat.blt pc 75 then (bif Nat.blt pc 33 then (bif Nat.blt pc 16 then (bif Nat.blt pc 8 then (bif Nat.blt pc 4 then (bif Nat.blt pc 1 then (bif Nat.beq pc 0 then some (.aload_n 0) else none) else (bif Nat.beq pc 1 then some (.getfield 56) else none)) else (bif Nat.blt pc 5 then (bif Nat.beq pc 4 then some (.iload_n 1) else none) else (bif Nat.blt pc 7 then (bif Nat.beq pc 5 then some (.bipush 7) else none) else (bif Nat.beq pc 7 then some (.iadd) else none)))) else (bif Nat.blt pc 11 then (bif Nat.blt pc 9 then (bif Nat.beq pc 8 then some (.laload) else none) else (bif Nat.blt pc 10 then (bif Nat.beq pc 9 then some (.l2i) else none) else (bif Nat.beq pc 10 then some (.istore_n 3) else none))) else (bif Nat.blt pc 12 then (bif Nat.beq pc 11 then some (.aload_n 0) else none) else (bif Nat.blt pc 15 then (bif Nat.beq pc 12 then some (.getfield 56) else none) else (bif Nat.beq pc 15 then some (.iload_n 1) else none))))) else (bif Nat.blt pc 24 then (bif Nat.blt pc 20 then (bif Nat.blt pc 18 then (bif Nat.beq pc 16 then some (.bipush 8) else none) else (bif Nat.blt pc 19 then (bif Nat.beq pc 18 then some (.iadd) else none) else (bif Nat.beq pc 19 then some (.laload) else none))) else (bif Nat.blt pc 21 then (bif Nat.beq pc 20 then some (.l2i) else none) else (bif Nat.blt pc 23 then (bif Nat.beq pc 21 then some (.istore 4) else none) else (bif Nat.beq pc 23 then some (.aload_n 0) else none)))) else (bif Nat.blt pc 30 then (bif Nat.blt pc 27 then (bif Nat.beq pc 24 then some (.getfield 56) else none) else (bif Nat.blt pc 28 then (bif Nat.beq pc 27 then some (.iload_n 1) else none) else (bif Nat.beq pc 28 then some (.bipush 9) else none))) else (bif Nat.blt pc 31 then (bif Nat.beq pc 30 then some (.iadd) else none) else (bif Nat.blt pc 32 then (bif Nat.beq pc 31 then some (.laload) else none) else (bif Nat.beq pc 32 then some (.l2i) else none)))))) else (bif Nat.blt pc 54 then (bif Nat.blt pc 41 then (bif Nat.blt pc 36 then (bif Nat.blt pc 35 then (bif Nat.beq pc 33 then some (.istore 5) else none) else (bif Nat.beq pc 35 then some (.iconst 0) else none)) else (bif Nat.blt pc 38 then (bif Nat.beq pc 36 then some (.istore 6) else none) else (bif Nat.blt pc 40 then (bif Nat.beq pc 38 then some (.iload 6) else none) else (bif Nat.beq pc 40 then some (.aload_n 0) else none)))) else (bif Nat.blt pc 47 then (bif Nat.blt pc 44 then (bif Nat.beq pc 41 then some (.getfield 53) else none) else (bif Nat.blt pc 46 then (bif Nat.beq pc 44 then some (.bipush 9) else none) else (bif Nat.beq pc 46 then some (.iaload) else none))) else (bif Nat.blt pc 50 then (bif Nat.beq pc 47 then some (.if_icmp .ge 97) else none) else (bif Nat.blt pc 52 then (bif Nat.beq pc 50 then some (.bipush 38) else none) else (bif Nat.beq pc 52 then some (.bipush 10) else none))))) else (bif Nat.blt pc 64 then (bif Nat.blt pc 58 then (bif Nat.blt pc 56 then (bif Nat.beq pc 54 then some (.iload 6) else none) else (bif Nat.blt pc 57 then (bif Nat.beq pc 56 then some (.imul) else none) else (bif Nat.beq pc 57 then some (.iadd) else none))) else (bif Nat.blt pc 60 then (bif Nat.beq pc 58 then some (.istore 7) else none) else (bif Nat.blt pc 61 then (bif Nat.beq pc 60 then some (.aload_n 0) else none) else (bif Nat.beq pc 61 then some (.getfield 53) else none)))) else (bif Nat.blt pc 68 then (bif Nat.blt pc 66 then (bif Nat.beq pc 64 then some (.iload 7) else none) else (bif Nat.blt pc 67 then (bif Nat.beq pc 66 then some (.iaload) else none) else (bif Nat.beq pc 67 then some (.iload_n 3) else none))) else (bif Nat.blt pc 71 then (bif Nat.beq pc 68 then some (.if_icmp .ne 70) else none) else (bif Nat.blt pc 72 then (bif Nat.beq pc 71 then some (.aload_n 0) else none) else (bif Nat.beq pc 72 then some (.getfield 53) else none))))))) else (bif Nat.blt pc 114 then (bif Nat.blt pc 95 then (bif Nat.blt pc 82 then (bif Nat.blt pc 78 then (bif Nat.blt pc 77 then (bif Nat.beq pc 75 then some (.iload 7) else none) else (bif Nat.beq pc 77 then some (.iconst 1) else none)) else (bif Nat.blt pc 79 then (bif Nat.beq pc 78 then some (.iadd) else none) else (bif Nat.blt pc 80 then (bif Nat.beq pc 79 then some (.iaload) else none) else (bif Nat.beq pc 80 then some (.iload 4) else none)))) else (bif Nat.blt pc 88 then (bif Nat.blt pc 85 then (bif Nat.beq pc 82 then some (.if_icmp .ne 56) else none) else (bif Nat.blt pc 86 then (bif Nat.beq pc 85 then some (.iconst 0) else none) else (bif Nat.beq pc 86 then some (.istore 8) else none))) else (bif Nat.blt pc 90 then (bif Nat.beq pc 88 then some (.iload 8) else none) else (bif Nat.blt pc 92 then (bif Nat.beq pc 90 then some (.bipush 8) else none) else (bif Nat.beq pc 92 then some (.if_icmp .ge 28) else none))))) else (bif Nat.blt pc 107 then (bif Nat.blt pc 101 then (bif Nat.blt pc 96 then (bif Nat.beq pc 95 then some (.aload_n 0) else none) else (bif Nat.blt pc 99 then (bif Nat.beq pc 96 then some (.getfield 69) else none) else (bif Nat.beq pc 99 then some (.iload 8) else none))) else (bif Nat.blt pc 102 then (bif Nat.beq pc 101 then some (.aload_n 0) else none) else (bif Nat.blt pc 105 then (bif Nat.beq pc 102 then some (.getfield 53) else none) else (bif Nat.beq pc 105 then some (.iload 7) else none)))) else (bif Nat.blt pc 111 then (bif Nat.blt pc 108 then (bif Nat.beq pc 107 then some (.iconst 2) else none) else (bif Nat.blt pc 109 then (bif Nat.beq pc 108 then some (.iadd) else none) else (bif Nat.beq pc 109 then some (.iload 8) else none))) else (bif Nat.blt pc 112 then (bif Nat.beq pc 111 then some (.iadd) else none) else (bif Nat.blt pc 113 then (bif Nat.beq pc 112 then some (.iaload) else none) else (bif Nat.beq pc 113 then some (.iastore) else none)))))) else (bif Nat.blt pc 136 then (bif Nat.blt pc 125 then (bif Nat.blt pc 120 then (bif Nat.blt pc 117 then (bif Nat.beq pc 114 then some (.iinc 8 1) else none) else (bif Nat.beq pc 117 then some (.goto (-29)) else none)) else (bif Nat.blt pc 121 then (bif Nat.beq pc 120 then some (.aload_n 0) else none) else (bif Nat.blt pc 122 then (bif Nat.beq pc 121 then some (.iload_n 1) else none) else (bif Nat.beq pc 122 then some (.invokevirtual 220) else none)))) else (bif Nat.blt pc 130 then (bif Nat.blt pc 128 then (bif Nat.beq pc 125 then some (.ifCond .ne 5) else none) else (bif Nat.blt pc 129 then (bif Nat.beq pc 128 then some (.iconst 1) else none) else (bif Nat.beq pc 129 then some (.ireturn) else none))) else (bif Nat.blt pc 131 then (bif Nat.beq pc 130 then some (.aload_n 0) else none) else (bif Nat.blt pc 133 then (bif Nat.beq pc 131 then some (.iload 6) else none) else (bif Nat.beq pc 133 then some (.invokevirtual 223) else none))))) else (bif Nat.blt pc 146 then (bif Nat.blt pc 141 then (bif Nat.blt pc 137 then (bif Nat.beq pc 136 then some (.iconst 0) else none) else (bif Nat.blt pc 138 then (bif Nat.beq pc 137 then some (.ireturn) else none) else (bif Nat.beq pc 138 then some (.iinc 6 1) else none))) else (bif Nat.blt pc 144 then (bif Nat.beq pc 141 then some (.goto (-103)) else none) else (bif Nat.blt pc 145 then (bif Nat.beq pc 144 then some (.iload_n 3) else none) else (bif Nat.beq pc 145 then some (.aload_n 0) else none)))) else (bif Nat.blt pc 151 then (bif Nat.blt pc 149 then (bif Nat.beq pc 146 then some (.getfield 53) else none) else (bif Nat.blt pc 150 then (bif Nat.beq pc 149 then some (.iconst 1) else none) else (bif Nat.beq pc 150 then some (.iaload) else none))) else (bif Nat.blt pc 154 then (bif Nat.beq pc 151 then some (.if_icmp .eq 54) else none) else (bif Nat.blt pc 155 then (bif Nat.beq pc 154 then some (.aload_n 0) else none) else (bif Nat.beq pc 155 then some (.getfield 53) else none)))))))) else (bif Nat.blt pc 241 then (bif Nat.blt pc 199 then (bif Nat.blt pc 178 then (bif Nat.blt pc 166 then (bif Nat.blt pc 160 then (bif Nat.blt pc 159 then (bif Nat.beq pc 158 then some (.iconst 5) else none) else (bif Nat.beq pc 159 then some (.iaload) else none)) else (bif Nat.blt pc 161 then (bif Nat.beq pc 160 then some (.iconst 1) else none) else (bif Nat.blt pc 164 then (bif Nat.beq pc 161 then some (.if_icmp .ne 38) else none) else (bif Nat.beq pc 164 then some (.iload 5) else none)))) else (bif Nat.blt pc 172 then (bif Nat.blt pc 167 then (bif Nat.beq pc 166 then some (.aload_n 0) else none) else (bif Nat.blt pc 170 then (bif Nat.beq pc 167 then some (.getfield 53) else none) else (bif Nat.beq pc 170 then some (.bipush 7) else none))) else (bif Nat.blt pc 173 then (bif Nat.beq pc 172 then some (.iaload) else none) else (bif Nat.blt pc 176 then (bif Nat.beq pc 173 then some (.if_icmp .le 26) else none) else (bif Nat.beq pc 176 then some (.iload 5) else none))))) else (bif Nat.blt pc 188 then (bif Nat.blt pc 184 then (bif Nat.blt pc 179 then (bif Nat.beq pc 178 then some (.aload_n 0) else none) else (bif Nat.blt pc 182 then (bif Nat.beq pc 179 then some (.getfield 53) else none) else (bif Nat.beq pc 182 then some (.bipush 7) else none))) else (bif Nat.blt pc 185 then (bif Nat.beq pc 184 then some (.iaload) else none) else (bif Nat.blt pc 186 then (bif Nat.beq pc 185 then some (.isub) else none) else (bif Nat.beq pc 186 then some (.bipush 8) else none)))) else (bif Nat.blt pc 193 then (bif Nat.blt pc 191 then (bif Nat.beq pc 188 then some (.if_icmp .le 5) else none) else (bif Nat.blt pc 192 then (bif Nat.beq pc 191 then some (.iconst 2) else none) else (bif Nat.beq pc 192 then some (.ireturn) else none))) else (bif Nat.blt pc 194 then (bif Nat.beq pc 193 then some (.aload_n 0) else none) else (bif Nat.blt pc 196 then (bif Nat.beq pc 194 then some (.iload 5) else none) else (bif Nat.beq pc 196 then some (.invokevirtual 226) else none)))))) else (bif Nat.blt pc 217 then (bif Nat.blt pc 206 then (bif Nat.blt pc 201 then (bif Nat.blt pc 200 then (bif Nat.beq pc 199 then some (.aload_n 0) else none) else (bif Nat.beq pc 200 then some (.iload_n 3) else none)) else (bif Nat.blt pc 202 then (bif Nat.beq pc 201 then some (.iload_n 2) else none) else (bif Nat.blt pc 205 then (bif Nat.beq pc 202 then some (.invokevirtual 229) else none) else (bif Nat.beq pc 205 then some (.aload_n 0) else none)))) else (bif Nat.blt pc 211 then (bif Nat.blt pc 209 then (bif Nat.beq pc 206 then some (.getfield 53) else none) else (bif Nat.blt pc 210 then (bif Nat.beq pc 209 then some (.iconst 5) else none) else (bif Nat.beq pc 210 then some (.iaload) else none))) else (bif Nat.blt pc 214 then (bif Nat.beq pc 211 then some (.ifCond .eq 30) else none) else (bif Nat.blt pc 216 then (bif Nat.beq pc 214 then some (.iload 4) else none) else (bif Nat.beq pc 216 then some (.aload_n 0) else none))))) else (bif Nat.blt pc 229 then (bif Nat.blt pc 223 then (bif Nat.blt pc 220 then (bif Nat.beq pc 217 then some (.getfield 53) else none) else (bif Nat.blt pc 222 then (bif Nat.beq pc 220 then some (.bipush 7) else none) else (bif Nat.beq pc 222 then some (.iaload) else none))) else (bif Nat.blt pc 226 then (bif Nat.beq pc 223 then some (.if_icmp .lt 18) else none) else (bif Nat.blt pc 228 then (bif Nat.beq pc 226 then some (.iload 4) else none) else (bif Nat.beq pc 228 then some (.aload_n 0) else none)))) else (bif Nat.blt pc 235 then (bif Nat.blt pc 232 then (bif Nat.beq pc 229 then some (.getfield 53) else none) else (bif Nat.blt pc 234 then (bif Nat.beq pc 232 then some (.bipush 7) else none) else (bif Nat.beq pc 234 then some (.iaload) else none))) else (bif Nat.blt pc 236 then (bif Nat.beq pc 235 then some (.isub) else none) else (bif Nat.blt pc 238 then (bif Nat.beq pc 236 then some (.bipush 8) else none) else (bif Nat.beq pc 238 then some (.if_icmp .le 34) else none))))))) else (bif Nat.blt pc 284 then (bif Nat.blt pc 262 then (bif Nat.blt pc 250 then (bif Nat.blt pc 245 then (bif Nat.blt pc 242 then (bif Nat.beq pc 241 then some (.aload_n 0) else none) else (bif Nat.beq pc 242 then some (.getfield 53) else none)) else (bif Nat.blt pc 246 then (bif Nat.beq pc 245 then some (.iconst 5) else none) else (bif Nat.blt pc 247 then (bif Nat.beq pc 246 then some (.iaload) else none) else (bif Nat.beq pc 247 then some (.ifCond .ne 7) else none)))) else (bif Nat.blt pc 256 then (bif Nat.blt pc 251 then (bif Nat.beq pc 250 then some (.iconst 1) else none) else (bif Nat.blt pc 254 then (bif Nat.beq pc 251 then some (.goto 20) else none) else (bif Nat.beq pc 254 then some (.iload 4) else none))) else (bif Nat.blt pc 257 then (bif Nat.beq pc 256 then some (.aload_n 0) else none) else (bif Nat.blt pc 260 then (bif Nat.beq pc 257 then some (.getfield 53) else none) else (bif Nat.beq pc 260 then some (.bipush 7) else none))))) else (bif Nat.blt pc 272 then (bif Nat.blt pc 267 then (bif Nat.blt pc 263 then (bif Nat.beq pc 262 then some (.iaload) else none) else (bif Nat.blt pc 266 then (bif Nat.beq pc 263 then some (.if_icmp .ge 7) else none) else (bif Nat.beq pc 266 then some (.iconst 5) else none))) else (bif Nat.blt pc 270 then (bif Nat.beq pc 267 then some (.goto 4) else none) else (bif Nat.blt pc 271 then (bif Nat.beq pc 270 then some (.iconst 2) else none) else (bif Nat.beq pc 271 then some (.ireturn) else none)))) else (bif Nat.blt pc 278 then (bif Nat.blt pc 273 then (bif Nat.beq pc 272 then some (.aload_n 0) else none) else (bif Nat.blt pc 275 then (bif Nat.beq pc 273 then some (.iload 4) else none) else (bif Nat.beq pc 275 then some (.invokevirtual 226) else none))) else (bif Nat.blt pc 279 then (bif Nat.beq pc 278 then some (.aload_n 0) else none) else (bif Nat.blt pc 282 then (bif Nat.beq pc 279 then some (.getfield 53) else none) else (bif Nat.beq pc 282 then some (.bipush 9) else none)))))) else (bif Nat.blt pc 304 then (bif Nat.blt pc 292 then (bif Nat.blt pc 287 then (bif Nat.blt pc 285 then (bif Nat.beq pc 284 then some (.iaload) else none) else (bif Nat.beq pc 285 then some (.bipush 12) else none)) else (bif Nat.blt pc 290 then (bif Nat.beq pc 287 then some (.if_icmp .le 5) else none) else (bif Nat.blt pc 291 then (bif Nat.beq pc 290 then some (.iconst 2) else none) else (bif Nat.beq pc 291 then some (.ireturn) else none)))) else (bif Nat.blt pc 298 then (bif Nat.blt pc 293 then (bif Nat.beq pc 292 then some (.aload_n 0) else none) else (bif Nat.blt pc 295 then (bif Nat.beq pc 293 then some (.bipush 30) else none) else (bif Nat.beq pc 295 then some (.invokevirtual 175) else none))) else (bif Nat.blt pc 299 then (bif Nat.beq pc 298 then some (.aload_n 0) else none) else (bif Nat.blt pc 302 then (bif Nat.beq pc 299 then some (.getfield 53) else none) else (bif Nat.beq pc 302 then some (.bipush 7) else none))))) else (bif Nat.blt pc 311 then (bif Nat.blt pc 308 then (bif Nat.blt pc 306 then (bif Nat.beq pc 304 then some (.iload 4) else none) else (bif Nat.blt pc 307 then (bif Nat.beq pc 306 then some (.iconst 1) else none) else (bif Nat.beq pc 307 then some (.iadd) else none))) else (bif Nat.blt pc 309 then (bif Nat.beq pc 308 then some (.iastore) else none) else (bif Nat.blt pc 310 then (bif Nat.beq pc 309 then some (.aload_n 0) else none) else (bif Nat.beq pc 310 then some (.iload_n 1) else none)))) else (bif Nat.blt pc 318 then (bif Nat.blt pc 314 then (bif Nat.beq pc 311 then some (.invokevirtual 220) else none) else (bif Nat.blt pc 317 then (bif Nat.beq pc 314 then some (.ifCond .eq 7) else none) else (bif Nat.beq pc 317 then some (.iconst 0) else none))) else (bif Nat.blt pc 321 then (bif Nat.beq pc 318 then some (.goto 4) else none) else (bif Nat.blt pc 322 then (bif Nat.beq pc 321 then some (.iconst 1) else none) else (bif Nat.beq pc 322 then some (.ireturn) else none))))))))
def q_x122 : Nat → Option Instr := q_g 323 q_t122
def q_y122 : MethodName := ⟨"RatchetPostModel", "trial", "(II)I"⟩
def q_m122 : q_MI := (q_y122, prog_10_method_45_code, 9, (some .int), 8, 1, false, q_x122)
def q_t123 (pc : Nat) : Option Instr := bif Nat.blt pc 53 then (bif Nat.blt pc 28 then (bif Nat.blt pc 14 then (bif Nat.blt pc 7 then (bif Nat.blt pc 4 then (bif Nat.blt pc 1 then (bif Nat.beq pc 0 then some (.aload_n 0) else none) else (bif Nat.beq pc 1 then some (.getfield 53) else none)) else (bif Nat.blt pc 6 then (bif Nat.beq pc 4 then some (.bipush 8) else none) else (bif Nat.beq pc 6 then some (.aload_n 0) else none))) else (bif Nat.blt pc 12 then (bif Nat.blt pc 10 then (bif Nat.beq pc 7 then some (.getfield 53) else none) else (bif Nat.beq pc 10 then some (.bipush 6) else none)) else (bif Nat.blt pc 13 then (bif Nat.beq pc 12 then some (.iaload) else none) else (bif Nat.beq pc 13 then some (.iastore) else none)))) else (bif Nat.blt pc 21 then (bif Nat.blt pc 18 then (bif Nat.blt pc 15 then (bif Nat.beq pc 14 then some (.aload_n 0) else none) else (bif Nat.beq pc 15 then some (.getfield 53) else none)) else (bif Nat.blt pc 20 then (bif Nat.beq pc 18 then some (.bipush 6) else none) else (bif Nat.beq pc 20 then some (.iconst 0) else none))) else (bif Nat.blt pc 23 then (bif Nat.blt pc 22 then (bif Nat.beq pc 21 then some (.iastore) else none) else (bif Nat.beq pc 22 then some (.aload_n 0) else none)) else (bif Nat.blt pc 26 then (bif Nat.beq pc 23 then some (.getfield 53) else none) else (bif Nat.beq pc 26 then some (.bipush 7) else none))))) else (bif Nat.blt pc 38 then (bif Nat.blt pc 34 then (bif Nat.blt pc 30 then (bif Nat.blt pc 29 then (bif Nat.beq pc 28 then some (.iconst 0) else none) else (bif Nat.beq pc 29 then some (.iastore) else none)) else (bif Nat.blt pc 31 then (bif Nat.beq pc 30 then some (.aload_n 0) else none) else (bif Nat.beq pc 31 then some (.getfield 53) else none))) else (bif Nat.blt pc 36 then (bif Nat.blt pc 35 then (bif Nat.beq pc 34 then some (.iconst 1) else none) else (bif Nat.beq pc 35 then some (.iload_n 1) else none)) else (bif Nat.blt pc 37 then (bif Nat.beq pc 36 then some (.iastore) else none) else (bif Nat.beq pc 37 then some (.aload_n 0) else none)))) else (bif Nat.blt pc 44 then (bif Nat.blt pc 40 then (bif Nat.blt pc 39 then (bif Nat.beq pc 38 then some (.iload_n 1) else none) else (bif Nat.beq pc 39 then some (.aload_n 0) else none)) else (bif Nat.blt pc 43 then (bif Nat.beq pc 40 then some (.getfield 53) else none) else (bif Nat.beq pc 43 then some (.iconst 2) else none))) else (bif Nat.blt pc 48 then (bif Nat.blt pc 45 then (bif Nat.beq pc 44 then some (.iaload) else none) else (bif Nat.beq pc 45 then some (.invokestatic 82) else none)) else (bif Nat.blt pc 50 then (bif Nat.beq pc 48 then some (.bipush 30) else none) else (bif Nat.beq pc 50 then some (.invokevirtual 163) else none)))))) else (bif Nat.blt pc 79 then (bif Nat.blt pc 65 then (bif Nat.blt pc 59 then (bif Nat.blt pc 57 then (bif Nat.blt pc 54 then (bif Nat.beq pc 53 then some (.aload_n 0) else none) else (bif Nat.beq pc 54 then some (.getfield 53) else none)) else (bif Nat.blt pc 58 then (bif Nat.beq pc 57 then some (.iconst 5) else none) else (bif Nat.beq pc 58 then some (.iconst 1) else none))) else (bif Nat.blt pc 61 then (bif Nat.blt pc 60 then (bif Nat.beq pc 59 then some (.iastore) else none) else (bif Nat.beq pc 60 then some (.aload_n 0) else none)) else (bif Nat.blt pc 62 then (bif Nat.beq pc 61 then some (.iload_n 2) else none) else (bif Nat.beq pc 62 then some (.invokevirtual 124) else none)))) else (bif Nat.blt pc 71 then (bif Nat.blt pc 69 then (bif Nat.blt pc 66 then (bif Nat.beq pc 65 then some (.aload_n 0) else none) else (bif Nat.beq pc 66 then some (.getfield 53) else none)) else (bif Nat.blt pc 70 then (bif Nat.beq pc 69 then some (.iconst 2) else none) else (bif Nat.beq pc 70 then some (.aload_n 0) else none))) else (bif Nat.blt pc 75 then (bif Nat.blt pc 74 then (bif Nat.beq pc 71 then some (.getfield 117) else none) else (bif Nat.beq pc 74 then some (.iastore) else none)) else (bif Nat.blt pc 76 then (bif Nat.beq pc 75 then some (.aload_n 0) else none) else (bif Nat.beq pc 76 then some (.getfield 53) else none))))) else (bif Nat.blt pc 91 then (bif Nat.blt pc 85 then (bif Nat.blt pc 81 then (bif Nat.blt pc 80 then (bif Nat.beq pc 79 then some (.iconst 3) else none) else (bif Nat.beq pc 80 then some (.aload_n 0) else none)) else (bif Nat.blt pc 84 then (bif Nat.beq pc 81 then some (.getfield 121) else none) else (bif Nat.beq pc 84 then some (.iastore) else none))) else (bif Nat.blt pc 87 then (bif Nat.blt pc 86 then (bif Nat.beq pc 85 then some (.aload_n 0) else none) else (bif Nat.beq pc 86 then some (.iload_n 1) else none)) else (bif Nat.blt pc 88 then (bif Nat.beq pc 87 then some (.aload_n 0) else none) else (bif Nat.beq pc 88 then some (.getfield 117) else none)))) else (bif Nat.blt pc 100 then (bif Nat.blt pc 96 then (bif Nat.blt pc 94 then (bif Nat.beq pc 91 then some (.invokestatic 82) else none) else (bif Nat.beq pc 94 then some (.bipush 22) else none)) else (bif Nat.blt pc 99 then (bif Nat.beq pc 96 then some (.invokevirtual 163) else none) else (bif Nat.beq pc 99 then some (.aload_n 0) else none))) else (bif Nat.blt pc 104 then (bif Nat.blt pc 103 then (bif Nat.beq pc 100 then some (.getfield 53) else none) else (bif Nat.beq pc 103 then some (.iconst 4) else none)) else (bif Nat.blt pc 105 then (bif Nat.beq pc 104 then some (.iconst 1) else none) else (bif Nat.blt pc 106 then (bif Nat.beq pc 105 then some (.iastore) else none) else (bif Nat.beq pc 106 then some (.return_) else none)))))))
def q_x123 : Nat → Option Instr := q_g 107 q_t123
def q_y123 : MethodName := ⟨"RatchetPostModel", "turned", "(II)V"⟩
def q_m123 : q_MI := (q_y123, prog_10_method_46_code, 3, none, 8, 0, false, q_x123)
def q_t124 (pc : Nat) : Option Instr := bif Nat.blt pc 58 then (bif Nat.blt pc 31 then (bif Nat.blt pc 17 then (bif Nat.blt pc 7 then (bif Nat.blt pc 4 then (bif Nat.blt pc 1 then (bif Nat.beq pc 0 then some (.aload_n 0) else none) else (bif Nat.beq pc 1 then some (.getfield 53) else none)) else (bif Nat.blt pc 6 then (bif Nat.beq pc 4 then some (.bipush 7) else none) else (bif Nat.beq pc 6 then some (.iaload) else none))) else (bif Nat.blt pc 11 then (bif Nat.blt pc 8 then (bif Nat.beq pc 7 then some (.iload_n 1) else none) else (bif Nat.beq pc 8 then some (.if_icmp .ge 105) else none)) else (bif Nat.blt pc 12 then (bif Nat.beq pc 11 then some (.aload_n 0) else none) else (bif Nat.blt pc 14 then (bif Nat.beq pc 12 then some (.bipush 30) else none) else (bif Nat.beq pc 14 then some (.invokevirtual 175) else none))))) else (bif Nat.blt pc 25 then (bif Nat.blt pc 21 then (bif Nat.blt pc 19 then (bif Nat.beq pc 17 then some (.bipush 38) else none) else (bif Nat.beq pc 19 then some (.bipush 10) else none)) else (bif Nat.blt pc 22 then (bif Nat.beq pc 21 then some (.aload_n 0) else none) else (bif Nat.beq pc 22 then some (.getfield 53) else none))) else (bif Nat.blt pc 28 then (bif Nat.blt pc 27 then (bif Nat.beq pc 25 then some (.bipush 9) else none) else (bif Nat.beq pc 27 then some (.iaload) else none)) else (bif Nat.blt pc 29 then (bif Nat.beq pc 28 then some (.imul) else none) else (bif Nat.blt pc 30 then (bif Nat.beq pc 29 then some (.iadd) else none) else (bif Nat.beq pc 30 then some (.istore_n 2) else none)))))) else (bif Nat.blt pc 44 then (bif Nat.blt pc 37 then (bif Nat.blt pc 35 then (bif Nat.blt pc 32 then (bif Nat.beq pc 31 then some (.aload_n 0) else none) else (bif Nat.beq pc 32 then some (.getfield 53) else none)) else (bif Nat.blt pc 36 then (bif Nat.beq pc 35 then some (.iload_n 2) else none) else (bif Nat.beq pc 36 then some (.aload_n 0) else none))) else (bif Nat.blt pc 41 then (bif Nat.blt pc 40 then (bif Nat.beq pc 37 then some (.getfield 53) else none) else (bif Nat.beq pc 40 then some (.iconst 1) else none)) else (bif Nat.blt pc 42 then (bif Nat.beq pc 41 then some (.iaload) else none) else (bif Nat.blt pc 43 then (bif Nat.beq pc 42 then some (.iastore) else none) else (bif Nat.beq pc 43 then some (.aload_n 0) else none))))) else (bif Nat.blt pc 50 then (bif Nat.blt pc 48 then (bif Nat.blt pc 47 then (bif Nat.beq pc 44 then some (.getfield 53) else none) else (bif Nat.beq pc 47 then some (.iload_n 2) else none)) else (bif Nat.blt pc 49 then (bif Nat.beq pc 48 then some (.iconst 1) else none) else (bif Nat.beq pc 49 then some (.iadd) else none))) else (bif Nat.blt pc 54 then (bif Nat.blt pc 51 then (bif Nat.beq pc 50 then some (.aload_n 0) else none) else (bif Nat.beq pc 51 then some (.getfield 53) else none)) else (bif Nat.blt pc 56 then (bif Nat.beq pc 54 then some (.bipush 7) else none) else (bif Nat.blt pc 57 then (bif Nat.beq pc 56 then some (.iaload) else none) else (bif Nat.beq pc 57 then some (.iastore) else none))))))) else (bif Nat.blt pc 85 then (bif Nat.blt pc 72 then (bif Nat.blt pc 63 then (bif Nat.blt pc 60 then (bif Nat.blt pc 59 then (bif Nat.beq pc 58 then some (.iconst 0) else none) else (bif Nat.beq pc 59 then some (.istore_n 3) else none)) else (bif Nat.blt pc 61 then (bif Nat.beq pc 60 then some (.iload_n 3) else none) else (bif Nat.beq pc 61 then some (.bipush 8) else none))) else (bif Nat.blt pc 67 then (bif Nat.blt pc 66 then (bif Nat.beq pc 63 then some (.if_icmp .ge 25) else none) else (bif Nat.beq pc 66 then some (.aload_n 0) else none)) else (bif Nat.blt pc 70 then (bif Nat.beq pc 67 then some (.getfield 53) else none) else (bif Nat.blt pc 71 then (bif Nat.beq pc 70 then some (.iload_n 2) else none) else (bif Nat.beq pc 71 then some (.iconst 2) else none))))) else (bif Nat.blt pc 76 then (bif Nat.blt pc 74 then (bif Nat.blt pc 73 then (bif Nat.beq pc 72 then some (.iadd) else none) else (bif Nat.beq pc 73 then some (.iload_n 3) else none)) else (bif Nat.blt pc 75 then (bif Nat.beq pc 74 then some (.iadd) else none) else (bif Nat.beq pc 75 then some (.aload_n 0) else none))) else (bif Nat.blt pc 80 then (bif Nat.blt pc 79 then (bif Nat.beq pc 76 then some (.getfield 69) else none) else (bif Nat.beq pc 79 then some (.iload_n 3) else none)) else (bif Nat.blt pc 81 then (bif Nat.beq pc 80 then some (.iaload) else none) else (bif Nat.blt pc 82 then (bif Nat.beq pc 81 then some (.iastore) else none) else (bif Nat.beq pc 82 then some (.iinc 3 1) else none)))))) else (bif Nat.blt pc 99 then (bif Nat.blt pc 94 then (bif Nat.blt pc 89 then (bif Nat.blt pc 88 then (bif Nat.beq pc 85 then some (.goto (-25)) else none) else (bif Nat.beq pc 88 then some (.aload_n 0) else none)) else (bif Nat.blt pc 92 then (bif Nat.beq pc 89 then some (.getfield 53) else none) else (bif Nat.beq pc 92 then some (.bipush 9) else none))) else (bif Nat.blt pc 96 then (bif Nat.blt pc 95 then (bif Nat.beq pc 94 then some (.dup2) else none) else (bif Nat.beq pc 95 then some (.iaload) else none)) else (bif Nat.blt pc 97 then (bif Nat.beq pc 96 then some (.iconst 1) else none) else (bif Nat.blt pc 98 then (bif Nat.beq pc 97 then some (.iadd) else none) else (bif Nat.beq pc 98 then some (.iastore) else none))))) else (bif Nat.blt pc 107 then (bif Nat.blt pc 103 then (bif Nat.blt pc 100 then (bif Nat.beq pc 99 then some (.aload_n 0) else none) else (bif Nat.beq pc 100 then some (.getfield 53) else none)) else (bif Nat.blt pc 105 then (bif Nat.beq pc 103 then some (.bipush 7) else none) else (bif Nat.blt pc 106 then (bif Nat.beq pc 105 then some (.dup2) else none) else (bif Nat.beq pc 106 then some (.iaload) else none)))) else (bif Nat.blt pc 109 then (bif Nat.blt pc 108 then (bif Nat.beq pc 107 then some (.iconst 1) else none) else (bif Nat.beq pc 108 then some (.iadd) else none)) else (bif Nat.blt pc 110 then (bif Nat.beq pc 109 then some (.iastore) else none) else (bif Nat.blt pc 113 then (bif Nat.beq pc 110 then some (.goto (-110)) else none) else (bif Nat.beq pc 113 then some (.return_) else none)))))))
def q_x124 : Nat → Option Instr := q_g 114 q_t124
def q_y124 : MethodName := ⟨"RatchetPostModel", "skip", "(I)V"⟩
def q_m124 : q_MI := (q_y124, prog_10_method_47_code, 4, none, 8, 0, false, q_x124)
def q_t125 (pc : Nat) : Option Instr := bif Nat.blt pc 25 then (bif Nat.blt pc 13 then (bif Nat.blt pc 7 then (bif Nat.blt pc 4 then (bif Nat.blt pc 1 then (bif Nat.beq pc 0 then some (.aload_n 0) else none) else (bif Nat.beq pc 1 then some (.getfield 53) else none)) else (bif Nat.blt pc 6 then (bif Nat.beq pc 4 then some (.bipush 9) else none) else (bif Nat.beq pc 6 then some (.dup2) else none))) else (bif Nat.blt pc 9 then (bif Nat.blt pc 8 then (bif Nat.beq pc 7 then some (.iaload) else none) else (bif Nat.beq pc 8 then some (.iconst 1) else none)) else (bif Nat.blt pc 10 then (bif Nat.beq pc 9 then some (.isub) else none) else (bif Nat.blt pc 11 then (bif Nat.beq pc 10 then some (.iastore) else none) else (bif Nat.beq pc 11 then some (.bipush 38) else none))))) else (bif Nat.blt pc 18 then (bif Nat.blt pc 16 then (bif Nat.blt pc 15 then (bif Nat.beq pc 13 then some (.bipush 10) else none) else (bif Nat.beq pc 15 then some (.iload_n 1) else none)) else (bif Nat.blt pc 17 then (bif Nat.beq pc 16 then some (.imul) else none) else (bif Nat.beq pc 17 then some (.iadd) else none))) else (bif Nat.blt pc 20 then (bif Nat.blt pc 19 then (bif Nat.beq pc 18 then some (.istore_n 2) else none) else (bif Nat.beq pc 19 then some (.iload_n 2) else none)) else (bif Nat.blt pc 22 then (bif Nat.beq pc 20 then some (.bipush 38) else none) else (bif Nat.blt pc 24 then (bif Nat.beq pc 22 then some (.bipush 10) else none) else (bif Nat.beq pc 24 then some (.aload_n 0) else none)))))) else (bif Nat.blt pc 41 then (bif Nat.blt pc 32 then (bif Nat.blt pc 30 then (bif Nat.blt pc 28 then (bif Nat.beq pc 25 then some (.getfield 53) else none) else (bif Nat.beq pc 28 then some (.bipush 9) else none)) else (bif Nat.blt pc 31 then (bif Nat.beq pc 30 then some (.iaload) else none) else (bif Nat.beq pc 31 then some (.imul) else none))) else (bif Nat.blt pc 36 then (bif Nat.blt pc 33 then (bif Nat.beq pc 32 then some (.iadd) else none) else (bif Nat.beq pc 33 then some (.if_icmp .ge 24) else none)) else (bif Nat.blt pc 37 then (bif Nat.beq pc 36 then some (.aload_n 0) else none) else (bif Nat.blt pc 40 then (bif Nat.beq pc 37 then some (.getfield 53) else none) else (bif Nat.beq pc 40 then some (.iload_n 2) else none))))) else (bif Nat.blt pc 49 then (bif Nat.blt pc 45 then (bif Nat.blt pc 42 then (bif Nat.beq pc 41 then some (.aload_n 0) else none) else (bif Nat.beq pc 42 then some (.getfield 53) else none)) else (bif Nat.blt pc 46 then (bif Nat.beq pc 45 then some (.iload_n 2) else none) else (bif Nat.blt pc 48 then (bif Nat.beq pc 46 then some (.bipush 10) else none) else (bif Nat.beq pc 48 then some (.iadd) else none)))) else (bif Nat.blt pc 51 then (bif Nat.blt pc 50 then (bif Nat.beq pc 49 then some (.iaload) else none) else (bif Nat.beq pc 50 then some (.iastore) else none)) else (bif Nat.blt pc 54 then (bif Nat.beq pc 51 then some (.iinc 2 1) else none) else (bif Nat.blt pc 57 then (bif Nat.beq pc 54 then some (.goto (-35)) else none) else (bif Nat.beq pc 57 then some (.return_) else none))))))
def q_x125 : Nat → Option Instr := q_g 58 q_t125
def q_y125 : MethodName := ⟨"RatchetPostModel", "gone", "(I)V"⟩
def q_m125 : q_MI := (q_y125, prog_10_method_48_code, 3, none, 8, 0, false, q_x125)
def q_t126 (pc : Nat) : Option Instr := bif Nat.blt pc 1 then (bif Nat.beq pc 0 then some (.aload_n 0) else none) else (bif Nat.blt pc 4 then (bif Nat.beq pc 1 then some (.getfield 216) else none) else (bif Nat.beq pc 4 then some (.lreturn) else none))
def q_x126 : Nat → Option Instr := q_g 5 q_t126
def q_y126 : MethodName := ⟨"RatchetPostModel", "text", "()J"⟩
def q_m126 : q_MI := (q_y126, prog_10_method_49_code, 1, (some .long), 8, 3, false, q_x126)
def q_t127 (pc : Nat) : Option Instr := bif Nat.blt pc 19 then (bif Nat.blt pc 9 then (bif Nat.blt pc 2 then (bif Nat.blt pc 1 then (bif Nat.beq pc 0 then some (.aload_n 0) else none) else (bif Nat.beq pc 1 then some (.iload_n 1) else none)) else (bif Nat.blt pc 5 then (bif Nat.beq pc 2 then some (.invokevirtual 185) else none) else (bif Nat.blt pc 8 then (bif Nat.beq pc 5 then some (.ifCond .eq 27) else none) else (bif Nat.beq pc 8 then some (.iload_n 2) else none)))) else (bif Nat.blt pc 13 then (bif Nat.blt pc 12 then (bif Nat.beq pc 9 then some (.ifCond .lt 23) else none) else (bif Nat.beq pc 12 then some (.iload_n 2) else none)) else (bif Nat.blt pc 15 then (bif Nat.beq pc 13 then some (.bipush 11) else none) else (bif Nat.blt pc 18 then (bif Nat.beq pc 15 then some (.if_icmp .gt 17) else none) else (bif Nat.beq pc 18 then some (.aload_n 0) else none))))) else (bif Nat.blt pc 27 then (bif Nat.blt pc 24 then (bif Nat.blt pc 22 then (bif Nat.beq pc 19 then some (.getfield 56) else none) else (bif Nat.beq pc 22 then some (.bipush 12) else none)) else (bif Nat.blt pc 25 then (bif Nat.beq pc 24 then some (.iload_n 1) else none) else (bif Nat.blt pc 26 then (bif Nat.beq pc 25 then some (.imul) else none) else (bif Nat.beq pc 26 then some (.iload_n 2) else none)))) else (bif Nat.blt pc 29 then (bif Nat.blt pc 28 then (bif Nat.beq pc 27 then some (.iadd) else none) else (bif Nat.beq pc 28 then some (.laload) else none)) else (bif Nat.blt pc 32 then (bif Nat.beq pc 29 then some (.goto 6) else none) else (bif Nat.blt pc 35 then (bif Nat.beq pc 32 then some (.ldc2_w 232) else none) else (bif Nat.beq pc 35 then some (.lreturn) else none)))))
def q_x127 : Nat → Option Instr := q_g 36 q_t127
def q_y127 : MethodName := ⟨"RatchetPostModel", "envelope", "(II)J"⟩
def q_m127 : q_MI := (q_y127, prog_10_method_50_code, 3, (some .long), 8, 3, false, q_x127)
def q_t128 (pc : Nat) : Option Instr := bif Nat.blt pc 65 then (bif Nat.blt pc 35 then (bif Nat.blt pc 19 then (bif Nat.blt pc 9 then (bif Nat.blt pc 2 then (bif Nat.blt pc 1 then (bif Nat.beq pc 0 then some (.aload_n 0) else none) else (bif Nat.beq pc 1 then some (.iload_n 1) else none)) else (bif Nat.blt pc 5 then (bif Nat.beq pc 2 then some (.invokevirtual 109) else none) else (bif Nat.blt pc 8 then (bif Nat.beq pc 5 then some (.ifCond .eq 13) else none) else (bif Nat.beq pc 8 then some (.iload_n 2) else none)))) else (bif Nat.blt pc 13 then (bif Nat.blt pc 12 then (bif Nat.beq pc 9 then some (.ifCond .lt 9) else none) else (bif Nat.beq pc 12 then some (.iload_n 2) else none)) else (bif Nat.blt pc 15 then (bif Nat.beq pc 13 then some (.bipush 9) else none) else (bif Nat.blt pc 18 then (bif Nat.beq pc 15 then some (.if_icmp .le 5) else none) else (bif Nat.beq pc 18 then some (.iconst (-1)) else none))))) else (bif Nat.blt pc 26 then (bif Nat.blt pc 21 then (bif Nat.blt pc 20 then (bif Nat.beq pc 19 then some (.ireturn) else none) else (bif Nat.beq pc 20 then some (.iload_n 2) else none)) else (bif Nat.blt pc 22 then (bif Nat.beq pc 21 then some (.iconst 3) else none) else (bif Nat.blt pc 25 then (bif Nat.beq pc 22 then some (.if_icmp .ge 49) else none) else (bif Nat.beq pc 25 then some (.iload_n 2) else none)))) else (bif Nat.blt pc 30 then (bif Nat.blt pc 29 then (bif Nat.beq pc 26 then some (.ifCond .ne 16) else none) else (bif Nat.beq pc 29 then some (.aload_n 0) else none)) else (bif Nat.blt pc 33 then (bif Nat.beq pc 30 then some (.getfield 23) else none) else (bif Nat.blt pc 34 then (bif Nat.beq pc 33 then some (.iconst 2) else none) else (bif Nat.beq pc 34 then some (.iload_n 1) else none)))))) else (bif Nat.blt pc 51 then (bif Nat.blt pc 42 then (bif Nat.blt pc 37 then (bif Nat.blt pc 36 then (bif Nat.beq pc 35 then some (.imul) else none) else (bif Nat.beq pc 36 then some (.iconst 1) else none)) else (bif Nat.blt pc 38 then (bif Nat.beq pc 37 then some (.iadd) else none) else (bif Nat.blt pc 39 then (bif Nat.beq pc 38 then some (.iaload) else none) else (bif Nat.beq pc 39 then some (.goto 31) else none)))) else (bif Nat.blt pc 44 then (bif Nat.blt pc 43 then (bif Nat.beq pc 42 then some (.iload_n 2) else none) else (bif Nat.beq pc 43 then some (.iconst 1) else none)) else (bif Nat.blt pc 47 then (bif Nat.beq pc 44 then some (.if_icmp .ne 16) else none) else (bif Nat.blt pc 48 then (bif Nat.beq pc 47 then some (.aload_n 0) else none) else (bif Nat.beq pc 48 then some (.getfield 26) else none))))) else (bif Nat.blt pc 56 then (bif Nat.blt pc 53 then (bif Nat.blt pc 52 then (bif Nat.beq pc 51 then some (.iconst 2) else none) else (bif Nat.beq pc 52 then some (.iload_n 1) else none)) else (bif Nat.blt pc 54 then (bif Nat.beq pc 53 then some (.imul) else none) else (bif Nat.blt pc 55 then (bif Nat.beq pc 54 then some (.iconst 1) else none) else (bif Nat.beq pc 55 then some (.iadd) else none)))) else (bif Nat.blt pc 60 then (bif Nat.blt pc 57 then (bif Nat.beq pc 56 then some (.iaload) else none) else (bif Nat.beq pc 57 then some (.goto 13) else none)) else (bif Nat.blt pc 61 then (bif Nat.beq pc 60 then some (.aload_n 0) else none) else (bif Nat.blt pc 64 then (bif Nat.beq pc 61 then some (.getfield 29) else none) else (bif Nat.beq pc 64 then some (.iconst 2) else none))))))) else (bif Nat.blt pc 96 then (bif Nat.blt pc 78 then (bif Nat.blt pc 70 then (bif Nat.blt pc 67 then (bif Nat.blt pc 66 then (bif Nat.beq pc 65 then some (.iload_n 1) else none) else (bif Nat.beq pc 66 then some (.imul) else none)) else (bif Nat.blt pc 68 then (bif Nat.beq pc 67 then some (.iconst 1) else none) else (bif Nat.blt pc 69 then (bif Nat.beq pc 68 then some (.iadd) else none) else (bif Nat.beq pc 69 then some (.iaload) else none)))) else (bif Nat.blt pc 72 then (bif Nat.blt pc 71 then (bif Nat.beq pc 70 then some (.ireturn) else none) else (bif Nat.beq pc 71 then some (.iload_n 2) else none)) else (bif Nat.blt pc 74 then (bif Nat.beq pc 72 then some (.bipush 6) else none) else (bif Nat.blt pc 77 then (bif Nat.beq pc 74 then some (.if_icmp .ge 38) else none) else (bif Nat.beq pc 77 then some (.iload_n 2) else none))))) else (bif Nat.blt pc 87 then (bif Nat.blt pc 82 then (bif Nat.blt pc 79 then (bif Nat.beq pc 78 then some (.iconst 3) else none) else (bif Nat.beq pc 79 then some (.if_icmp .ne 12) else none)) else (bif Nat.blt pc 83 then (bif Nat.beq pc 82 then some (.aload_n 0) else none) else (bif Nat.blt pc 86 then (bif Nat.beq pc 83 then some (.getfield 20) else none) else (bif Nat.beq pc 86 then some (.iload_n 1) else none)))) else (bif Nat.blt pc 91 then (bif Nat.blt pc 88 then (bif Nat.beq pc 87 then some (.iaload) else none) else (bif Nat.beq pc 88 then some (.goto 23) else none)) else (bif Nat.blt pc 92 then (bif Nat.beq pc 91 then some (.iload_n 2) else none) else (bif Nat.blt pc 93 then (bif Nat.beq pc 92 then some (.iconst 4) else none) else (bif Nat.beq pc 93 then some (.if_icmp .ne 12) else none)))))) else (bif Nat.blt pc 112 then (bif Nat.blt pc 105 then (bif Nat.blt pc 100 then (bif Nat.blt pc 97 then (bif Nat.beq pc 96 then some (.aload_n 0) else none) else (bif Nat.beq pc 97 then some (.getfield 35) else none)) else (bif Nat.blt pc 101 then (bif Nat.beq pc 100 then some (.iload_n 1) else none) else (bif Nat.blt pc 102 then (bif Nat.beq pc 101 then some (.iaload) else none) else (bif Nat.beq pc 102 then some (.goto 9) else none)))) else (bif Nat.blt pc 109 then (bif Nat.blt pc 106 then (bif Nat.beq pc 105 then some (.aload_n 0) else none) else (bif Nat.beq pc 106 then some (.getfield 44) else none)) else (bif Nat.blt pc 110 then (bif Nat.beq pc 109 then some (.iload_n 1) else none) else (bif Nat.blt pc 111 then (bif Nat.beq pc 110 then some (.iaload) else none) else (bif Nat.beq pc 111 then some (.ireturn) else none))))) else (bif Nat.blt pc 119 then (bif Nat.blt pc 116 then (bif Nat.blt pc 113 then (bif Nat.beq pc 112 then some (.aload_n 0) else none) else (bif Nat.beq pc 113 then some (.getfield 38) else none)) else (bif Nat.blt pc 117 then (bif Nat.beq pc 116 then some (.iconst 4) else none) else (bif Nat.blt pc 118 then (bif Nat.beq pc 117 then some (.iload_n 1) else none) else (bif Nat.beq pc 118 then some (.imul) else none)))) else (bif Nat.blt pc 123 then (bif Nat.blt pc 120 then (bif Nat.beq pc 119 then some (.iload_n 2) else none) else (bif Nat.blt pc 121 then (bif Nat.beq pc 120 then some (.iadd) else none) else (bif Nat.beq pc 121 then some (.bipush 6) else none))) else (bif Nat.blt pc 124 then (bif Nat.beq pc 123 then some (.isub) else none) else (bif Nat.blt pc 125 then (bif Nat.beq pc 124 then some (.iaload) else none) else (bif Nat.beq pc 125 then some (.ireturn) else none)))))))
def q_x128 : Nat → Option Instr := q_g 126 q_t128
def q_y128 : MethodName := ⟨"RatchetPostModel", "user", "(II)I"⟩
def q_m128 : q_MI := (q_y128, prog_10_method_51_code, 3, (some .int), 8, 1, false, q_x128)
def q_t129 (pc : Nat) : Option Instr := bif Nat.blt pc 14 then (bif Nat.blt pc 6 then (bif Nat.blt pc 2 then (bif Nat.blt pc 1 then (bif Nat.beq pc 0 then some (.aload_n 0) else none) else (bif Nat.beq pc 1 then some (.iload_n 1) else none)) else (bif Nat.blt pc 3 then (bif Nat.beq pc 2 then some (.iload_n 2) else none) else (bif Nat.beq pc 3 then some (.invokevirtual 149) else none))) else (bif Nat.blt pc 10 then (bif Nat.blt pc 9 then (bif Nat.beq pc 6 then some (.ifCond .eq 16) else none) else (bif Nat.beq pc 9 then some (.aload_n 0) else none)) else (bif Nat.blt pc 13 then (bif Nat.beq pc 10 then some (.getfield 50) else none) else (bif Nat.beq pc 13 then some (.iconst 4) else none)))) else (bif Nat.blt pc 18 then (bif Nat.blt pc 16 then (bif Nat.blt pc 15 then (bif Nat.beq pc 14 then some (.iload_n 1) else none) else (bif Nat.beq pc 15 then some (.imul) else none)) else (bif Nat.blt pc 17 then (bif Nat.beq pc 16 then some (.iload_n 2) else none) else (bif Nat.beq pc 17 then some (.iadd) else none))) else (bif Nat.blt pc 22 then (bif Nat.blt pc 19 then (bif Nat.beq pc 18 then some (.iaload) else none) else (bif Nat.beq pc 19 then some (.goto 4) else none)) else (bif Nat.blt pc 23 then (bif Nat.beq pc 22 then some (.iconst (-1)) else none) else (bif Nat.beq pc 23 then some (.ireturn) else none))))
def q_x129 : Nat → Option Instr := q_g 24 q_t129
def q_y129 : MethodName := ⟨"RatchetPostModel", "sessions", "(II)I"⟩
def q_m129 : q_MI := (q_y129, prog_10_method_52_code, 3, (some .int), 8, 1, false, q_x129)
def q_t130 (pc : Nat) : Option Instr := bif Nat.blt pc 97 then (bif Nat.blt pc 48 then (bif Nat.blt pc 22 then (bif Nat.blt pc 13 then (bif Nat.blt pc 3 then (bif Nat.blt pc 1 then (bif Nat.beq pc 0 then some (.aload_n 0) else none) else (bif Nat.blt pc 2 then (bif Nat.beq pc 1 then some (.iload_n 1) else none) else (bif Nat.beq pc 2 then some (.iload_n 2) else none))) else (bif Nat.blt pc 9 then (bif Nat.blt pc 6 then (bif Nat.beq pc 3 then some (.invokevirtual 149) else none) else (bif Nat.beq pc 6 then some (.ifCond .eq 33) else none)) else (bif Nat.blt pc 10 then (bif Nat.beq pc 9 then some (.iload_n 3) else none) else (bif Nat.beq pc 10 then some (.ifCond .lt 29) else none)))) else (bif Nat.blt pc 18 then (bif Nat.blt pc 14 then (bif Nat.beq pc 13 then some (.iload_n 3) else none) else (bif Nat.blt pc 15 then (bif Nat.beq pc 14 then some (.aload_n 0) else none) else (bif Nat.beq pc 15 then some (.getfield 50) else none))) else (bif Nat.blt pc 20 then (bif Nat.blt pc 19 then (bif Nat.beq pc 18 then some (.iconst 4) else none) else (bif Nat.beq pc 19 then some (.iload_n 1) else none)) else (bif Nat.blt pc 21 then (bif Nat.beq pc 20 then some (.imul) else none) else (bif Nat.beq pc 21 then some (.iload_n 2) else none))))) else (bif Nat.blt pc 36 then (bif Nat.blt pc 27 then (bif Nat.blt pc 23 then (bif Nat.beq pc 22 then some (.iadd) else none) else (bif Nat.blt pc 24 then (bif Nat.beq pc 23 then some (.iaload) else none) else (bif Nat.beq pc 24 then some (.if_icmp .ge 15) else none))) else (bif Nat.blt pc 32 then (bif Nat.blt pc 29 then (bif Nat.beq pc 27 then some (.iload 4) else none) else (bif Nat.beq pc 29 then some (.ifCond .lt 10) else none)) else (bif Nat.blt pc 34 then (bif Nat.beq pc 32 then some (.iload 4) else none) else (bif Nat.beq pc 34 then some (.bipush 8) else none)))) else (bif Nat.blt pc 44 then (bif Nat.blt pc 40 then (bif Nat.blt pc 39 then (bif Nat.beq pc 36 then some (.if_icmp .le 5) else none) else (bif Nat.beq pc 39 then some (.iconst (-1)) else none)) else (bif Nat.blt pc 41 then (bif Nat.beq pc 40 then some (.ireturn) else none) else (bif Nat.beq pc 41 then some (.sipush 158) else none))) else (bif Nat.blt pc 46 then (bif Nat.blt pc 45 then (bif Nat.beq pc 44 then some (.iconst 3) else none) else (bif Nat.beq pc 45 then some (.iconst 4) else none)) else (bif Nat.blt pc 47 then (bif Nat.beq pc 46 then some (.iload_n 1) else none) else (bif Nat.beq pc 47 then some (.imul) else none)))))) else (bif Nat.blt pc 73 then (bif Nat.blt pc 56 then (bif Nat.blt pc 51 then (bif Nat.blt pc 49 then (bif Nat.beq pc 48 then some (.iload_n 2) else none) else (bif Nat.blt pc 50 then (bif Nat.beq pc 49 then some (.iadd) else none) else (bif Nat.beq pc 50 then some (.imul) else none))) else (bif Nat.blt pc 53 then (bif Nat.blt pc 52 then (bif Nat.beq pc 51 then some (.iload_n 3) else none) else (bif Nat.beq pc 52 then some (.iadd) else none)) else (bif Nat.blt pc 54 then (bif Nat.beq pc 53 then some (.imul) else none) else (bif Nat.beq pc 54 then some (.istore 5) else none)))) else (bif Nat.blt pc 64 then (bif Nat.blt pc 59 then (bif Nat.blt pc 58 then (bif Nat.beq pc 56 then some (.iload 4) else none) else (bif Nat.beq pc 58 then some (.iconst 4) else none)) else (bif Nat.blt pc 62 then (bif Nat.beq pc 59 then some (.if_icmp .ge 34) else none) else (bif Nat.beq pc 62 then some (.iload 4) else none))) else (bif Nat.blt pc 68 then (bif Nat.blt pc 67 then (bif Nat.beq pc 64 then some (.ifCond .ne 13) else none) else (bif Nat.beq pc 67 then some (.aload_n 0) else none)) else (bif Nat.blt pc 71 then (bif Nat.beq pc 68 then some (.getfield 47) else none) else (bif Nat.beq pc 71 then some (.iload 5) else none))))) else (bif Nat.blt pc 86 then (bif Nat.blt pc 78 then (bif Nat.blt pc 74 then (bif Nat.beq pc 73 then some (.iaload) else none) else (bif Nat.blt pc 77 then (bif Nat.beq pc 74 then some (.goto 18) else none) else (bif Nat.beq pc 77 then some (.aload_n 0) else none))) else (bif Nat.blt pc 83 then (bif Nat.blt pc 81 then (bif Nat.beq pc 78 then some (.getfield 47) else none) else (bif Nat.beq pc 81 then some (.iload 5) else none)) else (bif Nat.blt pc 85 then (bif Nat.beq pc 83 then some (.bipush 6) else none) else (bif Nat.beq pc 85 then some (.iadd) else none)))) else (bif Nat.blt pc 91 then (bif Nat.blt pc 89 then (bif Nat.blt pc 88 then (bif Nat.beq pc 86 then some (.iload 4) else none) else (bif Nat.beq pc 88 then some (.iadd) else none)) else (bif Nat.blt pc 90 then (bif Nat.beq pc 89 then some (.iconst 1) else none) else (bif Nat.beq pc 90 then some (.isub) else none))) else (bif Nat.blt pc 93 then (bif Nat.blt pc 92 then (bif Nat.beq pc 91 then some (.iaload) else none) else (bif Nat.beq pc 92 then some (.ireturn) else none)) else (bif Nat.blt pc 95 then (bif Nat.beq pc 93 then some (.iload 4) else none) else (bif Nat.beq pc 95 then some (.bipush 7) else none))))))) else (bif Nat.blt pc 148 then (bif Nat.blt pc 125 then (bif Nat.blt pc 112 then (bif Nat.blt pc 103 then (bif Nat.blt pc 100 then (bif Nat.beq pc 97 then some (.if_icmp .ge 52) else none) else (bif Nat.blt pc 102 then (bif Nat.beq pc 100 then some (.iload 4) else none) else (bif Nat.beq pc 102 then some (.iconst 4) else none))) else (bif Nat.blt pc 107 then (bif Nat.blt pc 106 then (bif Nat.beq pc 103 then some (.if_icmp .ne 16) else none) else (bif Nat.beq pc 106 then some (.aload_n 0) else none)) else (bif Nat.blt pc 110 then (bif Nat.beq pc 107 then some (.getfield 47) else none) else (bif Nat.beq pc 110 then some (.iload 5) else none)))) else (bif Nat.blt pc 116 then (bif Nat.blt pc 114 then (bif Nat.beq pc 112 then some (.bipush 9) else none) else (bif Nat.blt pc 115 then (bif Nat.beq pc 114 then some (.iadd) else none) else (bif Nat.beq pc 115 then some (.iaload) else none))) else (bif Nat.blt pc 121 then (bif Nat.blt pc 119 then (bif Nat.beq pc 116 then some (.goto 32) else none) else (bif Nat.beq pc 119 then some (.iload 4) else none)) else (bif Nat.blt pc 122 then (bif Nat.beq pc 121 then some (.iconst 5) else none) else (bif Nat.beq pc 122 then some (.if_icmp .ne 15) else none))))) else (bif Nat.blt pc 137 then (bif Nat.blt pc 131 then (bif Nat.blt pc 126 then (bif Nat.beq pc 125 then some (.aload_n 0) else none) else (bif Nat.blt pc 129 then (bif Nat.beq pc 126 then some (.getfield 47) else none) else (bif Nat.beq pc 129 then some (.iload 5) else none))) else (bif Nat.blt pc 133 then (bif Nat.blt pc 132 then (bif Nat.beq pc 131 then some (.iconst 1) else none) else (bif Nat.beq pc 132 then some (.iadd) else none)) else (bif Nat.blt pc 134 then (bif Nat.beq pc 133 then some (.iaload) else none) else (bif Nat.beq pc 134 then some (.goto 14) else none)))) else (bif Nat.blt pc 144 then (bif Nat.blt pc 141 then (bif Nat.blt pc 138 then (bif Nat.beq pc 137 then some (.aload_n 0) else none) else (bif Nat.beq pc 138 then some (.getfield 47) else none)) else (bif Nat.blt pc 143 then (bif Nat.beq pc 141 then some (.iload 5) else none) else (bif Nat.beq pc 143 then some (.iconst 2) else none))) else (bif Nat.blt pc 146 then (bif Nat.blt pc 145 then (bif Nat.beq pc 144 then some (.iadd) else none) else (bif Nat.beq pc 145 then some (.iconst 1) else none)) else (bif Nat.blt pc 147 then (bif Nat.beq pc 146 then some (.iadd) else none) else (bif Nat.beq pc 147 then some (.iaload) else none)))))) else (bif Nat.blt pc 177 then (bif Nat.blt pc 162 then (bif Nat.blt pc 153 then (bif Nat.blt pc 149 then (bif Nat.beq pc 148 then some (.ireturn) else none) else (bif Nat.blt pc 151 then (bif Nat.beq pc 149 then some (.iload 4) else none) else (bif Nat.beq pc 151 then some (.bipush 8) else none))) else (bif Nat.blt pc 157 then (bif Nat.blt pc 156 then (bif Nat.beq pc 153 then some (.if_icmp .ne 16) else none) else (bif Nat.beq pc 156 then some (.aload_n 0) else none)) else (bif Nat.blt pc 160 then (bif Nat.beq pc 157 then some (.getfield 47) else none) else (bif Nat.beq pc 160 then some (.iload 5) else none)))) else (bif Nat.blt pc 169 then (bif Nat.blt pc 165 then (bif Nat.blt pc 164 then (bif Nat.beq pc 162 then some (.bipush 14) else none) else (bif Nat.beq pc 164 then some (.iadd) else none)) else (bif Nat.blt pc 166 then (bif Nat.beq pc 165 then some (.iaload) else none) else (bif Nat.beq pc 166 then some (.goto 35) else none))) else (bif Nat.blt pc 173 then (bif Nat.blt pc 170 then (bif Nat.beq pc 169 then some (.aload_n 0) else none) else (bif Nat.beq pc 170 then some (.getfield 47) else none)) else (bif Nat.blt pc 175 then (bif Nat.beq pc 173 then some (.iload 5) else none) else (bif Nat.beq pc 175 then some (.bipush 10) else none))))) else (bif Nat.blt pc 189 then (bif Nat.blt pc 180 then (bif Nat.blt pc 178 then (bif Nat.beq pc 177 then some (.iadd) else none) else (bif Nat.blt pc 179 then (bif Nat.beq pc 178 then some (.iaload) else none) else (bif Nat.beq pc 179 then some (.iconst 1) else none))) else (bif Nat.blt pc 184 then (bif Nat.blt pc 183 then (bif Nat.beq pc 180 then some (.if_icmp .ne 20) else none) else (bif Nat.beq pc 183 then some (.aload_n 0) else none)) else (bif Nat.blt pc 187 then (bif Nat.beq pc 184 then some (.getfield 47) else none) else (bif Nat.beq pc 187 then some (.iload 5) else none)))) else (bif Nat.blt pc 196 then (bif Nat.blt pc 192 then (bif Nat.blt pc 191 then (bif Nat.beq pc 189 then some (.bipush 11) else none) else (bif Nat.beq pc 191 then some (.iadd) else none)) else (bif Nat.blt pc 193 then (bif Nat.beq pc 192 then some (.iaload) else none) else (bif Nat.beq pc 193 then some (.ifCond .ne 7) else none))) else (bif Nat.blt pc 200 then (bif Nat.blt pc 197 then (bif Nat.beq pc 196 then some (.iconst 1) else none) else (bif Nat.beq pc 197 then some (.goto 4) else none)) else (bif Nat.blt pc 201 then (bif Nat.beq pc 200 then some (.iconst 0) else none) else (bif Nat.beq pc 201 then some (.ireturn) else none)))))))
def q_x130 : Nat → Option Instr := q_g 202 q_t130
def q_y130 : MethodName := ⟨"RatchetPostModel", "session", "(IIII)I"⟩
def q_m130 : q_MI := (q_y130, prog_10_method_53_code, 6, (some .int), 8, 1, false, q_x130)
def q_t131 (pc : Nat) : Option Instr := bif Nat.blt pc 426 then (bif Nat.blt pc 257 then (bif Nat.blt pc 170 then (bif Nat.blt pc 126 then (bif Nat.blt pc 27 then (bif Nat.blt pc 16 then (bif Nat.blt pc 8 then (bif Nat.blt pc 4 then (bif Nat.blt pc 3 then (bif Nat.beq pc 0 then some (.new 7) else none) else (bif Nat.beq pc 3 then some (.dup) else none)) else (bif Nat.blt pc 7 then (bif Nat.beq pc 4 then some (.invokespecial 9) else none) else (bif Nat.beq pc 7 then some (.astore_n 1) else none))) else (bif Nat.blt pc 12 then (bif Nat.blt pc 11 then (bif Nat.beq pc 8 then some (.new 10) else none) else (bif Nat.beq pc 11 then some (.dup) else none)) else (bif Nat.blt pc 15 then (bif Nat.beq pc 12 then some (.invokespecial 12) else none) else (bif Nat.beq pc 15 then some (.astore_n 2) else none)))) else (bif Nat.blt pc 20 then (bif Nat.blt pc 18 then (bif Nat.blt pc 17 then (bif Nat.beq pc 16 then some (.iconst 0) else none) else (bif Nat.beq pc 17 then some (.istore_n 3) else none)) else (bif Nat.blt pc 19 then (bif Nat.beq pc 18 then some (.iload_n 3) else none) else (bif Nat.beq pc 19 then some (.aload_n 0) else none))) else (bif Nat.blt pc 22 then (bif Nat.blt pc 21 then (bif Nat.beq pc 20 then some (.arraylength) else none) else (bif Nat.beq pc 21 then some (.iconst 5) else none)) else (bif Nat.blt pc 23 then (bif Nat.beq pc 22 then some (.isub) else none) else (bif Nat.blt pc 26 then (bif Nat.beq pc 23 then some (.if_icmp .gt 756) else none) else (bif Nat.beq pc 26 then some (.aload_n 0) else none)))))) else (bif Nat.blt pc 116 then (bif Nat.blt pc 32 then (bif Nat.blt pc 29 then (bif Nat.blt pc 28 then (bif Nat.beq pc 27 then some (.iload_n 3) else none) else (bif Nat.beq pc 28 then some (.iaload) else none)) else (bif Nat.blt pc 31 then (bif Nat.beq pc 29 then some (.bipush 15) else none) else (bif Nat.beq pc 31 then some (.iand) else none))) else (bif Nat.blt pc 113 then (bif Nat.blt pc 112 then (bif Nat.beq pc 32 then some (.tableswitch 741 0 15 #[80, 143, 166, 199, 242, 275, 348, 421, 444, 467, 481, 515, 548, 581, 634, 667]) else none) else (bif Nat.beq pc 112 then some (.aload_n 1) else none)) else (bif Nat.blt pc 114 then (bif Nat.beq pc 113 then some (.aload_n 0) else none) else (bif Nat.blt pc 115 then (bif Nat.beq pc 114 then some (.iload_n 3) else none) else (bif Nat.beq pc 115 then some (.iconst 1) else none))))) else (bif Nat.blt pc 120 then (bif Nat.blt pc 118 then (bif Nat.blt pc 117 then (bif Nat.beq pc 116 then some (.iadd) else none) else (bif Nat.beq pc 117 then some (.iaload) else none)) else (bif Nat.blt pc 119 then (bif Nat.beq pc 118 then some (.aload_n 0) else none) else (bif Nat.beq pc 119 then some (.iload_n 3) else none))) else (bif Nat.blt pc 122 then (bif Nat.blt pc 121 then (bif Nat.beq pc 120 then some (.iconst 2) else none) else (bif Nat.beq pc 121 then some (.iadd) else none)) else (bif Nat.blt pc 123 then (bif Nat.beq pc 122 then some (.iaload) else none) else (bif Nat.blt pc 124 then (bif Nat.beq pc 123 then some (.i2l) else none) else (bif Nat.beq pc 124 then some (.bipush 32) else none))))))) else (bif Nat.blt pc 147 then (bif Nat.blt pc 136 then (bif Nat.blt pc 130 then (bif Nat.blt pc 128 then (bif Nat.blt pc 127 then (bif Nat.beq pc 126 then some (.lshl) else none) else (bif Nat.beq pc 127 then some (.aload_n 0) else none)) else (bif Nat.blt pc 129 then (bif Nat.beq pc 128 then some (.iload_n 3) else none) else (bif Nat.beq pc 129 then some (.iconst 3) else none))) else (bif Nat.blt pc 132 then (bif Nat.blt pc 131 then (bif Nat.beq pc 130 then some (.iadd) else none) else (bif Nat.beq pc 131 then some (.iaload) else none)) else (bif Nat.blt pc 133 then (bif Nat.beq pc 132 then some (.i2l) else none) else (bif Nat.beq pc 133 then some (.ldc2_w 13) else none)))) else (bif Nat.blt pc 142 then (bif Nat.blt pc 138 then (bif Nat.blt pc 137 then (bif Nat.beq pc 136 then some (.land) else none) else (bif Nat.beq pc 137 then some (.lor) else none)) else (bif Nat.blt pc 141 then (bif Nat.beq pc 138 then some (.invokevirtual 15) else none) else (bif Nat.beq pc 141 then some (.aload_n 2) else none))) else (bif Nat.blt pc 144 then (bif Nat.blt pc 143 then (bif Nat.beq pc 142 then some (.aload_n 0) else none) else (bif Nat.beq pc 143 then some (.iload_n 3) else none)) else (bif Nat.blt pc 145 then (bif Nat.beq pc 144 then some (.iconst 1) else none) else (bif Nat.blt pc 146 then (bif Nat.beq pc 145 then some (.iadd) else none) else (bif Nat.beq pc 146 then some (.iaload) else none)))))) else (bif Nat.blt pc 157 then (bif Nat.blt pc 151 then (bif Nat.blt pc 149 then (bif Nat.blt pc 148 then (bif Nat.beq pc 147 then some (.aload_n 0) else none) else (bif Nat.beq pc 148 then some (.iload_n 3) else none)) else (bif Nat.blt pc 150 then (bif Nat.beq pc 149 then some (.iconst 2) else none) else (bif Nat.beq pc 150 then some (.iadd) else none))) else (bif Nat.blt pc 153 then (bif Nat.blt pc 152 then (bif Nat.beq pc 151 then some (.iaload) else none) else (bif Nat.beq pc 152 then some (.i2l) else none)) else (bif Nat.blt pc 155 then (bif Nat.beq pc 153 then some (.bipush 32) else none) else (bif Nat.blt pc 156 then (bif Nat.beq pc 155 then some (.lshl) else none) else (bif Nat.beq pc 156 then some (.aload_n 0) else none))))) else (bif Nat.blt pc 161 then (bif Nat.blt pc 159 then (bif Nat.blt pc 158 then (bif Nat.beq pc 157 then some (.iload_n 3) else none) else (bif Nat.beq pc 158 then some (.iconst 3) else none)) else (bif Nat.blt pc 160 then (bif Nat.beq pc 159 then some (.iadd) else none) else (bif Nat.beq pc 160 then some (.iaload) else none))) else (bif Nat.blt pc 165 then (bif Nat.blt pc 162 then (bif Nat.beq pc 161 then some (.i2l) else none) else (bif Nat.beq pc 162 then some (.ldc2_w 13) else none)) else (bif Nat.blt pc 166 then (bif Nat.beq pc 165 then some (.land) else none) else (bif Nat.blt pc 167 then (bif Nat.beq pc 166 then some (.lor) else none) else (bif Nat.beq pc 167 then some (.invokevirtual 19) else none)))))))) else (bif Nat.blt pc 215 then (bif Nat.blt pc 193 then (bif Nat.blt pc 180 then (bif Nat.blt pc 176 then (bif Nat.blt pc 174 then (bif Nat.blt pc 173 then (bif Nat.beq pc 170 then some (.if_icmp .eq 603) else none) else (bif Nat.beq pc 173 then some (.iconst 0) else none)) else (bif Nat.blt pc 175 then (bif Nat.beq pc 174 then some (.ireturn) else none) else (bif Nat.beq pc 175 then some (.aload_n 1) else none))) else (bif Nat.blt pc 178 then (bif Nat.blt pc 177 then (bif Nat.beq pc 176 then some (.aload_n 0) else none) else (bif Nat.beq pc 177 then some (.iload_n 3) else none)) else (bif Nat.blt pc 179 then (bif Nat.beq pc 178 then some (.iconst 1) else none) else (bif Nat.beq pc 179 then some (.iadd) else none)))) else (bif Nat.blt pc 186 then (bif Nat.blt pc 184 then (bif Nat.blt pc 181 then (bif Nat.beq pc 180 then some (.iaload) else none) else (bif Nat.beq pc 181 then some (.invokevirtual 20) else none)) else (bif Nat.blt pc 185 then (bif Nat.beq pc 184 then some (.aload_n 2) else none) else (bif Nat.beq pc 185 then some (.aload_n 0) else none))) else (bif Nat.blt pc 188 then (bif Nat.blt pc 187 then (bif Nat.beq pc 186 then some (.iload_n 3) else none) else (bif Nat.beq pc 187 then some (.iconst 1) else none)) else (bif Nat.blt pc 189 then (bif Nat.beq pc 188 then some (.iadd) else none) else (bif Nat.blt pc 190 then (bif Nat.beq pc 189 then some (.iaload) else none) else (bif Nat.beq pc 190 then some (.invokevirtual 24) else none)))))) else (bif Nat.blt pc 204 then (bif Nat.blt pc 199 then (bif Nat.blt pc 197 then (bif Nat.blt pc 196 then (bif Nat.beq pc 193 then some (.if_icmp .eq 580) else none) else (bif Nat.beq pc 196 then some (.iconst 0) else none)) else (bif Nat.blt pc 198 then (bif Nat.beq pc 197 then some (.ireturn) else none) else (bif Nat.beq pc 198 then some (.aload_n 1) else none))) else (bif Nat.blt pc 201 then (bif Nat.blt pc 200 then (bif Nat.beq pc 199 then some (.aload_n 0) else none) else (bif Nat.beq pc 200 then some (.iload_n 3) else none)) else (bif Nat.blt pc 202 then (bif Nat.beq pc 201 then some (.iconst 1) else none) else (bif Nat.blt pc 203 then (bif Nat.beq pc 202 then some (.iadd) else none) else (bif Nat.beq pc 203 then some (.iaload) else none))))) else (bif Nat.blt pc 208 then (bif Nat.blt pc 206 then (bif Nat.blt pc 205 then (bif Nat.beq pc 204 then some (.aload_n 0) else none) else (bif Nat.beq pc 205 then some (.iload_n 3) else none)) else (bif Nat.blt pc 207 then (bif Nat.beq pc 206 then some (.iconst 2) else none) else (bif Nat.beq pc 207 then some (.iadd) else none))) else (bif Nat.blt pc 212 then (bif Nat.blt pc 209 then (bif Nat.beq pc 208 then some (.iaload) else none) else (bif Nat.beq pc 209 then some (.invokevirtual 25) else none)) else (bif Nat.blt pc 213 then (bif Nat.beq pc 212 then some (.aload_n 2) else none) else (bif Nat.blt pc 214 then (bif Nat.beq pc 213 then some (.aload_n 0) else none) else (bif Nat.beq pc 214 then some (.iload_n 3) else none))))))) else (bif Nat.blt pc 237 then (bif Nat.blt pc 226 then (bif Nat.blt pc 219 then (bif Nat.blt pc 217 then (bif Nat.blt pc 216 then (bif Nat.beq pc 215 then some (.iconst 1) else none) else (bif Nat.beq pc 216 then some (.iadd) else none)) else (bif Nat.blt pc 218 then (bif Nat.beq pc 217 then some (.iaload) else none) else (bif Nat.beq pc 218 then some (.aload_n 0) else none))) else (bif Nat.blt pc 221 then (bif Nat.blt pc 220 then (bif Nat.beq pc 219 then some (.iload_n 3) else none) else (bif Nat.beq pc 220 then some (.iconst 2) else none)) else (bif Nat.blt pc 222 then (bif Nat.beq pc 221 then some (.iadd) else none) else (bif Nat.blt pc 223 then (bif Nat.beq pc 222 then some (.iaload) else none) else (bif Nat.beq pc 223 then some (.invokevirtual 29) else none))))) else (bif Nat.blt pc 232 then (bif Nat.blt pc 230 then (bif Nat.blt pc 229 then (bif Nat.beq pc 226 then some (.if_icmp .eq 547) else none) else (bif Nat.beq pc 229 then some (.iconst 0) else none)) else (bif Nat.blt pc 231 then (bif Nat.beq pc 230 then some (.ireturn) else none) else (bif Nat.beq pc 231 then some (.aload_n 1) else none))) else (bif Nat.blt pc 234 then (bif Nat.blt pc 233 then (bif Nat.beq pc 232 then some (.aload_n 0) else none) else (bif Nat.beq pc 233 then some (.iload_n 3) else none)) else (bif Nat.blt pc 235 then (bif Nat.beq pc 234 then some (.iconst 1) else none) else (bif Nat.blt pc 236 then (bif Nat.beq pc 235 then some (.iadd) else none) else (bif Nat.beq pc 236 then some (.iaload) else none)))))) else (bif Nat.blt pc 246 then (bif Nat.blt pc 241 then (bif Nat.blt pc 239 then (bif Nat.blt pc 238 then (bif Nat.beq pc 237 then some (.aload_n 0) else none) else (bif Nat.beq pc 238 then some (.iload_n 3) else none)) else (bif Nat.blt pc 240 then (bif Nat.beq pc 239 then some (.iconst 2) else none) else (bif Nat.beq pc 240 then some (.iadd) else none))) else (bif Nat.blt pc 243 then (bif Nat.blt pc 242 then (bif Nat.beq pc 241 then some (.iaload) else none) else (bif Nat.beq pc 242 then some (.aload_n 0) else none)) else (bif Nat.blt pc 244 then (bif Nat.beq pc 243 then some (.iload_n 3) else none) else (bif Nat.blt pc 245 then (bif Nat.beq pc 244 then some (.iconst 3) else none) else (bif Nat.beq pc 245 then some (.iadd) else none))))) else (bif Nat.blt pc 252 then (bif Nat.blt pc 250 then (bif Nat.blt pc 247 then (bif Nat.beq pc 246 then some (.iaload) else none) else (bif Nat.beq pc 247 then some (.invokevirtual 30) else none)) else (bif Nat.blt pc 251 then (bif Nat.beq pc 250 then some (.aload_n 2) else none) else (bif Nat.beq pc 251 then some (.aload_n 0) else none))) else (bif Nat.blt pc 254 then (bif Nat.blt pc 253 then (bif Nat.beq pc 252 then some (.iload_n 3) else none) else (bif Nat.beq pc 253 then some (.iconst 1) else none)) else (bif Nat.blt pc 255 then (bif Nat.beq pc 254 then some (.iadd) else none) else (bif Nat.blt pc 256 then (bif Nat.beq pc 255 then some (.iaload) else none) else (bif Nat.beq pc 256 then some (.aload_n 0) else none))))))))) else (bif Nat.blt pc 343 then (bif Nat.blt pc 298 then (bif Nat.blt pc 278 then (bif Nat.blt pc 265 then (bif Nat.blt pc 261 then (bif Nat.blt pc 259 then (bif Nat.blt pc 258 then (bif Nat.beq pc 257 then some (.iload_n 3) else none) else (bif Nat.beq pc 258 then some (.iconst 2) else none)) else (bif Nat.blt pc 260 then (bif Nat.beq pc 259 then some (.iadd) else none) else (bif Nat.beq pc 260 then some (.iaload) else none))) else (bif Nat.blt pc 263 then (bif Nat.blt pc 262 then (bif Nat.beq pc 261 then some (.aload_n 0) else none) else (bif Nat.beq pc 262 then some (.iload_n 3) else none)) else (bif Nat.blt pc 264 then (bif Nat.beq pc 263 then some (.iconst 3) else none) else (bif Nat.beq pc 264 then some (.iadd) else none)))) else (bif Nat.blt pc 273 then (bif Nat.blt pc 269 then (bif Nat.blt pc 266 then (bif Nat.beq pc 265 then some (.iaload) else none) else (bif Nat.beq pc 266 then some (.invokevirtual 34) else none)) else (bif Nat.blt pc 272 then (bif Nat.beq pc 269 then some (.if_icmp .eq 504) else none) else (bif Nat.beq pc 272 then some (.iconst 0) else none))) else (bif Nat.blt pc 275 then (bif Nat.blt pc 274 then (bif Nat.beq pc 273 then some (.ireturn) else none) else (bif Nat.beq pc 274 then some (.aload_n 1) else none)) else (bif Nat.blt pc 276 then (bif Nat.beq pc 275 then some (.aload_n 0) else none) else (bif Nat.blt pc 277 then (bif Nat.beq pc 276 then some (.iload_n 3) else none) else (bif Nat.beq pc 277 then some (.iconst 1) else none)))))) else (bif Nat.blt pc 289 then (bif Nat.blt pc 282 then (bif Nat.blt pc 280 then (bif Nat.blt pc 279 then (bif Nat.beq pc 278 then some (.iadd) else none) else (bif Nat.beq pc 279 then some (.iaload) else none)) else (bif Nat.blt pc 281 then (bif Nat.beq pc 280 then some (.aload_n 0) else none) else (bif Nat.beq pc 281 then some (.iload_n 3) else none))) else (bif Nat.blt pc 284 then (bif Nat.blt pc 283 then (bif Nat.beq pc 282 then some (.iconst 2) else none) else (bif Nat.beq pc 283 then some (.iadd) else none)) else (bif Nat.blt pc 285 then (bif Nat.beq pc 284 then some (.iaload) else none) else (bif Nat.blt pc 288 then (bif Nat.beq pc 285 then some (.invokevirtual 35) else none) else (bif Nat.beq pc 288 then some (.aload_n 2) else none))))) else (bif Nat.blt pc 293 then (bif Nat.blt pc 291 then (bif Nat.blt pc 290 then (bif Nat.beq pc 289 then some (.aload_n 0) else none) else (bif Nat.beq pc 290 then some (.iload_n 3) else none)) else (bif Nat.blt pc 292 then (bif Nat.beq pc 291 then some (.iconst 1) else none) else (bif Nat.beq pc 292 then some (.iadd) else none))) else (bif Nat.blt pc 295 then (bif Nat.blt pc 294 then (bif Nat.beq pc 293 then some (.iaload) else none) else (bif Nat.beq pc 294 then some (.aload_n 0) else none)) else (bif Nat.blt pc 296 then (bif Nat.beq pc 295 then some (.iload_n 3) else none) else (bif Nat.blt pc 297 then (bif Nat.beq pc 296 then some (.iconst 2) else none) else (bif Nat.beq pc 297 then some (.iadd) else none))))))) else (bif Nat.blt pc 320 then (bif Nat.blt pc 311 then (bif Nat.blt pc 306 then (bif Nat.blt pc 302 then (bif Nat.blt pc 299 then (bif Nat.beq pc 298 then some (.iaload) else none) else (bif Nat.beq pc 299 then some (.invokevirtual 38) else none)) else (bif Nat.blt pc 305 then (bif Nat.beq pc 302 then some (.if_icmp .eq 471) else none) else (bif Nat.beq pc 305 then some (.iconst 0) else none))) else (bif Nat.blt pc 308 then (bif Nat.blt pc 307 then (bif Nat.beq pc 306 then some (.ireturn) else none) else (bif Nat.beq pc 307 then some (.aload_n 1) else none)) else (bif Nat.blt pc 309 then (bif Nat.beq pc 308 then some (.aload_n 0) else none) else (bif Nat.blt pc 310 then (bif Nat.beq pc 309 then some (.iload_n 3) else none) else (bif Nat.beq pc 310 then some (.iconst 1) else none))))) else (bif Nat.blt pc 315 then (bif Nat.blt pc 313 then (bif Nat.blt pc 312 then (bif Nat.beq pc 311 then some (.iadd) else none) else (bif Nat.beq pc 312 then some (.iaload) else none)) else (bif Nat.blt pc 314 then (bif Nat.beq pc 313 then some (.aload_n 0) else none) else (bif Nat.beq pc 314 then some (.iload_n 3) else none))) else (bif Nat.blt pc 317 then (bif Nat.blt pc 316 then (bif Nat.beq pc 315 then some (.iconst 2) else none) else (bif Nat.beq pc 316 then some (.iadd) else none)) else (bif Nat.blt pc 318 then (bif Nat.beq pc 317 then some (.iaload) else none) else (bif Nat.blt pc 319 then (bif Nat.beq pc 318 then some (.aload_n 0) else none) else (bif Nat.beq pc 319 then some (.iload_n 3) else none)))))) else (bif Nat.blt pc 330 then (bif Nat.blt pc 324 then (bif Nat.blt pc 322 then (bif Nat.blt pc 321 then (bif Nat.beq pc 320 then some (.iconst 3) else none) else (bif Nat.beq pc 321 then some (.iadd) else none)) else (bif Nat.blt pc 323 then (bif Nat.beq pc 322 then some (.iaload) else none) else (bif Nat.beq pc 323 then some (.i2l) else none))) else (bif Nat.blt pc 327 then (bif Nat.blt pc 326 then (bif Nat.beq pc 324 then some (.bipush 32) else none) else (bif Nat.beq pc 326 then some (.lshl) else none)) else (bif Nat.blt pc 328 then (bif Nat.beq pc 327 then some (.aload_n 0) else none) else (bif Nat.blt pc 329 then (bif Nat.beq pc 328 then some (.iload_n 3) else none) else (bif Nat.beq pc 329 then some (.iconst 4) else none))))) else (bif Nat.blt pc 336 then (bif Nat.blt pc 332 then (bif Nat.blt pc 331 then (bif Nat.beq pc 330 then some (.iadd) else none) else (bif Nat.beq pc 331 then some (.iaload) else none)) else (bif Nat.blt pc 333 then (bif Nat.beq pc 332 then some (.i2l) else none) else (bif Nat.beq pc 333 then some (.ldc2_w 13) else none))) else (bif Nat.blt pc 338 then (bif Nat.blt pc 337 then (bif Nat.beq pc 336 then some (.land) else none) else (bif Nat.beq pc 337 then some (.lor) else none)) else (bif Nat.blt pc 341 then (bif Nat.beq pc 338 then some (.invokevirtual 39) else none) else (bif Nat.blt pc 342 then (bif Nat.beq pc 341 then some (.aload_n 2) else none) else (bif Nat.beq pc 342 then some (.aload_n 0) else none)))))))) else (bif Nat.blt pc 385 then (bif Nat.blt pc 361 then (bif Nat.blt pc 351 then (bif Nat.blt pc 347 then (bif Nat.blt pc 345 then (bif Nat.blt pc 344 then (bif Nat.beq pc 343 then some (.iload_n 3) else none) else (bif Nat.beq pc 344 then some (.iconst 1) else none)) else (bif Nat.blt pc 346 then (bif Nat.beq pc 345 then some (.iadd) else none) else (bif Nat.beq pc 346 then some (.iaload) else none))) else (bif Nat.blt pc 349 then (bif Nat.blt pc 348 then (bif Nat.beq pc 347 then some (.aload_n 0) else none) else (bif Nat.beq pc 348 then some (.iload_n 3) else none)) else (bif Nat.blt pc 350 then (bif Nat.beq pc 349 then some (.iconst 2) else none) else (bif Nat.beq pc 350 then some (.iadd) else none)))) else (bif Nat.blt pc 355 then (bif Nat.blt pc 353 then (bif Nat.blt pc 352 then (bif Nat.beq pc 351 then some (.iaload) else none) else (bif Nat.beq pc 352 then some (.aload_n 0) else none)) else (bif Nat.blt pc 354 then (bif Nat.beq pc 353 then some (.iload_n 3) else none) else (bif Nat.beq pc 354 then some (.iconst 3) else none))) else (bif Nat.blt pc 357 then (bif Nat.blt pc 356 then (bif Nat.beq pc 355 then some (.iadd) else none) else (bif Nat.beq pc 356 then some (.iaload) else none)) else (bif Nat.blt pc 358 then (bif Nat.beq pc 357 then some (.i2l) else none) else (bif Nat.blt pc 360 then (bif Nat.beq pc 358 then some (.bipush 32) else none) else (bif Nat.beq pc 360 then some (.lshl) else none)))))) else (bif Nat.blt pc 372 then (bif Nat.blt pc 365 then (bif Nat.blt pc 363 then (bif Nat.blt pc 362 then (bif Nat.beq pc 361 then some (.aload_n 0) else none) else (bif Nat.beq pc 362 then some (.iload_n 3) else none)) else (bif Nat.blt pc 364 then (bif Nat.beq pc 363 then some (.iconst 4) else none) else (bif Nat.beq pc 364 then some (.iadd) else none))) else (bif Nat.blt pc 367 then (bif Nat.blt pc 366 then (bif Nat.beq pc 365 then some (.iaload) else none) else (bif Nat.beq pc 366 then some (.i2l) else none)) else (bif Nat.blt pc 370 then (bif Nat.beq pc 367 then some (.ldc2_w 13) else none) else (bif Nat.blt pc 371 then (bif Nat.beq pc 370 then some (.land) else none) else (bif Nat.beq pc 371 then some (.lor) else none))))) else (bif Nat.blt pc 380 then (bif Nat.blt pc 378 then (bif Nat.blt pc 375 then (bif Nat.beq pc 372 then some (.invokevirtual 43) else none) else (bif Nat.beq pc 375 then some (.if_icmp .eq 398) else none)) else (bif Nat.blt pc 379 then (bif Nat.beq pc 378 then some (.iconst 0) else none) else (bif Nat.beq pc 379 then some (.ireturn) else none))) else (bif Nat.blt pc 382 then (bif Nat.blt pc 381 then (bif Nat.beq pc 380 then some (.aload_n 1) else none) else (bif Nat.beq pc 381 then some (.aload_n 0) else none)) else (bif Nat.blt pc 383 then (bif Nat.beq pc 382 then some (.iload_n 3) else none) else (bif Nat.blt pc 384 then (bif Nat.beq pc 383 then some (.iconst 1) else none) else (bif Nat.beq pc 384 then some (.iadd) else none))))))) else (bif Nat.blt pc 404 then (bif Nat.blt pc 394 then (bif Nat.blt pc 389 then (bif Nat.blt pc 387 then (bif Nat.blt pc 386 then (bif Nat.beq pc 385 then some (.iaload) else none) else (bif Nat.beq pc 386 then some (.aload_n 0) else none)) else (bif Nat.blt pc 388 then (bif Nat.beq pc 387 then some (.iload_n 3) else none) else (bif Nat.beq pc 388 then some (.iconst 2) else none))) else (bif Nat.blt pc 391 then (bif Nat.blt pc 390 then (bif Nat.beq pc 389 then some (.iadd) else none) else (bif Nat.beq pc 390 then some (.iaload) else none)) else (bif Nat.blt pc 392 then (bif Nat.beq pc 391 then some (.aload_n 0) else none) else (bif Nat.blt pc 393 then (bif Nat.beq pc 392 then some (.iload_n 3) else none) else (bif Nat.beq pc 393 then some (.iconst 3) else none))))) else (bif Nat.blt pc 399 then (bif Nat.blt pc 396 then (bif Nat.blt pc 395 then (bif Nat.beq pc 394 then some (.iadd) else none) else (bif Nat.beq pc 395 then some (.iaload) else none)) else (bif Nat.blt pc 397 then (bif Nat.beq pc 396 then some (.i2l) else none) else (bif Nat.beq pc 397 then some (.bipush 32) else none))) else (bif Nat.blt pc 401 then (bif Nat.blt pc 400 then (bif Nat.beq pc 399 then some (.lshl) else none) else (bif Nat.beq pc 400 then some (.aload_n 0) else none)) else (bif Nat.blt pc 402 then (bif Nat.beq pc 401 then some (.iload_n 3) else none) else (bif Nat.blt pc 403 then (bif Nat.beq pc 402 then some (.iconst 4) else none) else (bif Nat.beq pc 403 then some (.iadd) else none)))))) else (bif Nat.blt pc 417 then (bif Nat.blt pc 410 then (bif Nat.blt pc 406 then (bif Nat.blt pc 405 then (bif Nat.beq pc 404 then some (.iaload) else none) else (bif Nat.beq pc 405 then some (.i2l) else none)) else (bif Nat.blt pc 409 then (bif Nat.beq pc 406 then some (.ldc2_w 13) else none) else (bif Nat.beq pc 409 then some (.land) else none))) else (bif Nat.blt pc 414 then (bif Nat.blt pc 411 then (bif Nat.beq pc 410 then some (.lor) else none) else (bif Nat.beq pc 411 then some (.invokevirtual 44) else none)) else (bif Nat.blt pc 415 then (bif Nat.beq pc 414 then some (.aload_n 2) else none) else (bif Nat.blt pc 416 then (bif Nat.beq pc 415 then some (.aload_n 0) else none) else (bif Nat.beq pc 416 then some (.iload_n 3) else none))))) else (bif Nat.blt pc 421 then (bif Nat.blt pc 419 then (bif Nat.blt pc 418 then (bif Nat.beq pc 417 then some (.iconst 1) else none) else (bif Nat.beq pc 418 then some (.iadd) else none)) else (bif Nat.blt pc 420 then (bif Nat.beq pc 419 then some (.iaload) else none) else (bif Nat.beq pc 420 then some (.aload_n 0) else none))) else (bif Nat.blt pc 423 then (bif Nat.blt pc 422 then (bif Nat.beq pc 421 then some (.iload_n 3) else none) else (bif Nat.beq pc 422 then some (.iconst 2) else none)) else (bif Nat.blt pc 424 then (bif Nat.beq pc 423 then some (.iadd) else none) else (bif Nat.blt pc 425 then (bif Nat.beq pc 424 then some (.iaload) else none) else (bif Nat.beq pc 425 then some (.aload_n 0) else none)))))))))) else (bif Nat.blt pc 611 then (bif Nat.blt pc 522 then (bif Nat.blt pc 474 then (bif Nat.blt pc 448 then (bif Nat.blt pc 435 then (bif Nat.blt pc 430 then (bif Nat.blt pc 428 then (bif Nat.blt pc 427 then (bif Nat.beq pc 426 then some (.iload_n 3) else none) else (bif Nat.beq pc 427 then some (.iconst 3) else none)) else (bif Nat.blt pc 429 then (bif Nat.beq pc 428 then some (.iadd) else none) else (bif Nat.beq pc 429 then some (.iaload) else none))) else (bif Nat.blt pc 433 then (bif Nat.blt pc 431 then (bif Nat.beq pc 430 then some (.i2l) else none) else (bif Nat.beq pc 431 then some (.bipush 32) else none)) else (bif Nat.blt pc 434 then (bif Nat.beq pc 433 then some (.lshl) else none) else (bif Nat.beq pc 434 then some (.aload_n 0) else none)))) else (bif Nat.blt pc 439 then (bif Nat.blt pc 437 then (bif Nat.blt pc 436 then (bif Nat.beq pc 435 then some (.iload_n 3) else none) else (bif Nat.beq pc 436 then some (.iconst 4) else none)) else (bif Nat.blt pc 438 then (bif Nat.beq pc 437 then some (.iadd) else none) else (bif Nat.beq pc 438 then some (.iaload) else none))) else (bif Nat.blt pc 443 then (bif Nat.blt pc 440 then (bif Nat.beq pc 439 then some (.i2l) else none) else (bif Nat.beq pc 440 then some (.ldc2_w 13) else none)) else (bif Nat.blt pc 444 then (bif Nat.beq pc 443 then some (.land) else none) else (bif Nat.blt pc 445 then (bif Nat.beq pc 444 then some (.lor) else none) else (bif Nat.beq pc 445 then some (.invokevirtual 48) else none)))))) else (bif Nat.blt pc 459 then (bif Nat.blt pc 454 then (bif Nat.blt pc 452 then (bif Nat.blt pc 451 then (bif Nat.beq pc 448 then some (.if_icmp .eq 325) else none) else (bif Nat.beq pc 451 then some (.iconst 0) else none)) else (bif Nat.blt pc 453 then (bif Nat.beq pc 452 then some (.ireturn) else none) else (bif Nat.beq pc 453 then some (.aload_n 1) else none))) else (bif Nat.blt pc 456 then (bif Nat.blt pc 455 then (bif Nat.beq pc 454 then some (.aload_n 0) else none) else (bif Nat.beq pc 455 then some (.iload_n 3) else none)) else (bif Nat.blt pc 457 then (bif Nat.beq pc 456 then some (.iconst 1) else none) else (bif Nat.blt pc 458 then (bif Nat.beq pc 457 then some (.iadd) else none) else (bif Nat.beq pc 458 then some (.iaload) else none))))) else (bif Nat.blt pc 465 then (bif Nat.blt pc 463 then (bif Nat.blt pc 462 then (bif Nat.beq pc 459 then some (.invokevirtual 49) else none) else (bif Nat.beq pc 462 then some (.aload_n 2) else none)) else (bif Nat.blt pc 464 then (bif Nat.beq pc 463 then some (.aload_n 0) else none) else (bif Nat.beq pc 464 then some (.iload_n 3) else none))) else (bif Nat.blt pc 467 then (bif Nat.blt pc 466 then (bif Nat.beq pc 465 then some (.iconst 1) else none) else (bif Nat.beq pc 466 then some (.iadd) else none)) else (bif Nat.blt pc 468 then (bif Nat.beq pc 467 then some (.iaload) else none) else (bif Nat.blt pc 471 then (bif Nat.beq pc 468 then some (.invokevirtual 53) else none) else (bif Nat.beq pc 471 then some (.if_icmp .eq 302) else none))))))) else (bif Nat.blt pc 498 then (bif Nat.blt pc 485 then (bif Nat.blt pc 478 then (bif Nat.blt pc 476 then (bif Nat.blt pc 475 then (bif Nat.beq pc 474 then some (.iconst 0) else none) else (bif Nat.beq pc 475 then some (.ireturn) else none)) else (bif Nat.blt pc 477 then (bif Nat.beq pc 476 then some (.aload_n 1) else none) else (bif Nat.beq pc 477 then some (.aload_n 0) else none))) else (bif Nat.blt pc 480 then (bif Nat.blt pc 479 then (bif Nat.beq pc 478 then some (.iload_n 3) else none) else (bif Nat.beq pc 479 then some (.iconst 1) else none)) else (bif Nat.blt pc 481 then (bif Nat.beq pc 480 then some (.iadd) else none) else (bif Nat.blt pc 482 then (bif Nat.beq pc 481 then some (.iaload) else none) else (bif Nat.beq pc 482 then some (.invokevirtual 54) else none))))) else (bif Nat.blt pc 489 then (bif Nat.blt pc 487 then (bif Nat.blt pc 486 then (bif Nat.beq pc 485 then some (.aload_n 2) else none) else (bif Nat.beq pc 486 then some (.aload_n 0) else none)) else (bif Nat.blt pc 488 then (bif Nat.beq pc 487 then some (.iload_n 3) else none) else (bif Nat.beq pc 488 then some (.iconst 1) else none))) else (bif Nat.blt pc 491 then (bif Nat.blt pc 490 then (bif Nat.beq pc 489 then some (.iadd) else none) else (bif Nat.beq pc 490 then some (.iaload) else none)) else (bif Nat.blt pc 494 then (bif Nat.beq pc 491 then some (.invokevirtual 57) else none) else (bif Nat.blt pc 497 then (bif Nat.beq pc 494 then some (.if_icmp .eq 279) else none) else (bif Nat.beq pc 497 then some (.iconst 0) else none)))))) else (bif Nat.blt pc 513 then (bif Nat.blt pc 504 then (bif Nat.blt pc 500 then (bif Nat.blt pc 499 then (bif Nat.beq pc 498 then some (.ireturn) else none) else (bif Nat.beq pc 499 then some (.aload_n 1) else none)) else (bif Nat.blt pc 503 then (bif Nat.beq pc 500 then some (.invokevirtual 58) else none) else (bif Nat.beq pc 503 then some (.aload_n 2) else none))) else (bif Nat.blt pc 508 then (bif Nat.blt pc 507 then (bif Nat.beq pc 504 then some (.invokevirtual 62) else none) else (bif Nat.beq pc 507 then some (.lcmp) else none)) else (bif Nat.blt pc 511 then (bif Nat.beq pc 508 then some (.ifCond .eq 265) else none) else (bif Nat.blt pc 512 then (bif Nat.beq pc 511 then some (.iconst 0) else none) else (bif Nat.beq pc 512 then some (.ireturn) else none))))) else (bif Nat.blt pc 517 then (bif Nat.blt pc 515 then (bif Nat.blt pc 514 then (bif Nat.beq pc 513 then some (.aload_n 1) else none) else (bif Nat.beq pc 514 then some (.aload_n 0) else none)) else (bif Nat.blt pc 516 then (bif Nat.beq pc 515 then some (.iload_n 3) else none) else (bif Nat.beq pc 516 then some (.iconst 1) else none))) else (bif Nat.blt pc 519 then (bif Nat.blt pc 518 then (bif Nat.beq pc 517 then some (.iadd) else none) else (bif Nat.beq pc 518 then some (.iaload) else none)) else (bif Nat.blt pc 520 then (bif Nat.beq pc 519 then some (.aload_n 0) else none) else (bif Nat.blt pc 521 then (bif Nat.beq pc 520 then some (.iload_n 3) else none) else (bif Nat.beq pc 521 then some (.iconst 2) else none)))))))) else (bif Nat.blt pc 565 then (bif Nat.blt pc 545 then (bif Nat.blt pc 532 then (bif Nat.blt pc 528 then (bif Nat.blt pc 524 then (bif Nat.blt pc 523 then (bif Nat.beq pc 522 then some (.iadd) else none) else (bif Nat.beq pc 523 then some (.iaload) else none)) else (bif Nat.blt pc 527 then (bif Nat.beq pc 524 then some (.invokevirtual 63) else none) else (bif Nat.beq pc 527 then some (.aload_n 2) else none))) else (bif Nat.blt pc 530 then (bif Nat.blt pc 529 then (bif Nat.beq pc 528 then some (.aload_n 0) else none) else (bif Nat.beq pc 529 then some (.iload_n 3) else none)) else (bif Nat.blt pc 531 then (bif Nat.beq pc 530 then some (.iconst 1) else none) else (bif Nat.beq pc 531 then some (.iadd) else none)))) else (bif Nat.blt pc 536 then (bif Nat.blt pc 534 then (bif Nat.blt pc 533 then (bif Nat.beq pc 532 then some (.iaload) else none) else (bif Nat.beq pc 533 then some (.aload_n 0) else none)) else (bif Nat.blt pc 535 then (bif Nat.beq pc 534 then some (.iload_n 3) else none) else (bif Nat.beq pc 535 then some (.iconst 2) else none))) else (bif Nat.blt pc 538 then (bif Nat.blt pc 537 then (bif Nat.beq pc 536 then some (.iadd) else none) else (bif Nat.beq pc 537 then some (.iaload) else none)) else (bif Nat.blt pc 541 then (bif Nat.beq pc 538 then some (.invokevirtual 67) else none) else (bif Nat.blt pc 542 then (bif Nat.beq pc 541 then some (.lcmp) else none) else (bif Nat.beq pc 542 then some (.ifCond .eq 231) else none)))))) else (bif Nat.blt pc 554 then (bif Nat.blt pc 549 then (bif Nat.blt pc 547 then (bif Nat.blt pc 546 then (bif Nat.beq pc 545 then some (.iconst 0) else none) else (bif Nat.beq pc 546 then some (.ireturn) else none)) else (bif Nat.blt pc 548 then (bif Nat.beq pc 547 then some (.aload_n 1) else none) else (bif Nat.beq pc 548 then some (.aload_n 0) else none))) else (bif Nat.blt pc 551 then (bif Nat.blt pc 550 then (bif Nat.beq pc 549 then some (.iload_n 3) else none) else (bif Nat.beq pc 550 then some (.iconst 1) else none)) else (bif Nat.blt pc 552 then (bif Nat.beq pc 551 then some (.iadd) else none) else (bif Nat.blt pc 553 then (bif Nat.beq pc 552 then some (.iaload) else none) else (bif Nat.beq pc 553 then some (.aload_n 0) else none))))) else (bif Nat.blt pc 558 then (bif Nat.blt pc 556 then (bif Nat.blt pc 555 then (bif Nat.beq pc 554 then some (.iload_n 3) else none) else (bif Nat.beq pc 555 then some (.iconst 2) else none)) else (bif Nat.blt pc 557 then (bif Nat.beq pc 556 then some (.iadd) else none) else (bif Nat.beq pc 557 then some (.iaload) else none))) else (bif Nat.blt pc 562 then (bif Nat.blt pc 561 then (bif Nat.beq pc 558 then some (.invokevirtual 68) else none) else (bif Nat.beq pc 561 then some (.aload_n 2) else none)) else (bif Nat.blt pc 563 then (bif Nat.beq pc 562 then some (.aload_n 0) else none) else (bif Nat.blt pc 564 then (bif Nat.beq pc 563 then some (.iload_n 3) else none) else (bif Nat.beq pc 564 then some (.iconst 1) else none))))))) else (bif Nat.blt pc 587 then (bif Nat.blt pc 578 then (bif Nat.blt pc 569 then (bif Nat.blt pc 567 then (bif Nat.blt pc 566 then (bif Nat.beq pc 565 then some (.iadd) else none) else (bif Nat.beq pc 566 then some (.iaload) else none)) else (bif Nat.blt pc 568 then (bif Nat.beq pc 567 then some (.aload_n 0) else none) else (bif Nat.beq pc 568 then some (.iload_n 3) else none))) else (bif Nat.blt pc 571 then (bif Nat.blt pc 570 then (bif Nat.beq pc 569 then some (.iconst 2) else none) else (bif Nat.beq pc 570 then some (.iadd) else none)) else (bif Nat.blt pc 572 then (bif Nat.beq pc 571 then some (.iaload) else none) else (bif Nat.blt pc 575 then (bif Nat.beq pc 572 then some (.invokevirtual 71) else none) else (bif Nat.beq pc 575 then some (.if_icmp .eq 198) else none))))) else (bif Nat.blt pc 582 then (bif Nat.blt pc 580 then (bif Nat.blt pc 579 then (bif Nat.beq pc 578 then some (.iconst 0) else none) else (bif Nat.beq pc 579 then some (.ireturn) else none)) else (bif Nat.blt pc 581 then (bif Nat.beq pc 580 then some (.aload_n 1) else none) else (bif Nat.beq pc 581 then some (.aload_n 0) else none))) else (bif Nat.blt pc 584 then (bif Nat.blt pc 583 then (bif Nat.beq pc 582 then some (.iload_n 3) else none) else (bif Nat.beq pc 583 then some (.iconst 1) else none)) else (bif Nat.blt pc 585 then (bif Nat.beq pc 584 then some (.iadd) else none) else (bif Nat.blt pc 586 then (bif Nat.beq pc 585 then some (.iaload) else none) else (bif Nat.beq pc 586 then some (.aload_n 0) else none)))))) else (bif Nat.blt pc 598 then (bif Nat.blt pc 591 then (bif Nat.blt pc 589 then (bif Nat.blt pc 588 then (bif Nat.beq pc 587 then some (.iload_n 3) else none) else (bif Nat.beq pc 588 then some (.iconst 2) else none)) else (bif Nat.blt pc 590 then (bif Nat.beq pc 589 then some (.iadd) else none) else (bif Nat.beq pc 590 then some (.iaload) else none))) else (bif Nat.blt pc 595 then (bif Nat.blt pc 594 then (bif Nat.beq pc 591 then some (.invokevirtual 72) else none) else (bif Nat.beq pc 594 then some (.aload_n 2) else none)) else (bif Nat.blt pc 596 then (bif Nat.beq pc 595 then some (.aload_n 0) else none) else (bif Nat.blt pc 597 then (bif Nat.beq pc 596 then some (.iload_n 3) else none) else (bif Nat.beq pc 597 then some (.iconst 1) else none))))) else (bif Nat.blt pc 602 then (bif Nat.blt pc 600 then (bif Nat.blt pc 599 then (bif Nat.beq pc 598 then some (.iadd) else none) else (bif Nat.beq pc 599 then some (.iaload) else none)) else (bif Nat.blt pc 601 then (bif Nat.beq pc 600 then some (.aload_n 0) else none) else (bif Nat.beq pc 601 then some (.iload_n 3) else none))) else (bif Nat.blt pc 604 then (bif Nat.blt pc 603 then (bif Nat.beq pc 602 then some (.iconst 2) else none) else (bif Nat.beq pc 603 then some (.iadd) else none)) else (bif Nat.blt pc 605 then (bif Nat.beq pc 604 then some (.iaload) else none) else (bif Nat.blt pc 608 then (bif Nat.beq pc 605 then some (.invokevirtual 75) else none) else (bif Nat.beq pc 608 then some (.if_icmp .eq 165) else none))))))))) else (bif Nat.blt pc 690 then (bif Nat.blt pc 648 then (bif Nat.blt pc 628 then (bif Nat.blt pc 619 then (bif Nat.blt pc 615 then (bif Nat.blt pc 613 then (bif Nat.blt pc 612 then (bif Nat.beq pc 611 then some (.iconst 0) else none) else (bif Nat.beq pc 612 then some (.ireturn) else none)) else (bif Nat.blt pc 614 then (bif Nat.beq pc 613 then some (.aload_n 1) else none) else (bif Nat.beq pc 614 then some (.aload_n 0) else none))) else (bif Nat.blt pc 617 then (bif Nat.blt pc 616 then (bif Nat.beq pc 615 then some (.iload_n 3) else none) else (bif Nat.beq pc 616 then some (.iconst 1) else none)) else (bif Nat.blt pc 618 then (bif Nat.beq pc 617 then some (.iadd) else none) else (bif Nat.beq pc 618 then some (.iaload) else none)))) else (bif Nat.blt pc 623 then (bif Nat.blt pc 621 then (bif Nat.blt pc 620 then (bif Nat.beq pc 619 then some (.aload_n 0) else none) else (bif Nat.beq pc 620 then some (.iload_n 3) else none)) else (bif Nat.blt pc 622 then (bif Nat.beq pc 621 then some (.iconst 2) else none) else (bif Nat.beq pc 622 then some (.iadd) else none))) else (bif Nat.blt pc 625 then (bif Nat.blt pc 624 then (bif Nat.beq pc 623 then some (.iaload) else none) else (bif Nat.beq pc 624 then some (.aload_n 0) else none)) else (bif Nat.blt pc 626 then (bif Nat.beq pc 625 then some (.iload_n 3) else none) else (bif Nat.blt pc 627 then (bif Nat.beq pc 626 then some (.iconst 3) else none) else (bif Nat.beq pc 627 then some (.iadd) else none)))))) else (bif Nat.blt pc 639 then (bif Nat.blt pc 632 then (bif Nat.blt pc 630 then (bif Nat.blt pc 629 then (bif Nat.beq pc 628 then some (.iaload) else none) else (bif Nat.beq pc 629 then some (.aload_n 0) else none)) else (bif Nat.blt pc 631 then (bif Nat.beq pc 630 then some (.iload_n 3) else none) else (bif Nat.beq pc 631 then some (.iconst 4) else none))) else (bif Nat.blt pc 634 then (bif Nat.blt pc 633 then (bif Nat.beq pc 632 then some (.iadd) else none) else (bif Nat.beq pc 633 then some (.iaload) else none)) else (bif Nat.blt pc 637 then (bif Nat.beq pc 634 then some (.invokevirtual 76) else none) else (bif Nat.blt pc 638 then (bif Nat.beq pc 637 then some (.aload_n 2) else none) else (bif Nat.beq pc 638 then some (.aload_n 0) else none))))) else (bif Nat.blt pc 643 then (bif Nat.blt pc 641 then (bif Nat.blt pc 640 then (bif Nat.beq pc 639 then some (.iload_n 3) else none) else (bif Nat.beq pc 640 then some (.iconst 1) else none)) else (bif Nat.blt pc 642 then (bif Nat.beq pc 641 then some (.iadd) else none) else (bif Nat.beq pc 642 then some (.iaload) else none))) else (bif Nat.blt pc 645 then (bif Nat.blt pc 644 then (bif Nat.beq pc 643 then some (.aload_n 0) else none) else (bif Nat.beq pc 644 then some (.iload_n 3) else none)) else (bif Nat.blt pc 646 then (bif Nat.beq pc 645 then some (.iconst 2) else none) else (bif Nat.blt pc 647 then (bif Nat.beq pc 646 then some (.iadd) else none) else (bif Nat.beq pc 647 then some (.iaload) else none))))))) else (bif Nat.blt pc 670 then (bif Nat.blt pc 657 then (bif Nat.blt pc 652 then (bif Nat.blt pc 650 then (bif Nat.blt pc 649 then (bif Nat.beq pc 648 then some (.aload_n 0) else none) else (bif Nat.beq pc 649 then some (.iload_n 3) else none)) else (bif Nat.blt pc 651 then (bif Nat.beq pc 650 then some (.iconst 3) else none) else (bif Nat.beq pc 651 then some (.iadd) else none))) else (bif Nat.blt pc 654 then (bif Nat.blt pc 653 then (bif Nat.beq pc 652 then some (.iaload) else none) else (bif Nat.beq pc 653 then some (.aload_n 0) else none)) else (bif Nat.blt pc 655 then (bif Nat.beq pc 654 then some (.iload_n 3) else none) else (bif Nat.blt pc 656 then (bif Nat.beq pc 655 then some (.iconst 4) else none) else (bif Nat.beq pc 656 then some (.iadd) else none))))) else (bif Nat.blt pc 665 then (bif Nat.blt pc 661 then (bif Nat.blt pc 658 then (bif Nat.beq pc 657 then some (.iaload) else none) else (bif Nat.beq pc 658 then some (.invokevirtual 80) else none)) else (bif Nat.blt pc 664 then (bif Nat.beq pc 661 then some (.if_icmp .eq 112) else none) else (bif Nat.beq pc 664 then some (.iconst 0) else none))) else (bif Nat.blt pc 667 then (bif Nat.blt pc 666 then (bif Nat.beq pc 665 then some (.ireturn) else none) else (bif Nat.beq pc 666 then some (.aload_n 1) else none)) else (bif Nat.blt pc 668 then (bif Nat.beq pc 667 then some (.aload_n 0) else none) else (bif Nat.blt pc 669 then (bif Nat.beq pc 668 then some (.iload_n 3) else none) else (bif Nat.beq pc 669 then some (.iconst 1) else none)))))) else (bif Nat.blt pc 681 then (bif Nat.blt pc 674 then (bif Nat.blt pc 672 then (bif Nat.blt pc 671 then (bif Nat.beq pc 670 then some (.iadd) else none) else (bif Nat.beq pc 671 then some (.iaload) else none)) else (bif Nat.blt pc 673 then (bif Nat.beq pc 672 then some (.aload_n 0) else none) else (bif Nat.beq pc 673 then some (.iload_n 3) else none))) else (bif Nat.blt pc 676 then (bif Nat.blt pc 675 then (bif Nat.beq pc 674 then some (.iconst 2) else none) else (bif Nat.beq pc 675 then some (.iadd) else none)) else (bif Nat.blt pc 677 then (bif Nat.beq pc 676 then some (.iaload) else none) else (bif Nat.blt pc 680 then (bif Nat.beq pc 677 then some (.invokevirtual 81) else none) else (bif Nat.beq pc 680 then some (.aload_n 2) else none))))) else (bif Nat.blt pc 685 then (bif Nat.blt pc 683 then (bif Nat.blt pc 682 then (bif Nat.beq pc 681 then some (.aload_n 0) else none) else (bif Nat.beq pc 682 then some (.iload_n 3) else none)) else (bif Nat.blt pc 684 then (bif Nat.beq pc 683 then some (.iconst 1) else none) else (bif Nat.beq pc 684 then some (.iadd) else none))) else (bif Nat.blt pc 687 then (bif Nat.blt pc 686 then (bif Nat.beq pc 685 then some (.iaload) else none) else (bif Nat.beq pc 686 then some (.aload_n 0) else none)) else (bif Nat.blt pc 688 then (bif Nat.beq pc 687 then some (.iload_n 3) else none) else (bif Nat.blt pc 689 then (bif Nat.beq pc 688 then some (.iconst 2) else none) else (bif Nat.beq pc 689 then some (.iadd) else none)))))))) else (bif Nat.blt pc 734 then (bif Nat.blt pc 712 then (bif Nat.blt pc 702 then (bif Nat.blt pc 698 then (bif Nat.blt pc 694 then (bif Nat.blt pc 691 then (bif Nat.beq pc 690 then some (.iaload) else none) else (bif Nat.beq pc 691 then some (.invokevirtual 84) else none)) else (bif Nat.blt pc 697 then (bif Nat.beq pc 694 then some (.if_icmp .eq 79) else none) else (bif Nat.beq pc 697 then some (.iconst 0) else none))) else (bif Nat.blt pc 700 then (bif Nat.blt pc 699 then (bif Nat.beq pc 698 then some (.ireturn) else none) else (bif Nat.beq pc 699 then some (.aload_n 1) else none)) else (bif Nat.blt pc 701 then (bif Nat.beq pc 700 then some (.aload_n 0) else none) else (bif Nat.beq pc 701 then some (.iload_n 3) else none)))) else (bif Nat.blt pc 706 then (bif Nat.blt pc 704 then (bif Nat.blt pc 703 then (bif Nat.beq pc 702 then some (.iconst 1) else none) else (bif Nat.beq pc 703 then some (.iadd) else none)) else (bif Nat.blt pc 705 then (bif Nat.beq pc 704 then some (.iaload) else none) else (bif Nat.beq pc 705 then some (.i2l) else none))) else (bif Nat.blt pc 709 then (bif Nat.blt pc 708 then (bif Nat.beq pc 706 then some (.bipush 32) else none) else (bif Nat.beq pc 708 then some (.lshl) else none)) else (bif Nat.blt pc 710 then (bif Nat.beq pc 709 then some (.aload_n 0) else none) else (bif Nat.blt pc 711 then (bif Nat.beq pc 710 then some (.iload_n 3) else none) else (bif Nat.beq pc 711 then some (.iconst 2) else none)))))) else (bif Nat.blt pc 723 then (bif Nat.blt pc 718 then (bif Nat.blt pc 714 then (bif Nat.blt pc 713 then (bif Nat.beq pc 712 then some (.iadd) else none) else (bif Nat.beq pc 713 then some (.iaload) else none)) else (bif Nat.blt pc 715 then (bif Nat.beq pc 714 then some (.i2l) else none) else (bif Nat.beq pc 715 then some (.ldc2_w 13) else none))) else (bif Nat.blt pc 720 then (bif Nat.blt pc 719 then (bif Nat.beq pc 718 then some (.land) else none) else (bif Nat.beq pc 719 then some (.lor) else none)) else (bif Nat.blt pc 721 then (bif Nat.beq pc 720 then some (.aload_n 0) else none) else (bif Nat.blt pc 722 then (bif Nat.beq pc 721 then some (.iload_n 3) else none) else (bif Nat.beq pc 722 then some (.iconst 3) else none))))) else (bif Nat.blt pc 727 then (bif Nat.blt pc 725 then (bif Nat.blt pc 724 then (bif Nat.beq pc 723 then some (.iadd) else none) else (bif Nat.beq pc 724 then some (.iaload) else none)) else (bif Nat.blt pc 726 then (bif Nat.beq pc 725 then some (.aload_n 0) else none) else (bif Nat.beq pc 726 then some (.iload_n 3) else none))) else (bif Nat.blt pc 729 then (bif Nat.blt pc 728 then (bif Nat.beq pc 727 then some (.iconst 4) else none) else (bif Nat.beq pc 728 then some (.iadd) else none)) else (bif Nat.blt pc 730 then (bif Nat.beq pc 729 then some (.iaload) else none) else (bif Nat.blt pc 733 then (bif Nat.beq pc 730 then some (.invokevirtual 85) else none) else (bif Nat.beq pc 733 then some (.aload_n 2) else none))))))) else (bif Nat.blt pc 755 then (bif Nat.blt pc 744 then (bif Nat.blt pc 738 then (bif Nat.blt pc 736 then (bif Nat.blt pc 735 then (bif Nat.beq pc 734 then some (.aload_n 0) else none) else (bif Nat.beq pc 735 then some (.iload_n 3) else none)) else (bif Nat.blt pc 737 then (bif Nat.beq pc 736 then some (.iconst 1) else none) else (bif Nat.beq pc 737 then some (.iadd) else none))) else (bif Nat.blt pc 740 then (bif Nat.blt pc 739 then (bif Nat.beq pc 738 then some (.iaload) else none) else (bif Nat.beq pc 739 then some (.i2l) else none)) else (bif Nat.blt pc 742 then (bif Nat.beq pc 740 then some (.bipush 32) else none) else (bif Nat.blt pc 743 then (bif Nat.beq pc 742 then some (.lshl) else none) else (bif Nat.beq pc 743 then some (.aload_n 0) else none))))) else (bif Nat.blt pc 748 then (bif Nat.blt pc 746 then (bif Nat.blt pc 745 then (bif Nat.beq pc 744 then some (.iload_n 3) else none) else (bif Nat.beq pc 745 then some (.iconst 2) else none)) else (bif Nat.blt pc 747 then (bif Nat.beq pc 746 then some (.iadd) else none) else (bif Nat.beq pc 747 then some (.iaload) else none))) else (bif Nat.blt pc 752 then (bif Nat.blt pc 749 then (bif Nat.beq pc 748 then some (.i2l) else none) else (bif Nat.beq pc 749 then some (.ldc2_w 13) else none)) else (bif Nat.blt pc 753 then (bif Nat.beq pc 752 then some (.land) else none) else (bif Nat.blt pc 754 then (bif Nat.beq pc 753 then some (.lor) else none) else (bif Nat.beq pc 754 then some (.aload_n 0) else none)))))) else (bif Nat.blt pc 764 then (bif Nat.blt pc 759 then (bif Nat.blt pc 757 then (bif Nat.blt pc 756 then (bif Nat.beq pc 755 then some (.iload_n 3) else none) else (bif Nat.beq pc 756 then some (.iconst 3) else none)) else (bif Nat.blt pc 758 then (bif Nat.beq pc 757 then some (.iadd) else none) else (bif Nat.beq pc 758 then some (.iaload) else none))) else (bif Nat.blt pc 761 then (bif Nat.blt pc 760 then (bif Nat.beq pc 759 then some (.aload_n 0) else none) else (bif Nat.beq pc 760 then some (.iload_n 3) else none)) else (bif Nat.blt pc 762 then (bif Nat.beq pc 761 then some (.iconst 4) else none) else (bif Nat.blt pc 763 then (bif Nat.beq pc 762 then some (.iadd) else none) else (bif Nat.beq pc 763 then some (.iaload) else none))))) else (bif Nat.blt pc 772 then (bif Nat.blt pc 768 then (bif Nat.blt pc 767 then (bif Nat.beq pc 764 then some (.invokevirtual 89) else none) else (bif Nat.beq pc 767 then some (.lcmp) else none)) else (bif Nat.blt pc 771 then (bif Nat.beq pc 768 then some (.ifCond .eq 5) else none) else (bif Nat.beq pc 771 then some (.iconst 0) else none))) else (bif Nat.blt pc 776 then (bif Nat.blt pc 773 then (bif Nat.beq pc 772 then some (.ireturn) else none) else (bif Nat.beq pc 773 then some (.iinc 3 5) else none)) else (bif Nat.blt pc 779 then (bif Nat.beq pc 776 then some (.goto (-758)) else none) else (bif Nat.blt pc 780 then (bif Nat.beq pc 779 then some (.iconst 1) else none) else (bif Nat.beq pc 780 then some (.ireturn) else none))))))))))
def q_x131 : Nat → Option Instr := q_g 781 q_t131
def q_tab : List q_MI := [q_m0, q_m1, q_m2, q_m3, q_m4, q_m5, q_m6, q_m7, q_m8, q_m9, q_m10, q_m11, q_m12, q_m13, q_m14, q_m15, q_m16, q_m17, q_m18, q_m19, q_m20, q_m21, q_m22, q_m23, q_m24, q_m25, q_m26, q_m27, q_m28, q_m29, q_m30, q_m31, q_m32, q_m33, q_m34, q_m35, q_m36, q_m37, q_m38, q_m39, q_m40, q_m41, q_m42, q_m43, q_m44, q_m45, q_m46, q_m47, q_m48, q_m49, q_m50, q_m51, q_m52, q_m53, q_m54, q_m55, q_m56, q_m57, q_m58, q_m59, q_m60, q_m61, q_m62, q_m63, q_m64, q_m65, q_m66, q_m67, q_m68, q_m69, q_m70, q_m71, q_m72, q_m73, q_m74, q_m75, q_m76, q_m77, q_m78, q_m79, q_m80, q_m81, q_m82, q_m83, q_m84, q_m85, q_m86, q_m87, q_m88, q_m89, q_m90, q_m91, q_m92, q_m93, q_m94, q_m95, q_m96, q_m97, q_m98, q_m99, q_m100, q_m101, q_m102, q_m103, q_m104, q_m105, q_m106, q_m107, q_m108, q_m109, q_m110, q_m111, q_m112, q_m113, q_m114, q_m115, q_m116, q_m117, q_m118, q_m119, q_m120, q_m121, q_m122, q_m123, q_m124, q_m125, q_m126, q_m127, q_m128, q_m129, q_m130]
end
section
section QMono
variable {L own rt : Nat} {ini : Bool} {cap : Nat × Nat} {code : Nat → Option Instr} {call call' : q_C} {Q Q' : q_Q} {K K' : q_K}
theorem q_sw_mono {P P' : Nat → Prop} (h : ∀ t, P t → P' t) {pc : Nat} {x : Int32} : ∀ (os : List Int) (lo : Int), q_sw P pc x lo os → q_sw P' pc x lo os
  | [], _, _ => trivial
  | _ :: os, lo, hs => ⟨fun e => h _ (hs.1 e), q_sw_mono h os (lo + 1) hs.2⟩
theorem q_do_mono (hc : ∀ mi as μ (Q Q' : q_Q), (∀ r μ, Q r μ → Q' r μ) → call mi as μ Q → call' mi as μ Q') (hK : ∀ pc ls st μ uc us, K pc ls st μ uc us → K' pc ls st μ uc us) {pc mi : Nat} {as rest : List Value} {ls : List (Option Value)} {μ : q_M} {uc us : Nat}
    (h : q_do own cap call K pc mi as rest ls μ uc us) : q_do own cap call' K' pc mi as rest ls μ uc us := by
  unfold q_do at h ⊢
  cases hb : Nat.ble (q_cat rest) 8 with
  | false => rw [hb] at h; exact h.elim
  | true =>
    rw [hb] at h
    cases ha : q_al mi with
    | none => rw [ha] at h; exact hc _ _ _ _ _ (fun r μ' hk => hK _ _ _ _ _ _ hk) h
    | some x => rw [ha] at h; exact ⟨h.1, hc _ _ _ _ _ (fun r μ' hk => hK _ _ _ _ _ _ hk) h.2⟩
set_option maxHeartbeats 2000000 in
theorem q_eff_mono (hc : ∀ mi as μ (Q Q' : q_Q), (∀ r μ, Q r μ → Q' r μ) → call mi as μ Q → call' mi as μ Q') (hQ : ∀ r μ, Q r μ → Q' r μ) (hK : ∀ pc ls st μ uc us, K pc ls st μ uc us → K' pc ls st μ uc us) {pc : Nat} {i : Instr} {ls : List (Option Value)} {st : List Value} {μ : q_M} {uc us : Nat}
    (h : q_eff L own rt ini cap call Q K pc i ls st μ uc us) : q_eff L own rt ini cap call' Q' K' pc i ls st μ uc us := by
  cases i
  case irem => dsimp only [q_eff] at h ⊢; split at h; exact ⟨h.1, hK _ _ _ _ _ _ h.2⟩; exact h.elim
  case lrem => dsimp only [q_eff] at h ⊢; split at h; exact ⟨h.1, hK _ _ _ _ _ _ h.2⟩; exact h.elim
  case ifCond c off =>
    dsimp only [q_eff] at h ⊢
    split at h
    · cases c <;> exact ⟨fun z => hK _ _ _ _ _ _ (h.1 z), fun z => hK _ _ _ _ _ _ (h.2 z)⟩
    · exact h.elim
  case if_icmp c off =>
    dsimp only [q_eff] at h ⊢
    split at h
    · cases c <;> exact ⟨fun z => hK _ _ _ _ _ _ (h.1 z), fun z => hK _ _ _ _ _ _ (h.2 z)⟩
    · exact h.elim
  case tableswitch d lo hi offs =>
    dsimp only [q_eff] at h ⊢
    split at h
    · exact ⟨fun z => hK _ _ _ _ _ _ (h.1 z), q_sw_mono (fun t => hK _ _ _ _ _ _) _ _ h.2⟩
    · exact h.elim
  case getfield x =>
    dsimp only [q_eff] at h ⊢
    cases hq : q_fr own x with
    | none => simp only [hq] at h
    | some f =>
      obtain ⟨ci, k, ty, fin⟩ := f
      simp only [hq] at h ⊢
      split at h
      · refine ⟨h.1, ?_⟩
        have h2 := h.2
        split at h2
        · exact hK _ _ _ _ _ _ h2
        · exact hK _ _ _ _ _ _ h2
        · exact hK _ _ _ _ _ _ h2
        · obtain ⟨b, e, h3⟩ := h2
          exact ⟨b, e, hK _ _ _ _ _ _ h3⟩
      · exact h.elim
  case putfield x =>
    dsimp only [q_eff] at h ⊢
    cases hq : q_fr own x with
    | none => simp only [hq] at h
    | some f =>
      obtain ⟨ci, k, ty, fin⟩ := f
      simp only [hq] at h ⊢
      cases hf : (!fin || (ini && Nat.beq own ci)) with
      | false => rw [hf] at h; exact h.elim
      | true =>
        rw [hf] at h
        simp only at h ⊢
        split at h
        · split at h
          · exact ⟨h.1, hK _ _ _ _ _ _ h.2⟩
          · exact h.elim
        · split at h
          · exact ⟨h.1, h.2.1, hK _ _ _ _ _ _ h.2.2⟩
          · exact h.elim
        · split at h
          · exact ⟨h.1, hK _ _ _ _ _ _ h.2⟩
          · exact h.elim
        · split at h
          · exact ⟨h.1, hK _ _ _ _ _ _ h.2⟩
          · exact h.elim
  case iaload =>
    dsimp only [q_eff] at h ⊢; split at h
    · obtain ⟨n, h1, h2, h3⟩ := h; exact ⟨n, h1, h2, hK _ _ _ _ _ _ h3⟩
    · exact h.elim
  case laload =>
    dsimp only [q_eff] at h ⊢; split at h
    · obtain ⟨n, h1, h2, h3⟩ := h; exact ⟨n, h1, h2, hK _ _ _ _ _ _ h3⟩
    · exact h.elim
  case baload =>
    dsimp only [q_eff] at h ⊢; split at h
    · obtain ⟨n, h1, h2, h3⟩ := h; exact ⟨n, h1, h2, hK _ _ _ _ _ _ h3⟩
    · exact h.elim
  case aaload =>
    dsimp only [q_eff] at h ⊢; split at h
    · obtain ⟨t, n, b, h1, h2, h3, h4⟩ := h; exact ⟨t, n, b, h1, h2, h3, hK _ _ _ _ _ _ h4⟩
    · exact h.elim
  case iastore =>
    dsimp only [q_eff] at h ⊢; split at h
    · obtain ⟨n, h1, h2, h3⟩ := h; exact ⟨n, h1, h2, hK _ _ _ _ _ _ h3⟩
    · exact h.elim
  case lastore =>
    dsimp only [q_eff] at h ⊢; split at h
    · obtain ⟨n, h1, h2, h3⟩ := h; exact ⟨n, h1, h2, hK _ _ _ _ _ _ h3⟩
    · exact h.elim
  case bastore =>
    dsimp only [q_eff] at h ⊢; split at h
    · obtain ⟨n, h1, h2, hz, h3⟩ := h; exact ⟨n, h1, h2, hz, hK _ _ _ _ _ _ h3⟩
    · exact h.elim
  case aastore =>
    dsimp only [q_eff] at h ⊢; split at h
    · obtain ⟨t, n, h1, h2, h3, h4⟩ := h; exact ⟨t, n, h1, h2, h3, hK _ _ _ _ _ _ h4⟩
    · exact h.elim
  case arraylength =>
    dsimp only [q_eff] at h ⊢; split at h
    · exact ⟨h.1, hK _ _ _ _ _ _ h.2⟩
    · exact h.elim
  case new x =>
    dsimp only [q_eff] at h ⊢
    cases hq : q_cr own x with
    | none => simp only [hq] at h
    | some ci => simp only [hq] at h ⊢; exact ⟨h.1, h.2.1, hK _ _ _ _ _ _ h.2.2⟩
  case newarray t =>
    dsimp only [q_eff] at h ⊢
    cases hq : q_tagOf t with
    | none => simp only [hq] at h
    | some tg =>
      simp only [hq] at h ⊢
      split at h
      · obtain ⟨N, h1, h2, h3⟩ := h; exact ⟨N, h1, h2, hK _ _ _ _ _ _ h3⟩
      · exact h.elim
  case anewarray x =>
    dsimp only [q_eff] at h ⊢
    cases hq : q_cr own x with
    | none => simp only [hq] at h
    | some ci =>
      simp only [hq] at h ⊢
      split at h
      · obtain ⟨t, N, h1, h2, h3⟩ := h; exact ⟨t, N, h1, h2, hK _ _ _ _ _ _ h3⟩
      · exact h.elim
  case multianewarray x y =>
    dsimp only [q_eff] at h ⊢
    cases hb : (Nat.beq own 7 && Nat.beq x 28 && Nat.beq y 2) with
    | false => rw [hb] at h; exact h.elim
    | true =>
      rw [hb] at h
      simp only at h ⊢
      split at h
      · obtain ⟨N, M, h1, h2, h3, h4⟩ := h; exact ⟨N, M, h1, h2, h3, hK _ _ _ _ _ _ h4⟩
      · exact h.elim
  case invokevirtual x =>
    dsimp only [q_eff] at h ⊢
    split at h
    · rename_i mi na hq
      try rw [hq]
      try simp only at h ⊢
      split at h
      · rename_i as rest hs
        try rw [hs]
        try simp only at h ⊢
        split at h
        · exact ⟨h.1, q_do_mono hc hK h.2⟩
        · exact h.elim
      · exact h.elim
    · exact h.elim
  case invokespecial x =>
    dsimp only [q_eff] at h ⊢
    split at h
    · rename_i mi na hq
      try rw [hq]
      try simp only at h ⊢
      split at h
      · rename_i as rest hs
        try rw [hs]
        try simp only at h ⊢
        split at h
        · exact q_do_mono hc hK h
        · exact h.elim
      · exact h.elim
    · rename_i mi na hq
      try rw [hq]
      try simp only at h ⊢
      split at h
      · split at h
        · rename_i hb
          try rw [hb]
          exact hK _ _ _ _ _ _ h
        · exact h.elim
      · exact h.elim
    · exact h.elim
  case invokestatic x =>
    dsimp only [q_eff] at h ⊢
    split at h
    · rename_i mi na hq
      try rw [hq]
      try simp only at h ⊢
      split at h
      · rename_i as rest hs
        try rw [hs]
        try simp only at h ⊢
        exact q_do_mono hc hK h
      · exact h.elim
    · rename_i mi na hq
      try rw [hq]
      try simp only at h ⊢
      split at h
      · split at h
        · rename_i hb
          try rw [hb]
          try simp only
          rcases h with ⟨n0, n1, h1, h2, h3, h4⟩ | ⟨n0, n1, h1, h2, h3, h4⟩
          · exact Or.inl ⟨n0, n1, h1, h2, h3, hK _ _ _ _ _ _ h4⟩
          · exact Or.inr ⟨n0, n1, h1, h2, h3, hK _ _ _ _ _ _ h4⟩
        · exact h.elim
      · exact h.elim
    · rename_i mi na hq
      try rw [hq]
      try simp only at h ⊢
      split at h
      · split at h
        · rename_i hb
          try rw [hb]
          exact hK _ _ _ _ _ _ h
        · exact h.elim
      · exact h.elim
    · exact h.elim
  case ireturn =>
    dsimp only [q_eff] at h ⊢; split at h
    · split at h
      · exact hQ _ _ h
      · exact ⟨h.1, hQ _ _ h.2⟩
      · exact h.elim
    · exact h.elim
  case lreturn =>
    dsimp only [q_eff] at h ⊢; split at h
    · split at h
      · exact hQ _ _ h
      · exact h.elim
    · exact h.elim
  case areturn =>
    dsimp only [q_eff] at h ⊢; split at h
    · split at h
      · exact hQ _ _ h
      · exact h.elim
    · exact h.elim
  case return_ =>
    dsimp only [q_eff] at h ⊢; split at h
    · split at h
      · exact hQ _ _ h
      · exact h.elim
    · exact h.elim
  all_goals exact h
theorem q_stp_mono (hc : ∀ mi as μ (Q Q' : q_Q), (∀ r μ, Q r μ → Q' r μ) → call mi as μ Q → call' mi as μ Q') (hQ : ∀ r μ, Q r μ → Q' r μ) (hK : ∀ pc ls st μ uc us, K pc ls st μ uc us → K' pc ls st μ uc us) {pc : Nat} {ls : List (Option Value)} {st : List Value} {μ : q_M} {uc us : Nat}
    (h : q_stp L own rt ini cap code call Q K pc ls st μ uc us) : q_stp L own rt ini cap code call' Q' K' pc ls st μ uc us := by
  unfold q_stp at h ⊢
  cases hi : code pc with
  | none => rw [hi] at h; exact h.elim
  | some i =>
    rw [hi] at h
    simp only at h ⊢
    cases hp : q_pure own pc i ls st with
    | none => rw [hp] at h; exact q_eff_mono hc hQ hK h
    | some x => rw [hp] at h; exact hK _ _ _ _ _ _ h
theorem q_WP_step (hc : q_mono call) {pc : Nat} {ls : List (Option Value)} {st : List Value} {μ : q_M} {uc us : Nat}
    (h : q_stp L own rt ini cap code call Q (q_WP L own rt ini cap code call Q) pc ls st μ uc us) : q_WP L own rt ini cap code call Q pc ls st μ uc us :=
  fun X hX => hX _ _ _ _ _ _ (q_stp_mono hc (fun _ _ z => z) (fun _ _ _ _ _ _ hw => hw X hX) h)
theorem q_WP_mono (hc : ∀ mi as μ (Q Q' : q_Q), (∀ r μ, Q r μ → Q' r μ) → call mi as μ Q → call' mi as μ Q') (hQ : ∀ r μ, Q r μ → Q' r μ) {pc : Nat} {ls : List (Option Value)} {st : List Value} {μ : q_M} {uc us : Nat}
    (h : q_WP L own rt ini cap code call Q pc ls st μ uc us) : q_WP L own rt ini cap code call' Q' pc ls st μ uc us :=
  fun X hX => h X (fun _ _ _ _ _ _ hs => hX _ _ _ _ _ _ (q_stp_mono hc hQ (fun _ _ _ _ _ _ z => z) hs))
/-- k steps at once -/
theorem q_blk (hc : q_mono call) (k : Nat) {pc : Nat} {ls : List (Option Value)} {st : List Value} {μ : q_M} {uc us : Nat}
    (h : q_it L own rt ini cap code call Q (q_WP L own rt ini cap code call Q) k pc ls st μ uc us) : q_WP L own rt ini cap code call Q pc ls st μ uc us := by
  induction k generalizing pc ls st μ uc us with
  | zero => exact h
  | succ n ih => exact q_WP_step hc (q_stp_mono hc (fun _ _ z => z) (fun _ _ _ _ _ _ hw => ih hw) h)
end QMono
def q_lay : List Value → List (Option Value)
  | [] => []
  | v :: t => (match v.category with | 2 => some v :: none :: q_lay t | _ => some v :: q_lay t)
def q_ent (as : List Value) (n : Nat) : List (Option Value) := q_lay as ++ List.replicate (n - (q_lay as).length) none
/-- the method mi, begun with the arguments as, comes to its end with Q; calls at most d deep -/
def q_Ex (L : Nat) : Nat → q_C
  | 0 => fun _ _ _ _ => False
  | d + 1 => fun mi as μ Q => ∃ x : q_MI, q_tab[mi]? = some x ∧ (q_lay as).length ≤ x.2.2.1 ∧ q_WP L x.2.2.2.2.1 x.2.2.2.2.2.1 x.2.2.2.2.2.2.1 ((q_al mi).getD (0, 0)) x.2.2.2.2.2.2.2 (q_Ex L d) Q 0 (q_ent as x.2.2.1) [] μ 0 0
theorem q_Ex_mono (L : Nat) : ∀ d, q_mono (q_Ex L d)
  | 0 => fun _ _ _ _ _ _ h => h
  | d + 1 => fun _ _ _ _ _ hQ ⟨x, h1, h2, h3⟩ => ⟨x, h1, h2, q_WP_mono (q_Ex_mono L d) hQ h3⟩
theorem q_Ex_up (L : Nat) : ∀ d mi as μ Q, q_Ex L d mi as μ Q → q_Ex L (d + 1) mi as μ Q
  | 0, _, _, _, _, h => h.elim
  | d + 1, _, _, _, _, ⟨x, h1, h2, h3⟩ => ⟨x, h1, h2, q_WP_mono (fun mi as μ _ _ hQ hz => q_Ex_up L d mi as μ _ (q_Ex_mono L d mi as μ _ _ hQ hz)) (fun _ _ z => z) h3⟩
end
section
abbrev q_xO (x : q_MI) : Nat := x.2.2.2.2.1
abbrev q_xC (x : q_MI) : Nat → Option Instr := x.2.2.2.2.2.2.2
/-- the method x (its number mi) at a place of its body -/
def q_W (L d mi : Nat) (x : q_MI) (Q : q_Q) : q_K := q_WP L x.2.2.2.2.1 x.2.2.2.2.2.1 x.2.2.2.2.2.2.1 ((q_al mi).getD (0, 0)) x.2.2.2.2.2.2.2 (q_Ex L d) Q
def q_T (L d mi : Nat) (x : q_MI) (Q : q_Q) (K : q_K) : Nat → q_K := q_it L x.2.2.2.2.1 x.2.2.2.2.2.1 x.2.2.2.2.2.2.1 ((q_al mi).getD (0, 0)) x.2.2.2.2.2.2.2 (q_Ex L d) Q K
section QStep
variable {L d mi : Nat} {x : q_MI} {Q : q_Q} {pc : Nat} {ls : List (Option Value)} {st : List Value} {n : Nat} {I : q_I} {J : q_L} {R : q_R} {uc us : Nat}
/-- into a method -/
theorem q_in {as : List Value} {μ : q_M} (hx : q_tab[mi]? = some x) (hl : Nat.ble (q_lay as).length x.2.2.1 = true) (h : q_W L d mi x Q 0 (q_ent as x.2.2.1) [] μ 0 0) : q_Ex L (d + 1) mi as μ Q :=
  ⟨x, hx, Nat.le_of_ble_eq_true hl, h⟩
/-- k steps at once -/
theorem q_k (k : Nat) {μ : q_M} (h : q_T L d mi x Q (q_W L d mi x Q) k pc ls st μ uc us) : q_W L d mi x Q pc ls st μ uc us := q_blk (q_Ex_mono L d) k h
theorem q_one {i : Instr} {μ : q_M} (hc : q_xC x pc = some i) (hp : q_pure (q_xO x) pc i ls st = none) (h : q_eff L x.2.2.2.2.1 x.2.2.2.2.2.1 x.2.2.2.2.2.2.1 ((q_al mi).getD (0, 0)) (q_Ex L d) Q (q_W L d mi x Q) pc i ls st μ uc us) : q_W L d mi x Q pc ls st μ uc us := by
  refine q_WP_step (q_Ex_mono L d) ?_
  unfold q_stp
  rw [show x.2.2.2.2.2.2.2 pc = some i from hc]
  simp only
  rw [show q_pure x.2.2.2.2.1 pc i ls st = none from hp]
  exact h
theorem q_top {v w : Int32} {μ : q_M} (e : v = w) (h : q_W L d mi x Q pc ls (.int w :: st) μ uc us) : q_W L d mi x Q pc ls (.int v :: st) μ uc us := e ▸ h
theorem q_topL {v w : Int64} {μ : q_M} (e : v = w) (h : q_W L d mi x Q pc ls (.long w :: st) μ uc us) : q_W L d mi x Q pc ls (.long v :: st) μ uc us := e ▸ h
variable {a b k j ci idx len m : Nat} {fin : Bool} {v w : Int32} {z : Int64}
theorem q_gI (hc : q_xC x pc = some (.getfield idx)) (hf : q_fr (q_xO x) idx = some (ci, k, 0, fin)) (ho : q_ob n a ci) (h : q_W L d mi x Q (pc + 3) ls (.int (I a k) :: st) (n, I, J, R) uc us) : q_W L d mi x Q pc ls (.ref a :: st) (n, I, J, R) uc us :=
  q_one hc rfl (by dsimp only [q_eff]; rw [show q_fr x.2.2.2.2.1 idx = _ from hf]; exact ⟨ho, h⟩)
theorem q_gZ (hc : q_xC x pc = some (.getfield idx)) (hf : q_fr (q_xO x) idx = some (ci, k, 1, fin)) (ho : q_ob n a ci) (h : q_W L d mi x Q (pc + 3) ls (.int (I a k) :: st) (n, I, J, R) uc us) : q_W L d mi x Q pc ls (.ref a :: st) (n, I, J, R) uc us :=
  q_one hc rfl (by dsimp only [q_eff]; rw [show q_fr x.2.2.2.2.1 idx = _ from hf]; exact ⟨ho, h⟩)
theorem q_gJ (hc : q_xC x pc = some (.getfield idx)) (hf : q_fr (q_xO x) idx = some (ci, k, 2, fin)) (ho : q_ob n a ci) (h : q_W L d mi x Q (pc + 3) ls (.long (J a k) :: st) (n, I, J, R) uc us) : q_W L d mi x Q pc ls (.ref a :: st) (n, I, J, R) uc us :=
  q_one hc rfl (by dsimp only [q_eff]; rw [show q_fr x.2.2.2.2.1 idx = _ from hf]; exact ⟨ho, h⟩)
theorem q_gR (hc : q_xC x pc = some (.getfield idx)) (hf : q_fr (q_xO x) idx = some (ci, k, 3, fin)) (ho : q_ob n a ci) (hR : R a k = some b) (h : q_W L d mi x Q (pc + 3) ls (.ref b :: st) (n, I, J, R) uc us) : q_W L d mi x Q pc ls (.ref a :: st) (n, I, J, R) uc us :=
  q_one hc rfl (by dsimp only [q_eff]; rw [show q_fr x.2.2.2.2.1 idx = _ from hf]; exact ⟨ho, b, hR, h⟩)
theorem q_pI (hc : q_xC x pc = some (.putfield idx)) (hf : q_fr (q_xO x) idx = some (ci, k, 0, fin)) (hfin : (!fin || (x.2.2.2.2.2.2.1 && Nat.beq x.2.2.2.2.1 ci)) = true) (ho : q_ob n a ci) (h : q_W L d mi x Q (pc + 3) ls (st) (n, q_up I a k v, J, R) uc us) : q_W L d mi x Q pc ls (.int v :: .ref a :: st) (n, I, J, R) uc us :=
  q_one hc rfl (by dsimp only [q_eff]; rw [show q_fr x.2.2.2.2.1 idx = _ from hf]; simp only; rw [hfin]; exact ⟨ho, h⟩)
theorem q_pZ (hc : q_xC x pc = some (.putfield idx)) (hf : q_fr (q_xO x) idx = some (ci, k, 1, fin)) (hfin : (!fin || (x.2.2.2.2.2.2.1 && Nat.beq x.2.2.2.2.1 ci)) = true) (ho : q_ob n a ci) (hz : q_bz v) (h : q_W L d mi x Q (pc + 3) ls (st) (n, q_up I a k v, J, R) uc us) : q_W L d mi x Q pc ls (.int v :: .ref a :: st) (n, I, J, R) uc us :=
  q_one hc rfl (by dsimp only [q_eff]; rw [show q_fr x.2.2.2.2.1 idx = _ from hf]; simp only; rw [hfin]; exact ⟨ho, hz, h⟩)
theorem q_pJ (hc : q_xC x pc = some (.putfield idx)) (hf : q_fr (q_xO x) idx = some (ci, k, 2, fin)) (hfin : (!fin || (x.2.2.2.2.2.2.1 && Nat.beq x.2.2.2.2.1 ci)) = true) (ho : q_ob n a ci) (h : q_W L d mi x Q (pc + 3) ls (st) (n, I, q_up J a k z, R) uc us) : q_W L d mi x Q pc ls (.long z :: .ref a :: st) (n, I, J, R) uc us :=
  q_one hc rfl (by dsimp only [q_eff]; rw [show q_fr x.2.2.2.2.1 idx = _ from hf]; simp only; rw [hfin]; exact ⟨ho, h⟩)
theorem q_pR (hc : q_xC x pc = some (.putfield idx)) (hf : q_fr (q_xO x) idx = some (ci, k, 3, fin)) (hfin : (!fin || (x.2.2.2.2.2.2.1 && Nat.beq x.2.2.2.2.1 ci)) = true) (ho : q_ob n a ci) (h : q_W L d mi x Q (pc + 3) ls (st) (n, I, J, q_up R a k (some b)) uc us) : q_W L d mi x Q pc ls (.ref b :: .ref a :: st) (n, I, J, R) uc us :=
  q_one hc rfl (by dsimp only [q_eff]; rw [show q_fr x.2.2.2.2.1 idx = _ from hf]; simp only; rw [hfin]; exact ⟨ho, h⟩)
theorem q_ix (h : m < len) (hl : len ≤ 10000) : vp_in (nI m) len ∧ (nI m).toNatClampNeg = m := ⟨vp_in_nI h (by omega), nI_clamp (by omega)⟩
theorem q_ial (hc : q_xC x pc = some (.iaload)) (ha : q_ar n a 0 len) (hm : m < len) (hl : Nat.ble len 10000 = true) (h : q_W L d mi x Q (pc + 1) ls (.int (I a m) :: st) (n, I, J, R) uc us) : q_W L d mi x Q pc ls (.int (nI m) :: .ref a :: st) (n, I, J, R) uc us := by
  obtain ⟨h1, h2⟩ := q_ix hm (Nat.le_of_ble_eq_true hl)
  refine q_one hc rfl ?_
  refine ⟨len, Or.inl ha, h1, ?_⟩
  rw [h2]
  exact h
theorem q_sal (hc : q_xC x pc = some (.iaload)) (ha : len = L) (hm : m < len) (hl : Nat.ble len 10000 = true) (h : q_W L d mi x Q (pc + 1) ls (.int (I 2 m) :: st) (n, I, J, R) uc us) : q_W L d mi x Q pc ls (.int (nI m) :: .ref 2 :: st) (n, I, J, R) uc us := by
  obtain ⟨h1, h2⟩ := q_ix hm (Nat.le_of_ble_eq_true hl)
  refine q_one hc rfl ?_
  refine ⟨len, Or.inr ⟨rfl, ha⟩, h1, ?_⟩
  rw [h2]
  exact h
theorem q_lal (hc : q_xC x pc = some (.laload)) (ha : q_ar n a 1 len) (hm : m < len) (hl : Nat.ble len 10000 = true) (h : q_W L d mi x Q (pc + 1) ls (.long (J a m) :: st) (n, I, J, R) uc us) : q_W L d mi x Q pc ls (.int (nI m) :: .ref a :: st) (n, I, J, R) uc us := by
  obtain ⟨h1, h2⟩ := q_ix hm (Nat.le_of_ble_eq_true hl)
  refine q_one hc rfl ?_
  refine ⟨len, ha, h1, ?_⟩
  rw [h2]
  exact h
theorem q_zal (hc : q_xC x pc = some (.baload)) (ha : q_ar n a 2 len) (hm : m < len) (hl : Nat.ble len 10000 = true) (h : q_W L d mi x Q (pc + 1) ls (.int (I a m) :: st) (n, I, J, R) uc us) : q_W L d mi x Q pc ls (.int (nI m) :: .ref a :: st) (n, I, J, R) uc us := by
  obtain ⟨h1, h2⟩ := q_ix hm (Nat.le_of_ble_eq_true hl)
  refine q_one hc rfl ?_
  refine ⟨len, ha, h1, ?_⟩
  rw [h2]
  exact h
theorem q_aal {t : Nat} (hc : q_xC x pc = some .aaload) (ha : q_ar n a t len) (ht : Nat.ble 3 t = true ∧ Nat.ble t 7 = true) (hm : m < len) (hl : Nat.ble len 10000 = true) (hR : R a m = some b) (h : q_W L d mi x Q (pc + 1) ls (.ref b :: st) (n, I, J, R) uc us) : q_W L d mi x Q pc ls (.int (nI m) :: .ref a :: st) (n, I, J, R) uc us := by
  obtain ⟨h1, h2⟩ := q_ix hm (Nat.le_of_ble_eq_true hl)
  refine q_one hc rfl ?_
  exact ⟨t, len, b, ⟨ha, Nat.le_of_ble_eq_true ht.1, Nat.le_of_ble_eq_true ht.2⟩, h1, by rw [h2]; exact hR, h⟩
theorem q_ias (hc : q_xC x pc = some (.iastore)) (ha : q_ar n a 0 len) (hm : m < len) (hl : Nat.ble len 10000 = true) (h : q_W L d mi x Q (pc + 1) ls (st) (n, q_up I a m v, J, R) uc us) : q_W L d mi x Q pc ls (.int v :: .int (nI m) :: .ref a :: st) (n, I, J, R) uc us := by
  obtain ⟨h1, h2⟩ := q_ix hm (Nat.le_of_ble_eq_true hl)
  refine q_one hc rfl ?_
  refine ⟨len, ha, h1, ?_⟩
  rw [h2]
  exact h
theorem q_las (hc : q_xC x pc = some (.lastore)) (ha : q_ar n a 1 len) (hm : m < len) (hl : Nat.ble len 10000 = true) (h : q_W L d mi x Q (pc + 1) ls (st) (n, I, q_up J a m z, R) uc us) : q_W L d mi x Q pc ls (.long z :: .int (nI m) :: .ref a :: st) (n, I, J, R) uc us := by
  obtain ⟨h1, h2⟩ := q_ix hm (Nat.le_of_ble_eq_true hl)
  refine q_one hc rfl ?_
  refine ⟨len, ha, h1, ?_⟩
  rw [h2]
  exact h
theorem q_zas (hc : q_xC x pc = some (.bastore)) (ha : q_ar n a 2 len) (hm : m < len) (hl : Nat.ble len 10000 = true) (hz : q_bz v) (h : q_W L d mi x Q (pc + 1) ls (st) (n, q_up I a m v, J, R) uc us) : q_W L d mi x Q pc ls (.int v :: .int (nI m) :: .ref a :: st) (n, I, J, R) uc us := by
  obtain ⟨h1, h2⟩ := q_ix hm (Nat.le_of_ble_eq_true hl)
  refine q_one hc rfl ?_
  refine ⟨len, ha, h1, hz, ?_⟩
  rw [h2]
  exact h
theorem q_aas {t : Nat} (hc : q_xC x pc = some .aastore) (ha : q_ar n a t len) (ht : Nat.ble 3 t = true ∧ Nat.ble t 6 = true) (ho : q_ob n b (q_el t)) (hm : m < len) (hl : Nat.ble len 10000 = true) (h : q_W L d mi x Q (pc + 1) ls (st) (n, I, J, q_up R a m (some b)) uc us) : q_W L d mi x Q pc ls (.ref b :: .int (nI m) :: .ref a :: st) (n, I, J, R) uc us := by
  obtain ⟨h1, h2⟩ := q_ix hm (Nat.le_of_ble_eq_true hl)
  refine q_one hc rfl ?_
  refine ⟨t, len, ⟨ha, Nat.le_of_ble_eq_true ht.1, Nat.le_of_ble_eq_true ht.2⟩, ho, h1, ?_⟩
  rw [h2]
  exact h
theorem q_ac {sp dp c n0 n1 : Nat} (hc : q_xC x pc = some (.invokestatic idx)) (hf : q_mr (q_xO x) idx = some (0, 5, 4)) (hct : Nat.ble (q_cat st) 8 = true) (h0 : q_ac0 n a n0) (ha : q_ar n b 0 n1) (h1 : sp + c ≤ n0) (h2 : dp + c ≤ n1) (hl : Nat.ble n0 10000 = true ∧ Nat.ble n1 10000 = true)
    (h : q_W L d mi x Q (pc + 3) ls (st) (n, va_up I b (va_cpy (I a) (I b) sp dp c), J, R) uc us) : q_W L d mi x Q pc ls (.int (nI c) :: .int (nI dp) :: .ref b :: .int (nI sp) :: .ref a :: st) (n, I, J, R) uc us := by
  have g0 := Nat.le_of_ble_eq_true hl.1
  have g1 := Nat.le_of_ble_eq_true hl.2
  refine q_one hc rfl ?_
  dsimp only [q_eff]
  rw [show q_mr x.2.2.2.2.1 idx = _ from hf]
  simp only
  rw [hct]
  refine Or.inl ⟨n0, n1, h0, ha, ⟨nI_pos (by omega), nI_pos (by omega), nI_pos (by omega), ?_, ?_⟩, ?_⟩
  · rw [nI_clamp (by omega), nI_clamp (by omega)]; exact h1
  · rw [nI_clamp (by omega), nI_clamp (by omega)]; exact h2
  · rw [nI_clamp (by omega), nI_clamp (by omega), nI_clamp (by omega)]; exact h
theorem q_acL {sp dp c n0 n1 : Nat} (hc : q_xC x pc = some (.invokestatic idx)) (hf : q_mr (q_xO x) idx = some (0, 5, 4)) (hct : Nat.ble (q_cat st) 8 = true) (h0 : q_ar n a 1 n0) (ha : q_ar n b 1 n1) (h1 : sp + c ≤ n0) (h2 : dp + c ≤ n1) (hl : Nat.ble n0 10000 = true ∧ Nat.ble n1 10000 = true)
    (h : q_W L d mi x Q (pc + 3) ls (st) (n, I, va_up J b (va_cpy (J a) (J b) sp dp c), R) uc us) : q_W L d mi x Q pc ls (.int (nI c) :: .int (nI dp) :: .ref b :: .int (nI sp) :: .ref a :: st) (n, I, J, R) uc us := by
  have g0 := Nat.le_of_ble_eq_true hl.1
  have g1 := Nat.le_of_ble_eq_true hl.2
  refine q_one hc rfl ?_
  dsimp only [q_eff]
  rw [show q_mr x.2.2.2.2.1 idx = _ from hf]
  simp only
  rw [hct]
  refine Or.inr ⟨n0, n1, h0, ha, ⟨nI_pos (by omega), nI_pos (by omega), nI_pos (by omega), ?_, ?_⟩, ?_⟩
  · rw [nI_clamp (by omega), nI_clamp (by omega)]; exact h1
  · rw [nI_clamp (by omega), nI_clamp (by omega)]; exact h2
  · rw [nI_clamp (by omega), nI_clamp (by omega), nI_clamp (by omega)]; exact h
theorem q_mmn (hc : q_xC x pc = some (.invokestatic idx)) (hf : q_mr (q_xO x) idx = some (0, 2, 5)) (hct : Nat.ble (q_cat st) 8 = true) {μ : q_M} (h : q_W L d mi x Q (pc + 3) ls (.int (if w < v then w else v) :: st) μ uc us) : q_W L d mi x Q pc ls (.int w :: .int v :: st) μ uc us := by
  refine q_one hc rfl ?_
  dsimp only [q_eff]
  rw [show q_mr x.2.2.2.2.1 idx = _ from hf]
  simp only
  rw [hct]
  exact h
theorem q_oi (hc : q_xC x pc = some (.invokespecial idx)) (hf : q_mr (q_xO x) idx = some (0, 1, 3)) (hct : Nat.ble (q_cat st) 8 = true) {μ : q_M} (h : q_W L d mi x Q (pc + 3) ls st μ uc us) : q_W L d mi x Q pc ls (.ref a :: st) μ uc us := by
  refine q_one hc rfl ?_
  dsimp only [q_eff]
  rw [show q_mr x.2.2.2.2.1 idx = _ from hf]
  simp only
  rw [hct]
  exact h
theorem q_cv {mj na : Nat} {as rs st0 : List Value} {μ : q_M} (hc : q_xC x pc = some (.invokevirtual idx)) (hf : q_mr (q_xO x) idx = some (mj, na, 0)) (hs : q_spl na [] st0 = some (.ref b :: as, rs)) (ho : q_ob μ.1 b (q_mc mj)) (hct : Nat.ble (q_cat rs) 8 = true) (hal : q_al mj = none)
    (h : q_Ex L d mj (.ref b :: as) μ (fun r μ' => q_W L d mi x Q (pc + 3) ls (r.toList ++ rs) μ' uc us)) : q_W L d mi x Q pc ls st0 μ uc us := by
  refine q_one hc rfl ?_
  dsimp only [q_eff]
  rw [show q_mr x.2.2.2.2.1 idx = _ from hf]
  simp only
  rw [hs]
  refine ⟨ho, ?_⟩
  show q_do x.2.2.2.2.1 ((q_al mi).getD (0, 0)) (q_Ex L d) (q_W L d mi x Q) pc mj (.ref b :: as) rs ls μ uc us
  unfold q_do
  rw [hct]
  simp only
  rw [hal]
  exact h
theorem q_cvA {mj na ac ax : Nat} {as rs st0 : List Value} {μ : q_M} (hc : q_xC x pc = some (.invokevirtual idx)) (hf : q_mr (q_xO x) idx = some (mj, na, 0)) (hs : q_spl na [] st0 = some (.ref b :: as, rs)) (ho : q_ob μ.1 b (q_mc mj)) (hct : Nat.ble (q_cat rs) 8 = true) (hal : q_al mj = some (ac, ax)) (hcap : uc + ac ≤ ((q_al mi).getD (0, 0)).1 ∧ us + ax ≤ ((q_al mi).getD (0, 0)).2)
    (h : q_Ex L d mj (.ref b :: as) μ (fun r μ' => q_W L d mi x Q (pc + 3) ls (r.toList ++ rs) μ' (uc + ac) (us + ax))) : q_W L d mi x Q pc ls st0 μ uc us := by
  refine q_one hc rfl ?_
  dsimp only [q_eff]
  rw [show q_mr x.2.2.2.2.1 idx = _ from hf]
  simp only
  rw [hs]
  refine ⟨ho, ?_⟩
  show q_do x.2.2.2.2.1 ((q_al mi).getD (0, 0)) (q_Ex L d) (q_W L d mi x Q) pc mj (.ref b :: as) rs ls μ uc us
  unfold q_do
  rw [hct]
  simp only
  rw [hal]
  exact ⟨hcap, h⟩
theorem q_ci1 {mj na : Nat} {as rs st0 : List Value} {μ : q_M} (hc : q_xC x pc = some (.invokespecial idx)) (hf : q_mr (q_xO x) idx = some (mj, na, 1)) (hs : q_spl na [] st0 = some (.ref b :: as, rs)) (hct : Nat.ble (q_cat rs) 8 = true) (hal : q_al mj = none)
    (h : q_Ex L d mj (.ref b :: as) μ (fun r μ' => q_W L d mi x Q (pc + 3) ls (r.toList ++ rs) μ' uc us)) : q_W L d mi x Q pc ls st0 μ uc us := by
  refine q_one hc rfl ?_
  dsimp only [q_eff]
  rw [show q_mr x.2.2.2.2.1 idx = _ from hf]
  simp only
  rw [hs]
  refine ?_
  show q_do x.2.2.2.2.1 ((q_al mi).getD (0, 0)) (q_Ex L d) (q_W L d mi x Q) pc mj (.ref b :: as) rs ls μ uc us
  unfold q_do
  rw [hct]
  simp only
  rw [hal]
  exact h
theorem q_ci1A {mj na ac ax : Nat} {as rs st0 : List Value} {μ : q_M} (hc : q_xC x pc = some (.invokespecial idx)) (hf : q_mr (q_xO x) idx = some (mj, na, 1)) (hs : q_spl na [] st0 = some (.ref b :: as, rs)) (hct : Nat.ble (q_cat rs) 8 = true) (hal : q_al mj = some (ac, ax)) (hcap : uc + ac ≤ ((q_al mi).getD (0, 0)).1 ∧ us + ax ≤ ((q_al mi).getD (0, 0)).2)
    (h : q_Ex L d mj (.ref b :: as) μ (fun r μ' => q_W L d mi x Q (pc + 3) ls (r.toList ++ rs) μ' (uc + ac) (us + ax))) : q_W L d mi x Q pc ls st0 μ uc us := by
  refine q_one hc rfl ?_
  dsimp only [q_eff]
  rw [show q_mr x.2.2.2.2.1 idx = _ from hf]
  simp only
  rw [hs]
  refine ?_
  show q_do x.2.2.2.2.1 ((q_al mi).getD (0, 0)) (q_Ex L d) (q_W L d mi x Q) pc mj (.ref b :: as) rs ls μ uc us
  unfold q_do
  rw [hct]
  simp only
  rw [hal]
  exact ⟨hcap, h⟩
theorem q_cs {mj na : Nat} {as rs st0 : List Value} {μ : q_M} (hc : q_xC x pc = some (.invokestatic idx)) (hf : q_mr (q_xO x) idx = some (mj, na, 2)) (hs : q_spl na [] st0 = some (as, rs)) (hct : Nat.ble (q_cat rs) 8 = true) (hal : q_al mj = none)
    (h : q_Ex L d mj (as) μ (fun r μ' => q_W L d mi x Q (pc + 3) ls (r.toList ++ rs) μ' uc us)) : q_W L d mi x Q pc ls st0 μ uc us := by
  refine q_one hc rfl ?_
  dsimp only [q_eff]
  rw [show q_mr x.2.2.2.2.1 idx = _ from hf]
  simp only
  rw [hs]
  refine ?_
  show q_do x.2.2.2.2.1 ((q_al mi).getD (0, 0)) (q_Ex L d) (q_W L d mi x Q) pc mj (as) rs ls μ uc us
  unfold q_do
  rw [hct]
  simp only
  rw [hal]
  exact h
theorem q_csA {mj na ac ax : Nat} {as rs st0 : List Value} {μ : q_M} (hc : q_xC x pc = some (.invokestatic idx)) (hf : q_mr (q_xO x) idx = some (mj, na, 2)) (hs : q_spl na [] st0 = some (as, rs)) (hct : Nat.ble (q_cat rs) 8 = true) (hal : q_al mj = some (ac, ax)) (hcap : uc + ac ≤ ((q_al mi).getD (0, 0)).1 ∧ us + ax ≤ ((q_al mi).getD (0, 0)).2)
    (h : q_Ex L d mj (as) μ (fun r μ' => q_W L d mi x Q (pc + 3) ls (r.toList ++ rs) μ' (uc + ac) (us + ax))) : q_W L d mi x Q pc ls st0 μ uc us := by
  refine q_one hc rfl ?_
  dsimp only [q_eff]
  rw [show q_mr x.2.2.2.2.1 idx = _ from hf]
  simp only
  rw [hs]
  refine ?_
  show q_do x.2.2.2.2.1 ((q_al mi).getD (0, 0)) (q_Ex L d) (q_W L d mi x Q) pc mj (as) rs ls μ uc us
  unfold q_do
  rw [hct]
  simp only
  rw [hal]
  exact ⟨hcap, h⟩
end QStep
end
section
def q_yy (mi : Nat) : MethodName := match q_tab[mi]? with
  | some x => x.1
  | none => ⟨"", "", ""⟩
def q_my (e : Nat × Nat × Nat) : MethodName := match e.2.2 with
  | 3 => Lib.objectInit
  | 4 => arraycopyName
  | 5 => Lib.Math.min.name
  | _ => q_yy e.1
def q_vt : List Nat := [1, 2, 3, 4, 5, 7, 8, 10, 11, 12, 13, 16, 17, 18, 19, 20, 21, 22, 23, 24, 26, 27, 28, 29, 31, 32, 33, 34, 35, 36, 38, 39, 40, 41, 43, 44, 45, 46, 47, 48, 49, 50, 51, 52, 53, 54, 55, 56, 57, 58, 59, 60, 61, 62, 63, 64, 65, 66, 67, 68, 69, 70, 71, 72, 81, 83, 84, 85, 86, 88, 89, 90, 91, 92, 93, 94, 95, 96, 97, 98, 99, 100, 101, 102, 103, 104, 105, 106, 107, 108, 109, 110, 111, 112, 113, 114, 116, 117, 118, 119, 120, 121, 122, 123, 124, 125, 126, 127, 128, 129, 130]
def q_iT : List Nat := [0, 6, 9, 15, 25, 30, 37, 42, 78]
def q_sT : List Nat := [14, 73, 74, 75, 76, 77, 79, 80, 82, 87, 115]
def q_wC : List Cond := q_tab.map fun x => .code x.1 x.2.1 x.2.2.1 x.2.2.2.1
def q_wV : List Cond := q_vt.map fun mi => .instanceMethod (q_yy mi)
def q_wS : List Cond := q_vt.map fun mi => .selects (q_cn (q_mc mi)) (q_yy mi) (q_yy mi)
def q_wN : List Cond := q_iT.map fun mi => .instanceMethod (q_yy mi)
def q_wT : List Cond := q_sT.map fun mi => .static (q_yy mi)
def q_wK : List Cond := (List.range 9).map fun ci => .instantiable (q_cn ci) (q_nf ci)
def q_wI : List Cond := (List.range 10).map fun ci => .initialized (q_cn ci)
def q_wL : List Cond := (List.range 9).flatMap fun ci => u_ws (q_cn ci) (q_F ci) (q_nf ci)
def q_wF : List Cond := (List.range 10).flatMap fun w => (q_frT w).map fun e => .fieldLink (q_cn w) e.1 (q_F e.2.1.1 e.2.1.2.1).1 (q_F e.2.1.1 e.2.1.2.1).2.1 (q_F e.2.1.1 e.2.1.2.1).2.2.1
def q_wR : List Cond := (List.range 10).flatMap fun w => (q_crT w).map fun e => .classLink (q_cn w) e.1 (q_cn e.2.1)
def q_wc : List Cond := (List.range 10).flatMap fun w => (q_ciT w).map fun e => .constant (q_cn w) e.1 e.2.1
def q_wl : List Cond := (List.range 10).flatMap fun w => (q_clT w).map fun e => .constantLong (q_cn w) e.1 e.2.1
def q_wM : List Cond := (List.range 10).flatMap fun w => (q_mrT w).filterMap fun e => bif e.2.2.1 then none else some (.methodLink (q_cn w) e.1 (q_my e.2.1))
def q_wO : List Cond := (List.range 10).flatMap fun w => (q_srT w).filterMap fun e => bif e.2.2.1 then none else some (.fieldLink (q_cn w) e.1 "RatchetPost" (q_sn e.2.1) "[I")
def q_wX : List Cond := [.instanceMethod Lib.objectInit, .code Lib.objectInit ⟨#[0xb1]⟩ 1 none, .native arraycopyName, .static arraycopyName, .initialized "java/lang/System", .static Lib.Math.min.name, .initialized "java/lang/Math", .code Lib.Math.min.name Lib.Math.min.code 2 (some .int), .arrayClass .int, .arrayClass .long, .arrayClass .boolean, .classLink "RatchetPost" 28 "[[J"]
/-- the words that a contract may take along -/
def q_good : List Cond := q_wC ++ (q_wV ++ (q_wS ++ (q_wN ++ (q_wT ++ (q_wK ++ (q_wI ++ (q_wL ++ (q_wF ++ (q_wR ++ (q_wc ++ (q_wl ++ (q_wM ++ (q_wO ++ q_wX)))))))))))))
def q_nestF : List (String × Nat × String × String × String × String) := (List.range 10).flatMap fun w => (q_srT w).filterMap fun e => bif e.2.2.1 then some (q_cn w, e.1, "RatchetPost", q_sn e.2.1, "[I", "RatchetPost") else none
def q_nestM : List (String × Nat × MethodName × String) := (List.range 10).flatMap fun w => (q_mrT w).filterMap fun e => bif e.2.2.1 then some (q_cn w, e.1, q_my e.2.1, "RatchetPost") else none
set_option maxRecDepth 100000 in
theorem q_good_w : q_good.all goodWord = true := by decide +kernel
theorem q_at_in {ws : List Cond} (ps : List Nat) (h : ws = ps.filterMap (fun i => lw_tbl[i]?)) : ∀ w ∈ ws, w ∈ lw_tbl := by
  intro w hw
  rw [h] at hw
  obtain ⟨i, -, hi⟩ := List.mem_filterMap.mp hw
  exact List.mem_of_getElem? hi
set_option maxRecDepth 100000 in
set_option maxHeartbeats 4000000 in
theorem q_wC_in : ∀ w ∈ q_wC, w ∈ lw_tbl := q_at_in [71, 359, 355, 494, 490, 368, 100, 402, 460, 213, 433, 417, 438, 381, 441, 204, 341, 351, 398, 377, 410, 600, 617, 604, 608, 117, 549, 575, 558, 562, 94, 451, 543, 486, 466, 579, 570, 290, 476, 584, 588, 592, 63, 337, 389, 406, 421, 425, 482, 505, 517, 522, 625, 629, 634, 638, 642, 646, 652, 393, 429, 513, 509, 472, 526, 539, 621, 596, 455, 613, 554, 566, 499, 529, 534, 347, 344, 372, 657, 746, 743, 739, 766, 763, 755, 837, 786, 773, 770, 751, 804, 820, 782, 795, 791, 778, 800, 808, 812, 824, 861, 853, 849, 845, 829, 841, 865, 833, 816, 873, 869, 857, 881, 877, 885, 897, 893, 889, 904, 932, 908, 916, 912, 928, 924, 920, 936, 940, 945, 949, 953] rfl
set_option maxRecDepth 100000 in
set_option maxHeartbeats 4000000 in
theorem q_wV_in : ∀ w ∈ q_wV, w ∈ lw_tbl := q_at_in [357, 353, 492, 488, 367, 400, 458, 431, 415, 436, 379, 339, 349, 396, 376, 408, 598, 615, 602, 606, 547, 573, 556, 560, 449, 541, 484, 464, 577, 568, 474, 582, 586, 590, 335, 387, 404, 419, 423, 480, 503, 515, 520, 623, 627, 632, 636, 640, 644, 650, 392, 428, 512, 508, 471, 525, 538, 620, 595, 454, 612, 553, 565, 498, 737, 762, 754, 836, 785, 769, 749, 803, 819, 781, 794, 790, 776, 798, 806, 810, 823, 860, 852, 848, 844, 828, 840, 864, 832, 814, 872, 868, 855, 880, 875, 883, 892, 887, 903, 931, 907, 915, 911, 927, 923, 919, 934, 938, 943, 947, 951] rfl
set_option maxRecDepth 100000 in
set_option maxHeartbeats 4000000 in
theorem q_wS_in : ∀ w ∈ q_wS, w ∈ lw_tbl := q_at_in [358, 354, 493, 489, 0, 401, 459, 432, 416, 437, 380, 340, 350, 397, 1, 409, 599, 616, 603, 607, 548, 574, 557, 561, 450, 542, 485, 465, 578, 569, 475, 583, 587, 591, 336, 388, 405, 420, 424, 481, 504, 516, 521, 624, 628, 633, 637, 641, 645, 651, 2, 3, 8, 7, 5, 9, 10, 15, 13, 4, 14, 11, 12, 6, 738, 17, 16, 28, 20, 18, 750, 23, 24, 19, 22, 21, 777, 799, 807, 811, 25, 33, 32, 31, 30, 26, 29, 34, 27, 815, 36, 35, 856, 37, 876, 884, 38, 888, 39, 46, 40, 42, 41, 45, 44, 43, 935, 939, 944, 948, 952] rfl
set_option maxRecDepth 100000 in
set_option maxHeartbeats 4000000 in
theorem q_wN_in : ∀ w ∈ q_wN, w ∈ lw_tbl := q_at_in [70, 99, 212, 203, 116, 93, 289, 62, 656] rfl
set_option maxRecDepth 100000 in
set_option maxHeartbeats 4000000 in
theorem q_wT_in : ∀ w ∈ q_wT, w ∈ lw_tbl := q_at_in [440, 528, 533, 346, 343, 371, 745, 742, 765, 772, 896] rfl
set_option maxRecDepth 100000 in
set_option maxHeartbeats 4000000 in
theorem q_wK_in : ∀ w ∈ q_wK, w ∈ lw_tbl := q_at_in [68, 97, 210, 201, 114, 91, 287, 60, 654] rfl
set_option maxRecDepth 100000 in
set_option maxHeartbeats 4000000 in
theorem q_wI_in : ∀ w ∈ q_wI, w ∈ lw_tbl := q_at_in [49, 51, 54, 53, 52, 50, 55, 48, 56, 47] rfl
set_option maxRecDepth 100000 in
set_option maxHeartbeats 4000000 in
theorem q_wL_in : ∀ w ∈ q_wL, w ∈ lw_tbl := q_at_in [76, 78, 80, 107, 109, 231, 233, 235, 237, 239, 241, 264, 266, 268, 270, 272, 274, 276, 278, 280, 282, 284, 125, 127, 129, 131, 166, 168, 170, 172, 174, 176, 178, 180, 182, 184, 186, 188, 190, 192, 194, 196, 298, 300, 313, 315, 317, 319, 321, 323, 325, 327, 329, 331, 684, 686, 688, 690, 692, 694, 696, 698, 700, 702, 704, 706, 708, 710, 712, 714, 716, 718, 720, 722, 724, 726, 728, 730, 732] rfl
set_option maxRecDepth 100000 in
set_option maxHeartbeats 4000000 in
theorem q_wF_in : ∀ w ∈ q_wF, w ∈ lw_tbl := q_at_in [73, 74, 75, 102, 104, 215, 218, 221, 224, 227, 228, 244, 246, 248, 250, 252, 254, 256, 258, 260, 262, 263, 103, 105, 216, 219, 222, 225, 229, 119, 122, 123, 124, 134, 137, 139, 141, 143, 145, 147, 149, 151, 153, 155, 157, 159, 161, 163, 165, 120, 294, 296, 135, 303, 304, 305, 306, 307, 308, 309, 310, 311, 312, 245, 261, 217, 220, 223, 226, 106, 136, 158, 162, 164, 249, 140, 142, 144, 297, 295, 150, 154, 251, 255, 253, 247, 259, 230, 152, 156, 121, 138, 257, 148, 146, 160, 659, 660, 661, 662, 663, 664, 665, 666, 667, 668, 669, 670, 671, 672, 673, 674, 677, 678, 679, 680, 681, 682, 683, 675, 676] rfl
set_option maxRecDepth 100000 in
set_option maxHeartbeats 4000000 in
theorem q_wR_in : ∀ w ∈ q_wR, w ∈ lw_tbl := q_at_in [206, 209, 96, 113, 292, 67, 84, 86, 90, 199, 59, 653] rfl
set_option maxRecDepth 100000 in
set_option maxHeartbeats 4000000 in
theorem q_wc_in : ∀ w ∈ q_wc, w ∈ lw_tbl := q_at_in [443, 442, 369, 647, 740, 756, 757, 758, 759, 787, 825] rfl
set_option maxRecDepth 100000 in
set_option maxHeartbeats 4000000 in
theorem q_wl_in : ∀ w ∈ q_wl, w ∈ lw_tbl := q_at_in [495, 446, 385, 630, 394, 530, 531, 535, 373, 747, 774, 796, 894, 898, 899, 900, 941, 954] rfl
set_option maxRecDepth 100000 in
set_option maxHeartbeats 4000000 in
theorem q_wM_in : ∀ w ∈ q_wM, w ∈ lw_tbl := q_at_in [72, 362, 365, 356, 101, 214, 434, 439, 444, 384, 205, 348, 374, 352, 399, 378, 411, 414, 118, 550, 95, 544, 545, 546, 467, 468, 580, 571, 572, 291, 478, 64, 202, 338, 390, 395, 407, 426, 430, 435, 447, 448, 452, 463, 469, 473, 483, 487, 491, 496, 506, 510, 518, 523, 536, 589, 593, 618, 648, 500, 501, 527, 532, 540, 551, 581, 585, 597, 601, 605, 609, 457, 610, 614, 462, 555, 559, 563, 567, 576, 658, 744, 741, 764, 760, 771, 752, 767, 801, 783, 779, 792, 788, 850, 846, 834, 817, 821, 826, 830, 838, 842, 858, 862, 866, 870, 878, 895, 890, 901, 905, 929, 909, 913, 917, 921, 925, 61, 655, 334, 775, 386, 797, 403, 805, 418, 809, 422, 813, 479, 854, 502, 874, 514, 882, 519, 886, 622, 933, 626, 937, 631, 942, 635, 946, 639, 950, 643, 736, 649, 748] rfl
set_option maxRecDepth 100000 in
set_option maxHeartbeats 4000000 in
theorem q_wO_in : ∀ w ∈ q_wO, w ∈ lw_tbl := q_at_in [456] rfl
set_option maxRecDepth 100000 in
set_option maxHeartbeats 4000000 in
theorem q_wX_in : ∀ w ∈ q_wX, w ∈ lw_tbl := q_at_in [65, 66, 364, 363, 57, 412, 58, 413, 83, 112, 735, 88] rfl
set_option maxRecDepth 100000 in
theorem q_nestF_in : ∀ w ∈ q_nestF, Cond.fieldLinkNest w.1 w.2.1 w.2.2.1 w.2.2.2.1 w.2.2.2.2.1 w.2.2.2.2.2 ∈ lw_tbl := fun w hw => q_at_in [360, 382] (ws := q_nestF.map fun w => Cond.fieldLinkNest w.1 w.2.1 w.2.2.1 w.2.2.2.1 w.2.2.2.2.1 w.2.2.2.2.2) rfl _ (List.mem_map.mpr ⟨w, hw, rfl⟩)
set_option maxRecDepth 100000 in
theorem q_nestM_in : ∀ w ∈ q_nestM, Cond.methodLinkNest w.1 w.2.1 w.2.2.1 w.2.2.2 ∈ lw_tbl := fun w hw => q_at_in [461, 445, 207, 211, 342, 345, 370, 98, 115, 477, 69, 92, 200, 288] (ws := q_nestM.map fun w => Cond.methodLinkNest w.1 w.2.1 w.2.2.1 w.2.2.2) rfl _ (List.mem_map.mpr ⟨w, hw, rfl⟩)
theorem q_good_in : ∀ w ∈ q_good, w ∈ lw_tbl := by
  intro w hw
  unfold q_good at hw
  simp only [List.mem_append] at hw
  rcases hw with h | h | h | h | h | h | h | h | h | h | h | h | h | h | h
  · exact q_wC_in w h
  · exact q_wV_in w h
  · exact q_wS_in w h
  · exact q_wN_in w h
  · exact q_wT_in w h
  · exact q_wK_in w h
  · exact q_wI_in w h
  · exact q_wL_in w h
  · exact q_wF_in w h
  · exact q_wR_in w h
  · exact q_wc_in w h
  · exact q_wl_in w h
  · exact q_wM_in w h
  · exact q_wO_in w h
  · exact q_wX_in w h
theorem q_i1 {w : Cond} (h : w ∈ q_wC) : w ∈ q_good := List.mem_append.mpr (Or.inl h)
theorem q_i2 {w : Cond} (h : w ∈ q_wV ++ (q_wS ++ (q_wN ++ (q_wT ++ (q_wK ++ (q_wI ++ (q_wL ++ (q_wF ++ (q_wR ++ (q_wc ++ (q_wl ++ (q_wM ++ (q_wO ++ q_wX))))))))))))) : w ∈ q_good := List.mem_append.mpr (Or.inr h)
theorem q_wV_g {w : Cond} (h : w ∈ q_wV) : w ∈ q_good := q_i2 (List.mem_append.mpr (Or.inl h))
theorem q_wS_g {w : Cond} (h : w ∈ q_wS) : w ∈ q_good := q_i2 (List.mem_append.mpr (Or.inr (List.mem_append.mpr (Or.inl h))))
theorem q_wN_g {w : Cond} (h : w ∈ q_wN) : w ∈ q_good := q_i2 (List.mem_append.mpr (Or.inr (List.mem_append.mpr (Or.inr (List.mem_append.mpr (Or.inl h))))))
theorem q_wT_g {w : Cond} (h : w ∈ q_wT) : w ∈ q_good := q_i2 (List.mem_append.mpr (Or.inr (List.mem_append.mpr (Or.inr (List.mem_append.mpr (Or.inr (List.mem_append.mpr (Or.inl h))))))))
theorem q_wK_g {w : Cond} (h : w ∈ q_wK) : w ∈ q_good := q_i2 (List.mem_append.mpr (Or.inr (List.mem_append.mpr (Or.inr (List.mem_append.mpr (Or.inr (List.mem_append.mpr (Or.inr (List.mem_append.mpr (Or.inl h))))))))))
theorem q_wI_g {w : Cond} (h : w ∈ q_wI) : w ∈ q_good := q_i2 (List.mem_append.mpr (Or.inr (List.mem_append.mpr (Or.inr (List.mem_append.mpr (Or.inr (List.mem_append.mpr (Or.inr (List.mem_append.mpr (Or.inr (List.mem_append.mpr (Or.inl h))))))))))))
theorem q_wL_g {w : Cond} (h : w ∈ q_wL) : w ∈ q_good := q_i2 (List.mem_append.mpr (Or.inr (List.mem_append.mpr (Or.inr (List.mem_append.mpr (Or.inr (List.mem_append.mpr (Or.inr (List.mem_append.mpr (Or.inr (List.mem_append.mpr (Or.inr (List.mem_append.mpr (Or.inl h))))))))))))))
theorem q_wF_g {w : Cond} (h : w ∈ q_wF) : w ∈ q_good := q_i2 (List.mem_append.mpr (Or.inr (List.mem_append.mpr (Or.inr (List.mem_append.mpr (Or.inr (List.mem_append.mpr (Or.inr (List.mem_append.mpr (Or.inr (List.mem_append.mpr (Or.inr (List.mem_append.mpr (Or.inr (List.mem_append.mpr (Or.inl h))))))))))))))))
theorem q_wR_g {w : Cond} (h : w ∈ q_wR) : w ∈ q_good := q_i2 (List.mem_append.mpr (Or.inr (List.mem_append.mpr (Or.inr (List.mem_append.mpr (Or.inr (List.mem_append.mpr (Or.inr (List.mem_append.mpr (Or.inr (List.mem_append.mpr (Or.inr (List.mem_append.mpr (Or.inr (List.mem_append.mpr (Or.inr (List.mem_append.mpr (Or.inl h))))))))))))))))))
theorem q_wc_g {w : Cond} (h : w ∈ q_wc) : w ∈ q_good := q_i2 (List.mem_append.mpr (Or.inr (List.mem_append.mpr (Or.inr (List.mem_append.mpr (Or.inr (List.mem_append.mpr (Or.inr (List.mem_append.mpr (Or.inr (List.mem_append.mpr (Or.inr (List.mem_append.mpr (Or.inr (List.mem_append.mpr (Or.inr (List.mem_append.mpr (Or.inr (List.mem_append.mpr (Or.inl h))))))))))))))))))))
theorem q_wl_g {w : Cond} (h : w ∈ q_wl) : w ∈ q_good := q_i2 (List.mem_append.mpr (Or.inr (List.mem_append.mpr (Or.inr (List.mem_append.mpr (Or.inr (List.mem_append.mpr (Or.inr (List.mem_append.mpr (Or.inr (List.mem_append.mpr (Or.inr (List.mem_append.mpr (Or.inr (List.mem_append.mpr (Or.inr (List.mem_append.mpr (Or.inr (List.mem_append.mpr (Or.inr (List.mem_append.mpr (Or.inl h))))))))))))))))))))))
theorem q_wM_g {w : Cond} (h : w ∈ q_wM) : w ∈ q_good := q_i2 (List.mem_append.mpr (Or.inr (List.mem_append.mpr (Or.inr (List.mem_append.mpr (Or.inr (List.mem_append.mpr (Or.inr (List.mem_append.mpr (Or.inr (List.mem_append.mpr (Or.inr (List.mem_append.mpr (Or.inr (List.mem_append.mpr (Or.inr (List.mem_append.mpr (Or.inr (List.mem_append.mpr (Or.inr (List.mem_append.mpr (Or.inr (List.mem_append.mpr (Or.inl h))))))))))))))))))))))))
theorem q_wO_g {w : Cond} (h : w ∈ q_wO) : w ∈ q_good := q_i2 (List.mem_append.mpr (Or.inr (List.mem_append.mpr (Or.inr (List.mem_append.mpr (Or.inr (List.mem_append.mpr (Or.inr (List.mem_append.mpr (Or.inr (List.mem_append.mpr (Or.inr (List.mem_append.mpr (Or.inr (List.mem_append.mpr (Or.inr (List.mem_append.mpr (Or.inr (List.mem_append.mpr (Or.inr (List.mem_append.mpr (Or.inr (List.mem_append.mpr (Or.inr (List.mem_append.mpr (Or.inl h))))))))))))))))))))))))))
theorem q_wX_g {w : Cond} (h : w ∈ q_wX) : w ∈ q_good := q_i2 (List.mem_append.mpr (Or.inr (List.mem_append.mpr (Or.inr (List.mem_append.mpr (Or.inr (List.mem_append.mpr (Or.inr (List.mem_append.mpr (Or.inr (List.mem_append.mpr (Or.inr (List.mem_append.mpr (Or.inr (List.mem_append.mpr (Or.inr (List.mem_append.mpr (Or.inr (List.mem_append.mpr (Or.inr (List.mem_append.mpr (Or.inr (List.mem_append.mpr (Or.inr (List.mem_append.mpr (Or.inr (h)))))))))))))))))))))))))))
theorem q_ciT_lt {w : Nat} {e : Nat × Int32 × Nat} (h : e ∈ q_ciT w) : w ∈ List.range 10 := by
  rcases Nat.lt_or_ge w 10 with h1 | h1
  · exact List.mem_range.mpr h1
  · obtain ⟨k, rfl⟩ : ∃ k, w = k + 10 := ⟨w - 10, by omega⟩
    have h : e ∈ ([] : List (Nat × Int32 × Nat)) := h
    cases h
theorem q_clT_lt {w : Nat} {e : Nat × Int64 × Nat} (h : e ∈ q_clT w) : w ∈ List.range 10 := by
  rcases Nat.lt_or_ge w 10 with h1 | h1
  · exact List.mem_range.mpr h1
  · obtain ⟨k, rfl⟩ : ∃ k, w = k + 10 := ⟨w - 10, by omega⟩
    have h : e ∈ ([] : List (Nat × Int64 × Nat)) := h
    cases h
theorem q_srT_lt {w : Nat} {e : Nat × Nat × Bool × Nat} (h : e ∈ q_srT w) : w ∈ List.range 10 := by
  rcases Nat.lt_or_ge w 10 with h1 | h1
  · exact List.mem_range.mpr h1
  · obtain ⟨k, rfl⟩ : ∃ k, w = k + 10 := ⟨w - 10, by omega⟩
    have h : e ∈ ([] : List (Nat × Nat × Bool × Nat)) := h
    cases h
theorem q_frT_lt {w : Nat} {e : Nat × (Nat × Nat × Nat × Bool) × Bool × Nat} (h : e ∈ q_frT w) : w ∈ List.range 10 := by
  rcases Nat.lt_or_ge w 10 with h1 | h1
  · exact List.mem_range.mpr h1
  · obtain ⟨k, rfl⟩ : ∃ k, w = k + 10 := ⟨w - 10, by omega⟩
    have h : e ∈ ([] : List (Nat × (Nat × Nat × Nat × Bool) × Bool × Nat)) := h
    cases h
theorem q_crT_lt {w : Nat} {e : Nat × Nat × Nat} (h : e ∈ q_crT w) : w ∈ List.range 10 := by
  rcases Nat.lt_or_ge w 10 with h1 | h1
  · exact List.mem_range.mpr h1
  · obtain ⟨k, rfl⟩ : ∃ k, w = k + 10 := ⟨w - 10, by omega⟩
    have h : e ∈ ([] : List (Nat × Nat × Nat)) := h
    cases h
theorem q_mrT_lt {w : Nat} {e : Nat × (Nat × Nat × Nat) × Bool × Nat} (h : e ∈ q_mrT w) : w ∈ List.range 10 := by
  rcases Nat.lt_or_ge w 10 with h1 | h1
  · exact List.mem_range.mpr h1
  · obtain ⟨k, rfl⟩ : ∃ k, w = k + 10 := ⟨w - 10, by omega⟩
    have h : e ∈ ([] : List (Nat × (Nat × Nat × Nat) × Bool × Nat)) := h
    cases h
theorem q_ci_ok {own x : Nat} {v : Int32} (h : q_ci own x = some v) : Cond.constant (q_cn own) x v ∈ q_good := by
  obtain ⟨w, hw⟩ := q_look_mem _ _ _ h
  exact q_wc_g (List.mem_flatMap.mpr ⟨own, q_ciT_lt hw, List.mem_map.mpr ⟨_, hw, rfl⟩⟩)
theorem q_cl_ok {own x : Nat} {v : Int64} (h : q_cl own x = some v) : Cond.constantLong (q_cn own) x v ∈ q_good := by
  obtain ⟨w, hw⟩ := q_look_mem _ _ _ h
  exact q_wl_g (List.mem_flatMap.mpr ⟨own, q_clT_lt hw, List.mem_map.mpr ⟨_, hw, rfl⟩⟩)
theorem q_sr_all : (List.range 10).all (fun w => (q_srT w).all fun e => decide (e.2.1 < 2)) = true := by decide +kernel
theorem q_sr_ok {own x a : Nat} (h : q_sr own x = some a) : a < 2 ∧ (Cond.fieldLink (q_cn own) x "RatchetPost" (q_sn a) "[I" ∈ q_good ∨ ∃ host, (q_cn own, x, "RatchetPost", q_sn a, "[I", host) ∈ q_nestF) := by
  obtain ⟨w, hw⟩ := q_look_mem _ _ _ h
  refine ⟨of_decide_eq_true (List.all_eq_true.mp (List.all_eq_true.mp q_sr_all own (q_srT_lt hw)) _ hw), ?_⟩
  obtain ⟨nb, lp⟩ := w
  cases nb with
  | false => exact Or.inl (q_wO_g (List.mem_flatMap.mpr ⟨own, q_srT_lt hw, List.mem_filterMap.mpr ⟨_, hw, rfl⟩⟩))
  | true => exact Or.inr ⟨"RatchetPost", List.mem_flatMap.mpr ⟨own, q_srT_lt hw, List.mem_filterMap.mpr ⟨_, hw, rfl⟩⟩⟩
theorem q_fr_all : (List.range 10).all (fun w => (q_frT w).all fun e => decide (e.2.1.1 < 9) && decide (e.2.1.2.1 < q_nf e.2.1.1) && decide (q_ft e.2.1.1 e.2.1.2.1 = e.2.1.2.2.1) && decide ((q_F e.2.1.1 e.2.1.2.1).2.2.2 = e.2.1.2.2.2)) = true := by decide +kernel
theorem q_fr_ok {own x ci k ty : Nat} {fin : Bool} (h : q_fr own x = some (ci, k, ty, fin)) : ci < 9 ∧ k < q_nf ci ∧ q_ft ci k = ty ∧ (q_F ci k).2.2.2 = fin ∧ (Cond.fieldLink (q_cn own) x (q_F ci k).1 (q_F ci k).2.1 (q_F ci k).2.2.1 ∈ q_good ∨ ∃ host, (q_cn own, x, (q_F ci k).1, (q_F ci k).2.1, (q_F ci k).2.2.1, host) ∈ q_nestF ∧ fin = false) := by
  obtain ⟨w, hw⟩ := q_look_mem _ _ _ h
  have h1 := List.all_eq_true.mp (List.all_eq_true.mp q_fr_all own (q_frT_lt hw)) _ hw
  simp only [Bool.and_eq_true, decide_eq_true_eq] at h1
  exact ⟨h1.1.1.1, h1.1.1.2, h1.1.2, h1.2, Or.inl (q_wF_g (List.mem_flatMap.mpr ⟨own, q_frT_lt hw, List.mem_map.mpr ⟨_, hw, rfl⟩⟩))⟩
theorem q_cr_all : (List.range 10).all (fun w => (q_crT w).all fun e => decide (e.2.1 < 9)) = true := by decide +kernel
theorem q_cr_ok {own x ci : Nat} (h : q_cr own x = some ci) : ci < 9 ∧ Cond.classLink (q_cn own) x (q_cn ci) ∈ q_good := by
  obtain ⟨w, hw⟩ := q_look_mem _ _ _ h
  exact ⟨of_decide_eq_true (List.all_eq_true.mp (List.all_eq_true.mp q_cr_all own (q_crT_lt hw)) _ hw), q_wR_g (List.mem_flatMap.mpr ⟨own, q_crT_lt hw, List.mem_map.mpr ⟨_, hw, rfl⟩⟩)⟩
theorem q_cls_ok {ci : Nat} (h : ci < 9) : Cond.instantiable (q_cn ci) (q_nf ci) ∈ q_good ∧ Cond.initialized (q_cn ci) ∈ q_good :=
  ⟨q_wK_g (List.mem_map.mpr ⟨ci, List.mem_range.mpr h, rfl⟩), q_wI_g (List.mem_map.mpr ⟨ci, List.mem_range.mpr (by omega), rfl⟩)⟩
theorem q_F_in {ci : Nat} (h : ci < 9) : ∀ w ∈ u_ws (q_cn ci) (q_F ci) (q_nf ci), w ∈ q_good := fun _ hw => q_wL_g (List.mem_flatMap.mpr ⟨ci, List.mem_range.mpr h, hw⟩)
theorem q_F_all : (List.range 9).all (fun ci => (List.range (q_nf ci)).all fun k => decide (parseFieldDescriptor (q_F ci k).2.2.1 = some (q_fty ci k)) && decide ((q_F ci k).1 = q_cn ci) && decide (defaultValue (q_fty ci k) = (match q_ft ci k with | 0 => .int 0 | 1 => .int 0 | 2 => .long 0 | _ => .null)) && (match q_ft ci k with | 0 => decide (q_fty ci k = .int) | 1 => decide (q_fty ci k = .boolean) | 2 => decide (q_fty ci k = .long) | _ => (q_fty ci k).isReference)) = true := by decide +kernel
theorem q_F_k {ci k : Nat} (h : ci < 9) (hk : k < q_nf ci) : ((decide (parseFieldDescriptor (q_F ci k).2.2.1 = some (q_fty ci k)) && decide ((q_F ci k).1 = q_cn ci) && decide (defaultValue (q_fty ci k) = (match q_ft ci k with | 0 => .int 0 | 1 => .int 0 | 2 => .long 0 | _ => .null))) = true) ∧ (match q_ft ci k with | 0 => decide (q_fty ci k = .int) | 1 => decide (q_fty ci k = .boolean) | 2 => decide (q_fty ci k = .long) | _ => (q_fty ci k).isReference) = true := by
  have h1 := List.all_eq_true.mp (List.all_eq_true.mp q_F_all ci (List.mem_range.mpr h)) k (List.mem_range.mpr hk)
  rw [Bool.and_eq_true] at h1
  exact h1
theorem q_fty_ok {ci k : Nat} (h : ci < 9) (hk : k < q_nf ci) : parseFieldDescriptor (q_F ci k).2.2.1 = some (q_fty ci k) := by
  have h1 := (q_F_k h hk).1
  simp only [Bool.and_eq_true, decide_eq_true_eq] at h1
  exact h1.1.1
theorem q_F_own {ci k : Nat} (h : ci < 9) (hk : k < q_nf ci) : (q_F ci k).1 = q_cn ci := by
  have h1 := (q_F_k h hk).1
  simp only [Bool.and_eq_true, decide_eq_true_eq] at h1
  exact h1.1.2
theorem q_fty_def {ci k : Nat} (h : ci < 9) (hk : k < q_nf ci) : defaultValue (q_fty ci k) = (match q_ft ci k with | 0 => .int 0 | 1 => .int 0 | 2 => .long 0 | _ => .null) := by
  have h1 := (q_F_k h hk).1
  simp only [Bool.and_eq_true, decide_eq_true_eq] at h1
  exact h1.2
theorem q_ty0 {own x ci k : Nat} {fin : Bool} (h : q_fr own x = some (ci, k, 0, fin)) {v : Int32} : narrow (q_fty ci k) (.int v) = .int v ∧ fits (q_fty ci k) (.int v) = true := by
  obtain ⟨h1, h2, h3, -⟩ := q_fr_ok h
  have h4 := (q_F_k h1 h2).2
  rw [h3] at h4
  rw [of_decide_eq_true h4]
  exact ⟨rfl, rfl⟩
theorem q_ty1 {own x ci k : Nat} {fin : Bool} (h : q_fr own x = some (ci, k, 1, fin)) {v : Int32} (hz : v = 0 ∨ v = 1) : narrow (q_fty ci k) (.int v) = .int v ∧ fits (q_fty ci k) (.int v) = true := by
  obtain ⟨h1, h2, h3, -⟩ := q_fr_ok h
  have h4 := (q_F_k h1 h2).2
  rw [h3] at h4
  rw [of_decide_eq_true h4]
  rcases hz with rfl | rfl <;> exact ⟨rfl, rfl⟩
theorem q_ty2 {own x ci k : Nat} {fin : Bool} (h : q_fr own x = some (ci, k, 2, fin)) {v : Int64} : narrow (q_fty ci k) (.long v) = .long v ∧ fits (q_fty ci k) (.long v) = true := by
  obtain ⟨h1, h2, h3, -⟩ := q_fr_ok h
  have h4 := (q_F_k h1 h2).2
  rw [h3] at h4
  rw [of_decide_eq_true h4]
  exact ⟨rfl, rfl⟩
theorem q_ty3 {own x ci k ty : Nat} {fin : Bool} (h : q_fr own x = some (ci, k, ty, fin)) (n0 : ty ≠ 0) (n1 : ty ≠ 1) (n2 : ty ≠ 2) (a : Nat) : narrow (q_fty ci k) (.ref a) = .ref a ∧ fits (q_fty ci k) (.ref a) = true := by
  obtain ⟨h1, h2, h3, -⟩ := q_fr_ok h
  have h4 := (q_F_k h1 h2).2
  rw [h3] at h4
  have h5 : (q_fty ci k).isReference = true := by
    split at h4
    · exact absurd rfl n0
    · exact absurd rfl n1
    · exact absurd rfl n2
    · exact h4
  generalize q_fty ci k = T at h5
  cases T <;> first | exact ⟨rfl, rfl⟩ | cases h5
theorem q_nm_all : (List.range 9).all (fun ci => (List.range (q_nf ci)).all fun a => (List.range (q_nf ci)).all fun b => decide (a = b) || decide ((q_F ci a).2.1 ≠ (q_F ci b).2.1)) = true := by decide +kernel
theorem q_nm {ci a b : Nat} (h : ci < 9) (ha : a < q_nf ci) (hb : b < q_nf ci) (hne : a ≠ b) : (q_F ci a).2.1 ≠ (q_F ci b).2.1 := by
  have h1 := List.all_eq_true.mp (List.all_eq_true.mp (List.all_eq_true.mp q_nm_all ci (List.mem_range.mpr h)) a (List.mem_range.mpr ha)) b (List.mem_range.mpr hb)
  rw [Bool.or_eq_true] at h1
  rcases h1 with h1 | h1
  · exact absurd (of_decide_eq_true h1) hne
  · exact of_decide_eq_true h1
def q_mr_chk (e : Nat × (Nat × Nat × Nat) × Bool × Nat) : Bool := match q_tab[e.2.1.1]? with
  | none => false
  | some y => (match e.2.1.2.2 with
    | 0 => decide (0 < e.2.1.2.1) && decide ((parseMethodDescriptor y.1.desc).map (fun q => q.parameters.length) = some (e.2.1.2.1 - 1)) && q_vt.contains e.2.1.1 && decide (q_mc e.2.1.1 < 9)
    | 1 => decide (0 < e.2.1.2.1) && decide ((parseMethodDescriptor y.1.desc).map (fun q => q.parameters.length) = some (e.2.1.2.1 - 1)) && q_iT.contains e.2.1.1 && decide (y.1.name = "<init>") && decide (y.2.2.2.1 = none)
    | 2 => decide ((parseMethodDescriptor y.1.desc).map (fun q => q.parameters.length) = some e.2.1.2.1) && q_sT.contains e.2.1.1
    | _ => true)
set_option maxRecDepth 100000 in
theorem q_mr_all : (List.range 10).all (fun w => (q_mrT w).all q_mr_chk) = true := by decide +kernel
theorem q_mr_at {own x : Nat} {f : Nat × Nat × Nat} (h : q_mr own x = some f) : ∃ w, (x, f, w) ∈ q_mrT own ∧ q_mr_chk (x, f, w) = true := by
  obtain ⟨w, hw⟩ := q_look_mem _ _ _ h
  exact ⟨w, hw, List.all_eq_true.mp (List.all_eq_true.mp q_mr_all own (q_mrT_lt hw)) _ hw⟩
theorem q_mr_link {own x : Nat} {f : Nat × Nat × Nat} {w : Bool × Nat} (hw : (x, f, w) ∈ q_mrT own) : Cond.methodLink (q_cn own) x (q_my f) ∈ q_good ∨ ∃ host, (q_cn own, x, q_my f, host) ∈ q_nestM := by
  obtain ⟨nb, lp⟩ := w
  cases nb with
  | false => exact Or.inl (q_wM_g (List.mem_flatMap.mpr ⟨own, q_mrT_lt hw, List.mem_filterMap.mpr ⟨_, hw, rfl⟩⟩))
  | true => exact Or.inr ⟨"RatchetPost", List.mem_flatMap.mpr ⟨own, q_mrT_lt hw, List.mem_filterMap.mpr ⟨_, hw, rfl⟩⟩⟩
theorem q_yy_at {mi : Nat} {y : q_MI} (h : q_tab[mi]? = some y) : q_yy mi = y.1 := by unfold q_yy; rw [h]
theorem q_mrV_ok {own x mi na : Nat} (h : q_mr own x = some (mi, na, 0)) : ∃ y, q_tab[mi]? = some y ∧ ∃ np, (parseMethodDescriptor y.1.desc).map (fun q => q.parameters.length) = some np ∧ np + 1 = na ∧ Cond.instanceMethod y.1 ∈ q_good ∧ Cond.selects (q_cn (q_mc mi)) y.1 y.1 ∈ q_good ∧ q_mc mi < 9 ∧ True ∧ (Cond.methodLink (q_cn own) x y.1 ∈ q_good ∨ ∃ host, (q_cn own, x, y.1, host) ∈ q_nestM) := by
  obtain ⟨w, hw, hc⟩ := q_mr_at h
  have hl := q_mr_link hw
  unfold q_mr_chk at hc
  simp only at hc
  cases hy : q_tab[mi]? with
  | none => rw [hy] at hc; cases hc
  | some y =>
    rw [hy] at hc
    simp only [Bool.and_eq_true, decide_eq_true_eq, List.contains_iff_mem] at hc
    obtain ⟨⟨⟨c1, c2⟩, c3⟩, c4⟩ := hc
    have hyy := q_yy_at hy
    refine ⟨y, rfl, na - 1, c2, by omega, ?_, ?_, c4, trivial, ?_⟩
    · rw [← hyy]; exact q_wV_g (List.mem_map.mpr ⟨mi, c3, rfl⟩)
    · rw [← hyy]; exact q_wS_g (List.mem_map.mpr ⟨mi, c3, rfl⟩)
    · rw [← hyy]; exact hl
theorem q_mrI_ok {own x mi na : Nat} (h : q_mr own x = some (mi, na, 1)) : ∃ y, q_tab[mi]? = some y ∧ ∃ np, (parseMethodDescriptor y.1.desc).map (fun q => q.parameters.length) = some np ∧ np + 1 = na ∧ Cond.instanceMethod y.1 ∈ q_good ∧ y.1.name = "<init>" ∧ y.2.2.2.1 = none ∧ (Cond.methodLink (q_cn own) x y.1 ∈ q_good ∨ ∃ host, (q_cn own, x, y.1, host) ∈ q_nestM) := by
  obtain ⟨w, hw, hc⟩ := q_mr_at h
  have hl := q_mr_link hw
  unfold q_mr_chk at hc
  simp only at hc
  cases hy : q_tab[mi]? with
  | none => rw [hy] at hc; cases hc
  | some y =>
    rw [hy] at hc
    simp only [Bool.and_eq_true, decide_eq_true_eq, List.contains_iff_mem] at hc
    obtain ⟨⟨⟨⟨c1, c2⟩, c3⟩, c4⟩, c5⟩ := hc
    have hyy := q_yy_at hy
    refine ⟨y, rfl, na - 1, c2, by omega, ?_, c4, c5, ?_⟩
    · rw [← hyy]; exact q_wN_g (List.mem_map.mpr ⟨mi, c3, rfl⟩)
    · rw [← hyy]; exact hl
theorem q_mrS_ok {own x mi na : Nat} (h : q_mr own x = some (mi, na, 2)) : ∃ y, q_tab[mi]? = some y ∧ ∃ np, (parseMethodDescriptor y.1.desc).map (fun q => q.parameters.length) = some np ∧ np = na ∧ Cond.static y.1 ∈ q_good ∧ (Cond.methodLink (q_cn own) x y.1 ∈ q_good ∨ ∃ host, (q_cn own, x, y.1, host) ∈ q_nestM) := by
  obtain ⟨w, hw, hc⟩ := q_mr_at h
  have hl := q_mr_link hw
  unfold q_mr_chk at hc
  simp only at hc
  cases hy : q_tab[mi]? with
  | none => rw [hy] at hc; cases hc
  | some y =>
    rw [hy] at hc
    simp only [Bool.and_eq_true, decide_eq_true_eq, List.contains_iff_mem] at hc
    obtain ⟨c1, c2⟩ := hc
    have hyy := q_yy_at hy
    refine ⟨y, rfl, na, c1, rfl, ?_, ?_⟩
    · rw [← hyy]; exact q_wT_g (List.mem_map.mpr ⟨mi, c2, rfl⟩)
    · rw [← hyy]; exact hl
theorem q_nest3 : q_nestM.all (fun w => !(w.2.2.1 == Lib.objectInit) && !(w.2.2.1 == arraycopyName) && !(w.2.2.1 == Lib.Math.min.name)) = true := by decide +kernel
theorem q_mrO_ok {own x u1 u2 : Nat} (h : q_mr own x = some (u1, u2, 3)) : Cond.methodLink (q_cn own) x Lib.objectInit ∈ q_good := by
  obtain ⟨w, hw, -⟩ := q_mr_at h
  rcases q_mr_link hw with h1 | ⟨host, h1⟩
  · exact h1
  · have := List.all_eq_true.mp q_nest3 _ h1
    exact absurd this (by show ¬ (!(Lib.objectInit == Lib.objectInit) && _ && _) = true; simp)
theorem q_mrC_ok {own x u1 u2 : Nat} (h : q_mr own x = some (u1, u2, 4)) : Cond.methodLink (q_cn own) x arraycopyName ∈ q_good := by
  obtain ⟨w, hw, -⟩ := q_mr_at h
  rcases q_mr_link hw with h1 | ⟨host, h1⟩
  · exact h1
  · have := List.all_eq_true.mp q_nest3 _ h1
    exact absurd this (by show ¬ (_ && !(arraycopyName == arraycopyName) && _) = true; simp)
theorem q_mrM_ok {own x u1 u2 : Nat} (h : q_mr own x = some (u1, u2, 5)) : Cond.methodLink (q_cn own) x Lib.Math.min.name ∈ q_good := by
  obtain ⟨w, hw, -⟩ := q_mr_at h
  rcases q_mr_link hw with h1 | ⟨host, h1⟩
  · exact h1
  · have := List.all_eq_true.mp q_nest3 _ h1
    exact absurd this (by show ¬ (_ && _ && !(Lib.Math.min.name == Lib.Math.min.name)) = true; simp)
theorem q_oi1 : Cond.instanceMethod Lib.objectInit ∈ q_good := q_wX_g (List.mem_of_getElem? (i := 0) rfl)
theorem q_oi2 : Cond.code Lib.objectInit ⟨#[0xb1]⟩ 1 none ∈ q_good := q_wX_g (List.mem_of_getElem? (i := 1) rfl)
theorem q_cpnat : Cond.native arraycopyName ∈ q_good := q_wX_g (List.mem_of_getElem? (i := 2) rfl)
theorem q_cpstat : Cond.static arraycopyName ∈ q_good := q_wX_g (List.mem_of_getElem? (i := 3) rfl)
theorem q_cpini : Cond.initialized "java/lang/System" ∈ q_good := q_wX_g (List.mem_of_getElem? (i := 4) rfl)
theorem q_mm1 : Cond.static Lib.Math.min.name ∈ q_good := q_wX_g (List.mem_of_getElem? (i := 5) rfl)
theorem q_mm2 : Cond.initialized "java/lang/Math" ∈ q_good := q_wX_g (List.mem_of_getElem? (i := 6) rfl)
theorem q_mm3 : Cond.code Lib.Math.min.name Lib.Math.min.code 2 (some .int) ∈ q_good := q_wX_g (List.mem_of_getElem? (i := 7) rfl)
theorem q_arrcls (ty : FieldType) (h : ty = .int ∨ ty = .long ∨ ty = .boolean) : Cond.arrayClass ty ∈ q_good := by
  rcases h with rfl | rfl | rfl
  · exact q_wX_g (List.mem_of_getElem? (i := 8) rfl)
  · exact q_wX_g (List.mem_of_getElem? (i := 9) rfl)
  · exact q_wX_g (List.mem_of_getElem? (i := 10) rfl)
theorem q_mncl : Cond.classLink "RatchetPost" 28 "[[J" ∈ q_good := q_wX_g (List.mem_of_getElem? (i := 11) rfl)
theorem q_g_lt {N : Nat} {f : Nat → Option Instr} {pc : Nat} {i : Instr} (h : q_g N f pc = some i) : pc < N := by
  unfold q_g at h
  cases hb : Nat.blt pc N with
  | true => exact Nat.le_of_ble_eq_true hb
  | false => rw [hb] at h; cases h
end
section
/-- the length of an instruction -/
def q_len (i : Instr) : Nat := match i with
  | .bipush _ => 2
  | .sipush _ => 3
  | .ldc _ => 2
  | .ldc_w _ => 3
  | .ldc2_w _ => 3
  | .iload _ => 2
  | .lload _ => 2
  | .aload _ => 2
  | .istore _ => 2
  | .lstore _ => 2
  | .astore _ => 2
  | .iinc _ _ => 3
  | .goto _ => 3
  | .getstatic _ => 3
  | .getfield _ => 3
  | .putfield _ => 3
  | .ifCond _ _ => 3
  | .if_icmp _ _ => 3
  | .new _ => 3
  | .newarray _ => 2
  | .anewarray _ => 3
  | .multianewarray _ _ => 4
  | .invokevirtual _ => 3
  | .invokespecial _ => 3
  | .invokestatic _ => 3
  | _ => 1
def q_jmp (pc : Nat) (off : Int) : Bool := decide (0 ≤ (pc : Int) + off)
/-- what a program decides of an instruction at its place -/
def q_ok (pc : Nat) (i : Instr) : Bool := match i with
  | .iconst n => decide (Int32.ofInt n = q_c n)
  | .bipush n => decide ((Int8.ofInt n).toInt32 = q_c n)
  | .sipush n => decide ((Int16.ofInt n).toInt32 = q_c n)
  | .iinc _ n => decide (Int32.ofInt n = q_c n)
  | .goto off => q_jmp pc off
  | .ifCond _ off => q_jmp pc off
  | .if_icmp _ off => q_jmp pc off
  | .tableswitch d lo hi offs => q_jmp pc d && offs.toList.all (q_jmp pc) && decide (hi - lo + 1 = (offs.size : Int))
  | _ => true
def q_lk (i : Instr) (len : Nat) : Bool := match i with
  | .tableswitch _ _ _ _ => true
  | _ => Nat.beq len (q_len i)
def q_dec (bytes : ByteArray) (pc : Nat) (i : Instr) : Bool := match decode bytes pc with
  | .ok (j, len) => decide (j = i) && q_lk i len && q_ok pc i
  | .error _ => false
end
section
set_option maxRecDepth 100000 in
theorem q_e0 : (List.range 29).all (fun pc => match q_x0 pc with | none => true | some i => q_dec prog_4_method_1_code pc i) = true := by decide +kernel
set_option maxRecDepth 100000 in
theorem q_e1 : (List.range 211).all (fun pc => match q_x1 pc with | none => true | some i => q_dec prog_4_method_2_code pc i) = true := by decide +kernel
set_option maxRecDepth 100000 in
theorem q_e2 : (List.range 22).all (fun pc => match q_x2 pc with | none => true | some i => q_dec prog_4_method_3_code pc i) = true := by decide +kernel
set_option maxRecDepth 100000 in
theorem q_e3 : (List.range 38).all (fun pc => match q_x3 pc with | none => true | some i => q_dec prog_4_method_4_code pc i) = true := by decide +kernel
set_option maxRecDepth 100000 in
theorem q_e4 : (List.range 23).all (fun pc => match q_x4 pc with | none => true | some i => q_dec prog_4_method_5_code pc i) = true := by decide +kernel
set_option maxRecDepth 100000 in
theorem q_e5 : (List.range 175).all (fun pc => match q_x5 pc with | none => true | some i => q_dec prog_4_method_6_code pc i) = true := by decide +kernel
set_option maxRecDepth 100000 in
theorem q_e6 : (List.range 15).all (fun pc => match q_x6 pc with | none => true | some i => q_dec prog_5_method_1_code pc i) = true := by decide +kernel
set_option maxRecDepth 100000 in
theorem q_e7 : (List.range 17).all (fun pc => match q_x7 pc with | none => true | some i => q_dec prog_5_method_2_code pc i) = true := by decide +kernel
set_option maxRecDepth 100000 in
theorem q_e8 : (List.range 9).all (fun pc => match q_x8 pc with | none => true | some i => q_dec prog_5_method_3_code pc i) = true := by decide +kernel
set_option maxRecDepth 100000 in
theorem q_e9 : (List.range 38).all (fun pc => match q_x9 pc with | none => true | some i => q_dec prog_3_method_1_code pc i) = true := by decide +kernel
set_option maxRecDepth 100000 in
theorem q_e10 : (List.range 45).all (fun pc => match q_x10 pc with | none => true | some i => q_dec prog_3_method_2_code pc i) = true := by decide +kernel
set_option maxRecDepth 100000 in
theorem q_e11 : (List.range 21).all (fun pc => match q_x11 pc with | none => true | some i => q_dec prog_3_method_3_code pc i) = true := by decide +kernel
set_option maxRecDepth 100000 in
theorem q_e12 : (List.range 93).all (fun pc => match q_x12 pc with | none => true | some i => q_dec prog_3_method_4_code pc i) = true := by decide +kernel
set_option maxRecDepth 100000 in
theorem q_e13 : (List.range 23).all (fun pc => match q_x13 pc with | none => true | some i => q_dec prog_3_method_5_code pc i) = true := by decide +kernel
set_option maxRecDepth 100000 in
theorem q_e14 : (List.range 17).all (fun pc => match q_x14 pc with | none => true | some i => q_dec prog_3_method_6_code pc i) = true := by decide +kernel
set_option maxRecDepth 100000 in
theorem q_e15 : (List.range 131).all (fun pc => match q_x15 pc with | none => true | some i => q_dec prog_2_method_1_code pc i) = true := by decide +kernel
set_option maxRecDepth 100000 in
theorem q_e16 : (List.range 49).all (fun pc => match q_x16 pc with | none => true | some i => q_dec prog_2_method_2_code pc i) = true := by decide +kernel
set_option maxRecDepth 100000 in
theorem q_e17 : (List.range 50).all (fun pc => match q_x17 pc with | none => true | some i => q_dec prog_2_method_3_code pc i) = true := by decide +kernel
set_option maxRecDepth 100000 in
theorem q_e18 : (List.range 31).all (fun pc => match q_x18 pc with | none => true | some i => q_dec prog_2_method_4_code pc i) = true := by decide +kernel
set_option maxRecDepth 100000 in
theorem q_e19 : (List.range 93).all (fun pc => match q_x19 pc with | none => true | some i => q_dec prog_2_method_5_code pc i) = true := by decide +kernel
set_option maxRecDepth 100000 in
theorem q_e20 : (List.range 87).all (fun pc => match q_x20 pc with | none => true | some i => q_dec prog_2_method_6_code pc i) = true := by decide +kernel
set_option maxRecDepth 100000 in
theorem q_e21 : (List.range 35).all (fun pc => match q_x21 pc with | none => true | some i => q_dec prog_2_method_7_code pc i) = true := by decide +kernel
set_option maxRecDepth 100000 in
theorem q_e22 : (List.range 58).all (fun pc => match q_x22 pc with | none => true | some i => q_dec prog_2_method_8_code pc i) = true := by decide +kernel
set_option maxRecDepth 100000 in
theorem q_e23 : (List.range 39).all (fun pc => match q_x23 pc with | none => true | some i => q_dec prog_2_method_9_code pc i) = true := by decide +kernel
set_option maxRecDepth 100000 in
theorem q_e24 : (List.range 25).all (fun pc => match q_x24 pc with | none => true | some i => q_dec prog_2_method_10_code pc i) = true := by decide +kernel
set_option maxRecDepth 100000 in
theorem q_e25 : (List.range 35).all (fun pc => match q_x25 pc with | none => true | some i => q_dec prog_8_method_1_code pc i) = true := by decide +kernel
set_option maxRecDepth 100000 in
theorem q_e26 : (List.range 63).all (fun pc => match q_x26 pc with | none => true | some i => q_dec prog_8_method_2_code pc i) = true := by decide +kernel
set_option maxRecDepth 100000 in
theorem q_e27 : (List.range 49).all (fun pc => match q_x27 pc with | none => true | some i => q_dec prog_8_method_3_code pc i) = true := by decide +kernel
set_option maxRecDepth 100000 in
theorem q_e28 : (List.range 40).all (fun pc => match q_x28 pc with | none => true | some i => q_dec prog_8_method_4_code pc i) = true := by decide +kernel
set_option maxRecDepth 100000 in
theorem q_e29 : (List.range 90).all (fun pc => match q_x29 pc with | none => true | some i => q_dec prog_8_method_5_code pc i) = true := by decide +kernel
set_option maxRecDepth 100000 in
theorem q_e30 : (List.range 109).all (fun pc => match q_x30 pc with | none => true | some i => q_dec prog_6_method_1_code pc i) = true := by decide +kernel
set_option maxRecDepth 100000 in
theorem q_e31 : (List.range 59).all (fun pc => match q_x31 pc with | none => true | some i => q_dec prog_6_method_2_code pc i) = true := by decide +kernel
set_option maxRecDepth 100000 in
theorem q_e32 : (List.range 148).all (fun pc => match q_x32 pc with | none => true | some i => q_dec prog_6_method_3_code pc i) = true := by decide +kernel
end
section
set_option maxRecDepth 100000 in
theorem q_e33 : (List.range 20).all (fun pc => match q_x33 pc with | none => true | some i => q_dec prog_6_method_4_code pc i) = true := by decide +kernel
set_option maxRecDepth 100000 in
theorem q_e34 : (List.range 43).all (fun pc => match q_x34 pc with | none => true | some i => q_dec prog_6_method_5_code pc i) = true := by decide +kernel
set_option maxRecDepth 100000 in
theorem q_e35 : (List.range 38).all (fun pc => match q_x35 pc with | none => true | some i => q_dec prog_6_method_6_code pc i) = true := by decide +kernel
set_option maxRecDepth 100000 in
theorem q_e36 : (List.range 67).all (fun pc => match q_x36 pc with | none => true | some i => q_dec prog_6_method_7_code pc i) = true := by decide +kernel
set_option maxRecDepth 100000 in
theorem q_e37 : (List.range 18).all (fun pc => match q_x37 pc with | none => true | some i => q_dec prog_7_method_1_code pc i) = true := by decide +kernel
set_option maxRecDepth 100000 in
theorem q_e38 : (List.range 79).all (fun pc => match q_x38 pc with | none => true | some i => q_dec prog_7_method_2_code pc i) = true := by decide +kernel
set_option maxRecDepth 100000 in
theorem q_e39 : (List.range 16).all (fun pc => match q_x39 pc with | none => true | some i => q_dec prog_7_method_3_code pc i) = true := by decide +kernel
set_option maxRecDepth 100000 in
theorem q_e40 : (List.range 41).all (fun pc => match q_x40 pc with | none => true | some i => q_dec prog_7_method_4_code pc i) = true := by decide +kernel
set_option maxRecDepth 100000 in
theorem q_e41 : (List.range 33).all (fun pc => match q_x41 pc with | none => true | some i => q_dec prog_7_method_5_code pc i) = true := by decide +kernel
set_option maxRecDepth 100000 in
theorem q_e42 : (List.range 147).all (fun pc => match q_x42 pc with | none => true | some i => q_dec prog_1_method_1_code pc i) = true := by decide +kernel
set_option maxRecDepth 100000 in
theorem q_e43 : (List.range 39).all (fun pc => match q_x43 pc with | none => true | some i => q_dec prog_1_method_2_code pc i) = true := by decide +kernel
set_option maxRecDepth 100000 in
theorem q_e44 : (List.range 26).all (fun pc => match q_x44 pc with | none => true | some i => q_dec prog_1_method_3_code pc i) = true := by decide +kernel
set_option maxRecDepth 100000 in
theorem q_e45 : (List.range 37).all (fun pc => match q_x45 pc with | none => true | some i => q_dec prog_1_method_4_code pc i) = true := by decide +kernel
set_option maxRecDepth 100000 in
theorem q_e46 : (List.range 106).all (fun pc => match q_x46 pc with | none => true | some i => q_dec prog_1_method_5_code pc i) = true := by decide +kernel
set_option maxRecDepth 100000 in
theorem q_e47 : (List.range 192).all (fun pc => match q_x47 pc with | none => true | some i => q_dec prog_1_method_6_code pc i) = true := by decide +kernel
set_option maxRecDepth 100000 in
theorem q_e48 : (List.range 257).all (fun pc => match q_x48 pc with | none => true | some i => q_dec prog_1_method_7_code pc i) = true := by decide +kernel
set_option maxRecDepth 100000 in
theorem q_e49 : (List.range 25).all (fun pc => match q_x49 pc with | none => true | some i => q_dec prog_1_method_8_code pc i) = true := by decide +kernel
set_option maxRecDepth 100000 in
theorem q_e50 : (List.range 58).all (fun pc => match q_x50 pc with | none => true | some i => q_dec prog_1_method_9_code pc i) = true := by decide +kernel
set_option maxRecDepth 100000 in
theorem q_e51 : (List.range 89).all (fun pc => match q_x51 pc with | none => true | some i => q_dec prog_1_method_10_code pc i) = true := by decide +kernel
set_option maxRecDepth 100000 in
theorem q_e52 : (List.range 5).all (fun pc => match q_x52 pc with | none => true | some i => q_dec prog_1_method_11_code pc i) = true := by decide +kernel
set_option maxRecDepth 100000 in
theorem q_e53 : (List.range 24).all (fun pc => match q_x53 pc with | none => true | some i => q_dec prog_1_method_12_code pc i) = true := by decide +kernel
set_option maxRecDepth 100000 in
theorem q_e54 : (List.range 159).all (fun pc => match q_x54 pc with | none => true | some i => q_dec prog_1_method_13_code pc i) = true := by decide +kernel
set_option maxRecDepth 100000 in
theorem q_e55 : (List.range 25).all (fun pc => match q_x55 pc with | none => true | some i => q_dec prog_1_method_14_code pc i) = true := by decide +kernel
set_option maxRecDepth 100000 in
theorem q_e56 : (List.range 168).all (fun pc => match q_x56 pc with | none => true | some i => q_dec prog_1_method_15_code pc i) = true := by decide +kernel
set_option maxRecDepth 100000 in
theorem q_e57 : (List.range 32).all (fun pc => match q_x57 pc with | none => true | some i => q_dec prog_1_method_16_code pc i) = true := by decide +kernel
set_option maxRecDepth 100000 in
theorem q_e58 : (List.range 64).all (fun pc => match q_x58 pc with | none => true | some i => q_dec prog_1_method_17_code pc i) = true := by decide +kernel
set_option maxRecDepth 100000 in
theorem q_e59 : (List.range 33).all (fun pc => match q_x59 pc with | none => true | some i => q_dec prog_1_method_18_code pc i) = true := by decide +kernel
set_option maxRecDepth 100000 in
theorem q_e60 : (List.range 28).all (fun pc => match q_x60 pc with | none => true | some i => q_dec prog_1_method_19_code pc i) = true := by decide +kernel
set_option maxRecDepth 100000 in
theorem q_e61 : (List.range 18).all (fun pc => match q_x61 pc with | none => true | some i => q_dec prog_1_method_20_code pc i) = true := by decide +kernel
set_option maxRecDepth 100000 in
theorem q_e62 : (List.range 24).all (fun pc => match q_x62 pc with | none => true | some i => q_dec prog_1_method_21_code pc i) = true := by decide +kernel
set_option maxRecDepth 100000 in
theorem q_e63 : (List.range 11).all (fun pc => match q_x63 pc with | none => true | some i => q_dec prog_1_method_22_code pc i) = true := by decide +kernel
set_option maxRecDepth 100000 in
theorem q_e64 : (List.range 115).all (fun pc => match q_x64 pc with | none => true | some i => q_dec prog_1_method_23_code pc i) = true := by decide +kernel
set_option maxRecDepth 100000 in
theorem q_e65 : (List.range 79).all (fun pc => match q_x65 pc with | none => true | some i => q_dec prog_1_method_24_code pc i) = true := by decide +kernel
end
section
set_option maxRecDepth 100000 in
theorem q_e66 : (List.range 41).all (fun pc => match q_x66 pc with | none => true | some i => q_dec prog_1_method_25_code pc i) = true := by decide +kernel
set_option maxRecDepth 100000 in
theorem q_e67 : (List.range 163).all (fun pc => match q_x67 pc with | none => true | some i => q_dec prog_1_method_26_code pc i) = true := by decide +kernel
set_option maxRecDepth 100000 in
theorem q_e68 : (List.range 95).all (fun pc => match q_x68 pc with | none => true | some i => q_dec prog_1_method_27_code pc i) = true := by decide +kernel
set_option maxRecDepth 100000 in
theorem q_e69 : (List.range 100).all (fun pc => match q_x69 pc with | none => true | some i => q_dec prog_1_method_28_code pc i) = true := by decide +kernel
set_option maxRecDepth 100000 in
theorem q_e70 : (List.range 289).all (fun pc => match q_x70 pc with | none => true | some i => q_dec prog_1_method_29_code pc i) = true := by decide +kernel
set_option maxRecDepth 100000 in
theorem q_e71 : (List.range 35).all (fun pc => match q_x71 pc with | none => true | some i => q_dec prog_1_method_30_code pc i) = true := by decide +kernel
set_option maxRecDepth 100000 in
theorem q_e72 : (List.range 95).all (fun pc => match q_x72 pc with | none => true | some i => q_dec prog_1_method_31_code pc i) = true := by decide +kernel
set_option maxRecDepth 100000 in
theorem q_e73 : (List.range 22).all (fun pc => match q_x73 pc with | none => true | some i => q_dec prog_1_method_32_code pc i) = true := by decide +kernel
set_option maxRecDepth 100000 in
theorem q_e74 : (List.range 20).all (fun pc => match q_x74 pc with | none => true | some i => q_dec prog_1_method_33_code pc i) = true := by decide +kernel
set_option maxRecDepth 100000 in
theorem q_e75 : (List.range 6).all (fun pc => match q_x75 pc with | none => true | some i => q_dec prog_1_method_34_code pc i) = true := by decide +kernel
set_option maxRecDepth 100000 in
theorem q_e76 : (List.range 3).all (fun pc => match q_x76 pc with | none => true | some i => q_dec prog_1_method_35_code pc i) = true := by decide +kernel
set_option maxRecDepth 100000 in
theorem q_e77 : (List.range 55).all (fun pc => match q_x77 pc with | none => true | some i => q_dec prog_1_method_36_code pc i) = true := by decide +kernel
set_option maxRecDepth 100000 in
theorem q_e78 : (List.range 170).all (fun pc => match q_x78 pc with | none => true | some i => q_dec prog_10_method_1_code pc i) = true := by decide +kernel
set_option maxRecDepth 100000 in
theorem q_e79 : (List.range 11).all (fun pc => match q_x79 pc with | none => true | some i => q_dec prog_10_method_2_code pc i) = true := by decide +kernel
set_option maxRecDepth 100000 in
theorem q_e80 : (List.range 48).all (fun pc => match q_x80 pc with | none => true | some i => q_dec prog_10_method_3_code pc i) = true := by decide +kernel
set_option maxRecDepth 100000 in
theorem q_e81 : (List.range 30).all (fun pc => match q_x81 pc with | none => true | some i => q_dec prog_10_method_4_code pc i) = true := by decide +kernel
set_option maxRecDepth 100000 in
theorem q_e82 : (List.range 11).all (fun pc => match q_x82 pc with | none => true | some i => q_dec prog_10_method_5_code pc i) = true := by decide +kernel
set_option maxRecDepth 100000 in
theorem q_e83 : (List.range 163).all (fun pc => match q_x83 pc with | none => true | some i => q_dec prog_10_method_6_code pc i) = true := by decide +kernel
set_option maxRecDepth 100000 in
theorem q_e84 : (List.range 265).all (fun pc => match q_x84 pc with | none => true | some i => q_dec prog_10_method_7_code pc i) = true := by decide +kernel
set_option maxRecDepth 100000 in
theorem q_e85 : (List.range 26).all (fun pc => match q_x85 pc with | none => true | some i => q_dec prog_10_method_8_code pc i) = true := by decide +kernel
set_option maxRecDepth 100000 in
theorem q_e86 : (List.range 54).all (fun pc => match q_x86 pc with | none => true | some i => q_dec prog_10_method_9_code pc i) = true := by decide +kernel
set_option maxRecDepth 100000 in
theorem q_e87 : (List.range 13).all (fun pc => match q_x87 pc with | none => true | some i => q_dec prog_10_method_10_code pc i) = true := by decide +kernel
set_option maxRecDepth 100000 in
theorem q_e88 : (List.range 16).all (fun pc => match q_x88 pc with | none => true | some i => q_dec prog_10_method_11_code pc i) = true := by decide +kernel
set_option maxRecDepth 100000 in
theorem q_e89 : (List.range 65).all (fun pc => match q_x89 pc with | none => true | some i => q_dec prog_10_method_12_code pc i) = true := by decide +kernel
set_option maxRecDepth 100000 in
theorem q_e90 : (List.range 24).all (fun pc => match q_x90 pc with | none => true | some i => q_dec prog_10_method_13_code pc i) = true := by decide +kernel
set_option maxRecDepth 100000 in
theorem q_e91 : (List.range 27).all (fun pc => match q_x91 pc with | none => true | some i => q_dec prog_10_method_14_code pc i) = true := by decide +kernel
set_option maxRecDepth 100000 in
theorem q_e92 : (List.range 77).all (fun pc => match q_x92 pc with | none => true | some i => q_dec prog_10_method_15_code pc i) = true := by decide +kernel
set_option maxRecDepth 100000 in
theorem q_e93 : (List.range 30).all (fun pc => match q_x93 pc with | none => true | some i => q_dec prog_10_method_16_code pc i) = true := by decide +kernel
set_option maxRecDepth 100000 in
theorem q_e94 : (List.range 151).all (fun pc => match q_x94 pc with | none => true | some i => q_dec prog_10_method_17_code pc i) = true := by decide +kernel
set_option maxRecDepth 100000 in
theorem q_e95 : (List.range 84).all (fun pc => match q_x95 pc with | none => true | some i => q_dec prog_10_method_18_code pc i) = true := by decide +kernel
set_option maxRecDepth 100000 in
theorem q_e96 : (List.range 53).all (fun pc => match q_x96 pc with | none => true | some i => q_dec prog_10_method_19_code pc i) = true := by decide +kernel
set_option maxRecDepth 100000 in
theorem q_e97 : (List.range 149).all (fun pc => match q_x97 pc with | none => true | some i => q_dec prog_10_method_20_code pc i) = true := by decide +kernel
set_option maxRecDepth 100000 in
theorem q_e98 : (List.range 35).all (fun pc => match q_x98 pc with | none => true | some i => q_dec prog_10_method_21_code pc i) = true := by decide +kernel
end
section
set_option maxRecDepth 100000 in
theorem q_e99 : (List.range 126).all (fun pc => match q_x99 pc with | none => true | some i => q_dec prog_10_method_22_code pc i) = true := by decide +kernel
set_option maxRecDepth 100000 in
theorem q_e100 : (List.range 38).all (fun pc => match q_x100 pc with | none => true | some i => q_dec prog_10_method_23_code pc i) = true := by decide +kernel
set_option maxRecDepth 100000 in
theorem q_e101 : (List.range 38).all (fun pc => match q_x101 pc with | none => true | some i => q_dec prog_10_method_24_code pc i) = true := by decide +kernel
set_option maxRecDepth 100000 in
theorem q_e102 : (List.range 72).all (fun pc => match q_x102 pc with | none => true | some i => q_dec prog_10_method_25_code pc i) = true := by decide +kernel
set_option maxRecDepth 100000 in
theorem q_e103 : (List.range 37).all (fun pc => match q_x103 pc with | none => true | some i => q_dec prog_10_method_26_code pc i) = true := by decide +kernel
set_option maxRecDepth 100000 in
theorem q_e104 : (List.range 23).all (fun pc => match q_x104 pc with | none => true | some i => q_dec prog_10_method_27_code pc i) = true := by decide +kernel
set_option maxRecDepth 100000 in
theorem q_e105 : (List.range 49).all (fun pc => match q_x105 pc with | none => true | some i => q_dec prog_10_method_28_code pc i) = true := by decide +kernel
set_option maxRecDepth 100000 in
theorem q_e106 : (List.range 47).all (fun pc => match q_x106 pc with | none => true | some i => q_dec prog_10_method_29_code pc i) = true := by decide +kernel
set_option maxRecDepth 100000 in
theorem q_e107 : (List.range 58).all (fun pc => match q_x107 pc with | none => true | some i => q_dec prog_10_method_30_code pc i) = true := by decide +kernel
set_option maxRecDepth 100000 in
theorem q_e108 : (List.range 315).all (fun pc => match q_x108 pc with | none => true | some i => q_dec prog_10_method_31_code pc i) = true := by decide +kernel
set_option maxRecDepth 100000 in
theorem q_e109 : (List.range 50).all (fun pc => match q_x109 pc with | none => true | some i => q_dec prog_10_method_32_code pc i) = true := by decide +kernel
set_option maxRecDepth 100000 in
theorem q_e110 : (List.range 19).all (fun pc => match q_x110 pc with | none => true | some i => q_dec prog_10_method_33_code pc i) = true := by decide +kernel
set_option maxRecDepth 100000 in
theorem q_e111 : (List.range 400).all (fun pc => match q_x111 pc with | none => true | some i => q_dec prog_10_method_34_code pc i) = true := by decide +kernel
set_option maxRecDepth 100000 in
theorem q_e112 : (List.range 18).all (fun pc => match q_x112 pc with | none => true | some i => q_dec prog_10_method_35_code pc i) = true := by decide +kernel
set_option maxRecDepth 100000 in
theorem q_e113 : (List.range 37).all (fun pc => match q_x113 pc with | none => true | some i => q_dec prog_10_method_36_code pc i) = true := by decide +kernel
set_option maxRecDepth 100000 in
theorem q_e114 : (List.range 75).all (fun pc => match q_x114 pc with | none => true | some i => q_dec prog_10_method_37_code pc i) = true := by decide +kernel
set_option maxRecDepth 100000 in
theorem q_e115 : (List.range 19).all (fun pc => match q_x115 pc with | none => true | some i => q_dec prog_10_method_38_code pc i) = true := by decide +kernel
set_option maxRecDepth 100000 in
theorem q_e116 : (List.range 194).all (fun pc => match q_x116 pc with | none => true | some i => q_dec prog_10_method_39_code pc i) = true := by decide +kernel
set_option maxRecDepth 100000 in
theorem q_e117 : (List.range 169).all (fun pc => match q_x117 pc with | none => true | some i => q_dec prog_10_method_40_code pc i) = true := by decide +kernel
set_option maxRecDepth 100000 in
theorem q_e118 : (List.range 70).all (fun pc => match q_x118 pc with | none => true | some i => q_dec prog_10_method_41_code pc i) = true := by decide +kernel
set_option maxRecDepth 100000 in
theorem q_e119 : (List.range 460).all (fun pc => match q_x119 pc with | none => true | some i => q_dec prog_10_method_42_code pc i) = true := by decide +kernel
set_option maxRecDepth 100000 in
theorem q_e120 : (List.range 58).all (fun pc => match q_x120 pc with | none => true | some i => q_dec prog_10_method_43_code pc i) = true := by decide +kernel
set_option maxRecDepth 100000 in
theorem q_e121 : (List.range 100).all (fun pc => match q_x121 pc with | none => true | some i => q_dec prog_10_method_44_code pc i) = true := by decide +kernel
set_option maxRecDepth 100000 in
theorem q_e122 : (List.range 323).all (fun pc => match q_x122 pc with | none => true | some i => q_dec prog_10_method_45_code pc i) = true := by decide +kernel
set_option maxRecDepth 100000 in
theorem q_e123 : (List.range 107).all (fun pc => match q_x123 pc with | none => true | some i => q_dec prog_10_method_46_code pc i) = true := by decide +kernel
set_option maxRecDepth 100000 in
theorem q_e124 : (List.range 114).all (fun pc => match q_x124 pc with | none => true | some i => q_dec prog_10_method_47_code pc i) = true := by decide +kernel
set_option maxRecDepth 100000 in
theorem q_e125 : (List.range 58).all (fun pc => match q_x125 pc with | none => true | some i => q_dec prog_10_method_48_code pc i) = true := by decide +kernel
set_option maxRecDepth 100000 in
theorem q_e126 : (List.range 5).all (fun pc => match q_x126 pc with | none => true | some i => q_dec prog_10_method_49_code pc i) = true := by decide +kernel
set_option maxRecDepth 100000 in
theorem q_e127 : (List.range 36).all (fun pc => match q_x127 pc with | none => true | some i => q_dec prog_10_method_50_code pc i) = true := by decide +kernel
set_option maxRecDepth 100000 in
theorem q_e128 : (List.range 126).all (fun pc => match q_x128 pc with | none => true | some i => q_dec prog_10_method_51_code pc i) = true := by decide +kernel
set_option maxRecDepth 100000 in
theorem q_e129 : (List.range 24).all (fun pc => match q_x129 pc with | none => true | some i => q_dec prog_10_method_52_code pc i) = true := by decide +kernel
set_option maxRecDepth 100000 in
theorem q_e130 : (List.range 202).all (fun pc => match q_x130 pc with | none => true | some i => q_dec prog_10_method_53_code pc i) = true := by decide +kernel
end
section
theorem q_dchunk {x : Nat → Option Instr} {b : ByteArray} {a N : Nat} (h2 : (List.range N).all (fun j => match x (a + j) with | none => true | some i => q_dec b (a + j) i) = true) {pc : Nat} {i : Instr} (h : x pc = some i) (h1 : a ≤ pc) (h3 : pc < a + N) : q_dec b pc i = true := by
  obtain ⟨j, rfl⟩ : ∃ j, pc = a + j := ⟨pc - a, by omega⟩
  have h4 := List.all_eq_true.mp h2 j (List.mem_range.mpr (by omega))
  rw [h] at h4
  exact h4
set_option maxRecDepth 100000 in
theorem q_el0 : (List.range 32).all (fun j => match q_x131 (0 + j) with | none => true | some i => q_dec code (0 + j) i) = true := by decide +kernel
set_option maxRecDepth 100000 in
theorem q_el32 : (List.range 32).all (fun j => match q_x131 (32 + j) with | none => true | some i => q_dec code (32 + j) i) = true := by decide +kernel
set_option maxRecDepth 100000 in
theorem q_el64 : (List.range 32).all (fun j => match q_x131 (64 + j) with | none => true | some i => q_dec code (64 + j) i) = true := by decide +kernel
set_option maxRecDepth 100000 in
theorem q_el96 : (List.range 32).all (fun j => match q_x131 (96 + j) with | none => true | some i => q_dec code (96 + j) i) = true := by decide +kernel
set_option maxRecDepth 100000 in
theorem q_el128 : (List.range 32).all (fun j => match q_x131 (128 + j) with | none => true | some i => q_dec code (128 + j) i) = true := by decide +kernel
set_option maxRecDepth 100000 in
theorem q_el160 : (List.range 32).all (fun j => match q_x131 (160 + j) with | none => true | some i => q_dec code (160 + j) i) = true := by decide +kernel
set_option maxRecDepth 100000 in
theorem q_el192 : (List.range 32).all (fun j => match q_x131 (192 + j) with | none => true | some i => q_dec code (192 + j) i) = true := by decide +kernel
set_option maxRecDepth 100000 in
theorem q_el224 : (List.range 32).all (fun j => match q_x131 (224 + j) with | none => true | some i => q_dec code (224 + j) i) = true := by decide +kernel
set_option maxRecDepth 100000 in
theorem q_el256 : (List.range 32).all (fun j => match q_x131 (256 + j) with | none => true | some i => q_dec code (256 + j) i) = true := by decide +kernel
set_option maxRecDepth 100000 in
theorem q_el288 : (List.range 32).all (fun j => match q_x131 (288 + j) with | none => true | some i => q_dec code (288 + j) i) = true := by decide +kernel
set_option maxRecDepth 100000 in
theorem q_el320 : (List.range 32).all (fun j => match q_x131 (320 + j) with | none => true | some i => q_dec code (320 + j) i) = true := by decide +kernel
set_option maxRecDepth 100000 in
theorem q_el352 : (List.range 32).all (fun j => match q_x131 (352 + j) with | none => true | some i => q_dec code (352 + j) i) = true := by decide +kernel
set_option maxRecDepth 100000 in
theorem q_el384 : (List.range 32).all (fun j => match q_x131 (384 + j) with | none => true | some i => q_dec code (384 + j) i) = true := by decide +kernel
set_option maxRecDepth 100000 in
theorem q_el416 : (List.range 32).all (fun j => match q_x131 (416 + j) with | none => true | some i => q_dec code (416 + j) i) = true := by decide +kernel
set_option maxRecDepth 100000 in
theorem q_el448 : (List.range 32).all (fun j => match q_x131 (448 + j) with | none => true | some i => q_dec code (448 + j) i) = true := by decide +kernel
set_option maxRecDepth 100000 in
theorem q_el480 : (List.range 32).all (fun j => match q_x131 (480 + j) with | none => true | some i => q_dec code (480 + j) i) = true := by decide +kernel
set_option maxRecDepth 100000 in
theorem q_el512 : (List.range 32).all (fun j => match q_x131 (512 + j) with | none => true | some i => q_dec code (512 + j) i) = true := by decide +kernel
set_option maxRecDepth 100000 in
theorem q_el544 : (List.range 32).all (fun j => match q_x131 (544 + j) with | none => true | some i => q_dec code (544 + j) i) = true := by decide +kernel
set_option maxRecDepth 100000 in
theorem q_el576 : (List.range 32).all (fun j => match q_x131 (576 + j) with | none => true | some i => q_dec code (576 + j) i) = true := by decide +kernel
set_option maxRecDepth 100000 in
theorem q_el608 : (List.range 32).all (fun j => match q_x131 (608 + j) with | none => true | some i => q_dec code (608 + j) i) = true := by decide +kernel
set_option maxRecDepth 100000 in
theorem q_el640 : (List.range 32).all (fun j => match q_x131 (640 + j) with | none => true | some i => q_dec code (640 + j) i) = true := by decide +kernel
set_option maxRecDepth 100000 in
theorem q_el672 : (List.range 32).all (fun j => match q_x131 (672 + j) with | none => true | some i => q_dec code (672 + j) i) = true := by decide +kernel
set_option maxRecDepth 100000 in
theorem q_el704 : (List.range 32).all (fun j => match q_x131 (704 + j) with | none => true | some i => q_dec code (704 + j) i) = true := by decide +kernel
set_option maxRecDepth 100000 in
theorem q_el736 : (List.range 32).all (fun j => match q_x131 (736 + j) with | none => true | some i => q_dec code (736 + j) i) = true := by decide +kernel
set_option maxRecDepth 100000 in
theorem q_el768 : (List.range 13).all (fun j => match q_x131 (768 + j) with | none => true | some i => q_dec code (768 + j) i) = true := by decide +kernel
theorem q_elaw : ∀ pc i, q_x131 pc = some i → q_dec code pc i = true := by
  intro pc i h
  have hlt := q_g_lt h
  rcases Nat.lt_or_ge pc 32 with h1 | h1
  · exact q_dchunk q_el0 h (by omega) (by omega)
  rcases Nat.lt_or_ge pc 64 with h1 | h1
  · exact q_dchunk q_el32 h (by omega) (by omega)
  rcases Nat.lt_or_ge pc 96 with h1 | h1
  · exact q_dchunk q_el64 h (by omega) (by omega)
  rcases Nat.lt_or_ge pc 128 with h1 | h1
  · exact q_dchunk q_el96 h (by omega) (by omega)
  rcases Nat.lt_or_ge pc 160 with h1 | h1
  · exact q_dchunk q_el128 h (by omega) (by omega)
  rcases Nat.lt_or_ge pc 192 with h1 | h1
  · exact q_dchunk q_el160 h (by omega) (by omega)
  rcases Nat.lt_or_ge pc 224 with h1 | h1
  · exact q_dchunk q_el192 h (by omega) (by omega)
  rcases Nat.lt_or_ge pc 256 with h1 | h1
  · exact q_dchunk q_el224 h (by omega) (by omega)
  rcases Nat.lt_or_ge pc 288 with h1 | h1
  · exact q_dchunk q_el256 h (by omega) (by omega)
  rcases Nat.lt_or_ge pc 320 with h1 | h1
  · exact q_dchunk q_el288 h (by omega) (by omega)
  rcases Nat.lt_or_ge pc 352 with h1 | h1
  · exact q_dchunk q_el320 h (by omega) (by omega)
  rcases Nat.lt_or_ge pc 384 with h1 | h1
  · exact q_dchunk q_el352 h (by omega) (by omega)
  rcases Nat.lt_or_ge pc 416 with h1 | h1
  · exact q_dchunk q_el384 h (by omega) (by omega)
  rcases Nat.lt_or_ge pc 448 with h1 | h1
  · exact q_dchunk q_el416 h (by omega) (by omega)
  rcases Nat.lt_or_ge pc 480 with h1 | h1
  · exact q_dchunk q_el448 h (by omega) (by omega)
  rcases Nat.lt_or_ge pc 512 with h1 | h1
  · exact q_dchunk q_el480 h (by omega) (by omega)
  rcases Nat.lt_or_ge pc 544 with h1 | h1
  · exact q_dchunk q_el512 h (by omega) (by omega)
  rcases Nat.lt_or_ge pc 576 with h1 | h1
  · exact q_dchunk q_el544 h (by omega) (by omega)
  rcases Nat.lt_or_ge pc 608 with h1 | h1
  · exact q_dchunk q_el576 h (by omega) (by omega)
  rcases Nat.lt_or_ge pc 640 with h1 | h1
  · exact q_dchunk q_el608 h (by omega) (by omega)
  rcases Nat.lt_or_ge pc 672 with h1 | h1
  · exact q_dchunk q_el640 h (by omega) (by omega)
  rcases Nat.lt_or_ge pc 704 with h1 | h1
  · exact q_dchunk q_el672 h (by omega) (by omega)
  rcases Nat.lt_or_ge pc 736 with h1 | h1
  · exact q_dchunk q_el704 h (by omega) (by omega)
  rcases Nat.lt_or_ge pc 768 with h1 | h1
  · exact q_dchunk q_el736 h (by omega) (by omega)
  exact q_dchunk q_el768 h (by omega) (by omega)
end
section
theorem q_dall {x : Nat → Option Instr} {b : ByteArray} {N : Nat} (h1 : ∀ pc i, x pc = some i → pc < N) (h2 : (List.range N).all (fun pc => match x pc with | none => true | some i => q_dec b pc i) = true) : ∀ pc i, x pc = some i → q_dec b pc i = true := by
  intro pc i h
  have h3 := List.all_eq_true.mp h2 pc (List.mem_range.mpr (h1 pc i h))
  rw [h] at h3
  exact h3
/-- what a program decides of a method's row -/
def q_rowB (x : q_MI) : Bool := decide (x.1.cls ≠ "java/lang/invoke/MethodHandle") && decide (x.1.cls ≠ "java/lang/invoke/VarHandle") && decide (x.2.2.1 ≤ 26) && plainName x.1.cls && decide (x.2.2.2.2.1 < 10) && decide (x.1.cls = q_cn x.2.2.2.2.1) &&
  (match x.2.2.2.2.2.1 with | 0 => decide (x.2.2.2.1 = none) | 1 => decide (x.2.2.2.1 = some .int) | 2 => decide (x.2.2.2.1 = some .boolean) | 3 => decide (x.2.2.2.1 = some .long) | 4 => (match x.2.2.2.1 with | some (.object _) => true | _ => false) | _ => false) && (!x.2.2.2.2.2.2.1 || decide (x.1.name = "<init>"))
set_option maxRecDepth 100000 in
theorem q_rows : q_tab.all q_rowB = true := by decide +kernel
theorem q_rt_ok {x : q_MI} (h : (match x.2.2.2.2.2.1 with | 0 => decide (x.2.2.2.1 = none) | 1 => decide (x.2.2.2.1 = some .int) | 2 => decide (x.2.2.2.1 = some .boolean) | 3 => decide (x.2.2.2.1 = some .long) | 4 => (match x.2.2.2.1 with | some (.object _) => true | _ => false) | _ => false) = true) :
    (x.2.2.2.2.2.1 = 1 → x.2.2.2.1 = some .int) ∧ (x.2.2.2.2.2.1 = 2 → x.2.2.2.1 = some .boolean) ∧ (x.2.2.2.2.2.1 = 3 → x.2.2.2.1 = some .long) ∧ (x.2.2.2.2.2.1 = 4 → ∃ nm, x.2.2.2.1 = some (.object nm)) ∧ (x.2.2.2.2.2.1 = 0 → x.2.2.2.1 = none) := by
  refine ⟨fun e => ?_, fun e => ?_, fun e => ?_, fun e => ?_, fun e => ?_⟩ <;> rw [e] at h
  · exact of_decide_eq_true h
  · exact of_decide_eq_true h
  · exact of_decide_eq_true h
  · have h : (match x.2.2.2.1 with | some (.object _) => true | _ => false) = true := h
    split at h
    · rename_i nm he; exact ⟨nm, he⟩
    · cases h
  · exact of_decide_eq_true h
theorem q_decs : ∀ x ∈ q_tab, ∀ pc i, x.2.2.2.2.2.2.2 pc = some i → q_dec x.2.1 pc i = true := List.forall_mem_cons.mpr ⟨q_dall (fun _ _ => q_g_lt) q_e0, List.forall_mem_cons.mpr ⟨q_dall (fun _ _ => q_g_lt) q_e1, List.forall_mem_cons.mpr ⟨q_dall (fun _ _ => q_g_lt) q_e2, List.forall_mem_cons.mpr ⟨q_dall (fun _ _ => q_g_lt) q_e3, List.forall_mem_cons.mpr ⟨q_dall (fun _ _ => q_g_lt) q_e4, List.forall_mem_cons.mpr ⟨q_dall (fun _ _ => q_g_lt) q_e5, List.forall_mem_cons.mpr ⟨q_dall (fun _ _ => q_g_lt) q_e6, List.forall_mem_cons.mpr ⟨q_dall (fun _ _ => q_g_lt) q_e7, List.forall_mem_cons.mpr ⟨q_dall (fun _ _ => q_g_lt) q_e8, List.forall_mem_cons.mpr ⟨q_dall (fun _ _ => q_g_lt) q_e9, List.forall_mem_cons.mpr ⟨q_dall (fun _ _ => q_g_lt) q_e10, List.forall_mem_cons.mpr ⟨q_dall (fun _ _ => q_g_lt) q_e11, List.forall_mem_cons.mpr ⟨q_dall (fun _ _ => q_g_lt) q_e12, List.forall_mem_cons.mpr ⟨q_dall (fun _ _ => q_g_lt) q_e13, List.forall_mem_cons.mpr ⟨q_dall (fun _ _ => q_g_lt) q_e14, List.forall_mem_cons.mpr ⟨q_dall (fun _ _ => q_g_lt) q_e15, List.forall_mem_cons.mpr ⟨q_dall (fun _ _ => q_g_lt) q_e16, List.forall_mem_cons.mpr ⟨q_dall (fun _ _ => q_g_lt) q_e17, List.forall_mem_cons.mpr ⟨q_dall (fun _ _ => q_g_lt) q_e18, List.forall_mem_cons.mpr ⟨q_dall (fun _ _ => q_g_lt) q_e19, List.forall_mem_cons.mpr ⟨q_dall (fun _ _ => q_g_lt) q_e20, List.forall_mem_cons.mpr ⟨q_dall (fun _ _ => q_g_lt) q_e21, List.forall_mem_cons.mpr ⟨q_dall (fun _ _ => q_g_lt) q_e22, List.forall_mem_cons.mpr ⟨q_dall (fun _ _ => q_g_lt) q_e23, List.forall_mem_cons.mpr ⟨q_dall (fun _ _ => q_g_lt) q_e24, List.forall_mem_cons.mpr ⟨q_dall (fun _ _ => q_g_lt) q_e25, List.forall_mem_cons.mpr ⟨q_dall (fun _ _ => q_g_lt) q_e26, List.forall_mem_cons.mpr ⟨q_dall (fun _ _ => q_g_lt) q_e27, List.forall_mem_cons.mpr ⟨q_dall (fun _ _ => q_g_lt) q_e28, List.forall_mem_cons.mpr ⟨q_dall (fun _ _ => q_g_lt) q_e29, List.forall_mem_cons.mpr ⟨q_dall (fun _ _ => q_g_lt) q_e30, List.forall_mem_cons.mpr ⟨q_dall (fun _ _ => q_g_lt) q_e31, List.forall_mem_cons.mpr ⟨q_dall (fun _ _ => q_g_lt) q_e32, List.forall_mem_cons.mpr ⟨q_dall (fun _ _ => q_g_lt) q_e33, List.forall_mem_cons.mpr ⟨q_dall (fun _ _ => q_g_lt) q_e34, List.forall_mem_cons.mpr ⟨q_dall (fun _ _ => q_g_lt) q_e35, List.forall_mem_cons.mpr ⟨q_dall (fun _ _ => q_g_lt) q_e36, List.forall_mem_cons.mpr ⟨q_dall (fun _ _ => q_g_lt) q_e37, List.forall_mem_cons.mpr ⟨q_dall (fun _ _ => q_g_lt) q_e38, List.forall_mem_cons.mpr ⟨q_dall (fun _ _ => q_g_lt) q_e39, List.forall_mem_cons.mpr ⟨q_dall (fun _ _ => q_g_lt) q_e40, List.forall_mem_cons.mpr ⟨q_dall (fun _ _ => q_g_lt) q_e41, List.forall_mem_cons.mpr ⟨q_dall (fun _ _ => q_g_lt) q_e42, List.forall_mem_cons.mpr ⟨q_dall (fun _ _ => q_g_lt) q_e43, List.forall_mem_cons.mpr ⟨q_dall (fun _ _ => q_g_lt) q_e44, List.forall_mem_cons.mpr ⟨q_dall (fun _ _ => q_g_lt) q_e45, List.forall_mem_cons.mpr ⟨q_dall (fun _ _ => q_g_lt) q_e46, List.forall_mem_cons.mpr ⟨q_dall (fun _ _ => q_g_lt) q_e47, List.forall_mem_cons.mpr ⟨q_dall (fun _ _ => q_g_lt) q_e48, List.forall_mem_cons.mpr ⟨q_dall (fun _ _ => q_g_lt) q_e49, List.forall_mem_cons.mpr ⟨q_dall (fun _ _ => q_g_lt) q_e50, List.forall_mem_cons.mpr ⟨q_dall (fun _ _ => q_g_lt) q_e51, List.forall_mem_cons.mpr ⟨q_dall (fun _ _ => q_g_lt) q_e52, List.forall_mem_cons.mpr ⟨q_dall (fun _ _ => q_g_lt) q_e53, List.forall_mem_cons.mpr ⟨q_dall (fun _ _ => q_g_lt) q_e54, List.forall_mem_cons.mpr ⟨q_dall (fun _ _ => q_g_lt) q_e55, List.forall_mem_cons.mpr ⟨q_dall (fun _ _ => q_g_lt) q_e56, List.forall_mem_cons.mpr ⟨q_dall (fun _ _ => q_g_lt) q_e57, List.forall_mem_cons.mpr ⟨q_dall (fun _ _ => q_g_lt) q_e58, List.forall_mem_cons.mpr ⟨q_dall (fun _ _ => q_g_lt) q_e59, List.forall_mem_cons.mpr ⟨q_dall (fun _ _ => q_g_lt) q_e60, List.forall_mem_cons.mpr ⟨q_dall (fun _ _ => q_g_lt) q_e61, List.forall_mem_cons.mpr ⟨q_dall (fun _ _ => q_g_lt) q_e62, List.forall_mem_cons.mpr ⟨q_dall (fun _ _ => q_g_lt) q_e63, List.forall_mem_cons.mpr ⟨q_dall (fun _ _ => q_g_lt) q_e64, List.forall_mem_cons.mpr ⟨q_dall (fun _ _ => q_g_lt) q_e65, List.forall_mem_cons.mpr ⟨q_dall (fun _ _ => q_g_lt) q_e66, List.forall_mem_cons.mpr ⟨q_dall (fun _ _ => q_g_lt) q_e67, List.forall_mem_cons.mpr ⟨q_dall (fun _ _ => q_g_lt) q_e68, List.forall_mem_cons.mpr ⟨q_dall (fun _ _ => q_g_lt) q_e69, List.forall_mem_cons.mpr ⟨q_dall (fun _ _ => q_g_lt) q_e70, List.forall_mem_cons.mpr ⟨q_dall (fun _ _ => q_g_lt) q_e71, List.forall_mem_cons.mpr ⟨q_dall (fun _ _ => q_g_lt) q_e72, List.forall_mem_cons.mpr ⟨q_dall (fun _ _ => q_g_lt) q_e73, List.forall_mem_cons.mpr ⟨q_dall (fun _ _ => q_g_lt) q_e74, List.forall_mem_cons.mpr ⟨q_dall (fun _ _ => q_g_lt) q_e75, List.forall_mem_cons.mpr ⟨q_dall (fun _ _ => q_g_lt) q_e76, List.forall_mem_cons.mpr ⟨q_dall (fun _ _ => q_g_lt) q_e77, List.forall_mem_cons.mpr ⟨q_dall (fun _ _ => q_g_lt) q_e78, List.forall_mem_cons.mpr ⟨q_dall (fun _ _ => q_g_lt) q_e79, List.forall_mem_cons.mpr ⟨q_dall (fun _ _ => q_g_lt) q_e80, List.forall_mem_cons.mpr ⟨q_dall (fun _ _ => q_g_lt) q_e81, List.forall_mem_cons.mpr ⟨q_dall (fun _ _ => q_g_lt) q_e82, List.forall_mem_cons.mpr ⟨q_dall (fun _ _ => q_g_lt) q_e83, List.forall_mem_cons.mpr ⟨q_dall (fun _ _ => q_g_lt) q_e84, List.forall_mem_cons.mpr ⟨q_dall (fun _ _ => q_g_lt) q_e85, List.forall_mem_cons.mpr ⟨q_dall (fun _ _ => q_g_lt) q_e86, List.forall_mem_cons.mpr ⟨q_dall (fun _ _ => q_g_lt) q_e87, List.forall_mem_cons.mpr ⟨q_dall (fun _ _ => q_g_lt) q_e88, List.forall_mem_cons.mpr ⟨q_dall (fun _ _ => q_g_lt) q_e89, List.forall_mem_cons.mpr ⟨q_dall (fun _ _ => q_g_lt) q_e90, List.forall_mem_cons.mpr ⟨q_dall (fun _ _ => q_g_lt) q_e91, List.forall_mem_cons.mpr ⟨q_dall (fun _ _ => q_g_lt) q_e92, List.forall_mem_cons.mpr ⟨q_dall (fun _ _ => q_g_lt) q_e93, List.forall_mem_cons.mpr ⟨q_dall (fun _ _ => q_g_lt) q_e94, List.forall_mem_cons.mpr ⟨q_dall (fun _ _ => q_g_lt) q_e95, List.forall_mem_cons.mpr ⟨q_dall (fun _ _ => q_g_lt) q_e96, List.forall_mem_cons.mpr ⟨q_dall (fun _ _ => q_g_lt) q_e97, List.forall_mem_cons.mpr ⟨q_dall (fun _ _ => q_g_lt) q_e98, List.forall_mem_cons.mpr ⟨q_dall (fun _ _ => q_g_lt) q_e99, List.forall_mem_cons.mpr ⟨q_dall (fun _ _ => q_g_lt) q_e100, List.forall_mem_cons.mpr ⟨q_dall (fun _ _ => q_g_lt) q_e101, List.forall_mem_cons.mpr ⟨q_dall (fun _ _ => q_g_lt) q_e102, List.forall_mem_cons.mpr ⟨q_dall (fun _ _ => q_g_lt) q_e103, List.forall_mem_cons.mpr ⟨q_dall (fun _ _ => q_g_lt) q_e104, List.forall_mem_cons.mpr ⟨q_dall (fun _ _ => q_g_lt) q_e105, List.forall_mem_cons.mpr ⟨q_dall (fun _ _ => q_g_lt) q_e106, List.forall_mem_cons.mpr ⟨q_dall (fun _ _ => q_g_lt) q_e107, List.forall_mem_cons.mpr ⟨q_dall (fun _ _ => q_g_lt) q_e108, List.forall_mem_cons.mpr ⟨q_dall (fun _ _ => q_g_lt) q_e109, List.forall_mem_cons.mpr ⟨q_dall (fun _ _ => q_g_lt) q_e110, List.forall_mem_cons.mpr ⟨q_dall (fun _ _ => q_g_lt) q_e111, List.forall_mem_cons.mpr ⟨q_dall (fun _ _ => q_g_lt) q_e112, List.forall_mem_cons.mpr ⟨q_dall (fun _ _ => q_g_lt) q_e113, List.forall_mem_cons.mpr ⟨q_dall (fun _ _ => q_g_lt) q_e114, List.forall_mem_cons.mpr ⟨q_dall (fun _ _ => q_g_lt) q_e115, List.forall_mem_cons.mpr ⟨q_dall (fun _ _ => q_g_lt) q_e116, List.forall_mem_cons.mpr ⟨q_dall (fun _ _ => q_g_lt) q_e117, List.forall_mem_cons.mpr ⟨q_dall (fun _ _ => q_g_lt) q_e118, List.forall_mem_cons.mpr ⟨q_dall (fun _ _ => q_g_lt) q_e119, List.forall_mem_cons.mpr ⟨q_dall (fun _ _ => q_g_lt) q_e120, List.forall_mem_cons.mpr ⟨q_dall (fun _ _ => q_g_lt) q_e121, List.forall_mem_cons.mpr ⟨q_dall (fun _ _ => q_g_lt) q_e122, List.forall_mem_cons.mpr ⟨q_dall (fun _ _ => q_g_lt) q_e123, List.forall_mem_cons.mpr ⟨q_dall (fun _ _ => q_g_lt) q_e124, List.forall_mem_cons.mpr ⟨q_dall (fun _ _ => q_g_lt) q_e125, List.forall_mem_cons.mpr ⟨q_dall (fun _ _ => q_g_lt) q_e126, List.forall_mem_cons.mpr ⟨q_dall (fun _ _ => q_g_lt) q_e127, List.forall_mem_cons.mpr ⟨q_dall (fun _ _ => q_g_lt) q_e128, List.forall_mem_cons.mpr ⟨q_dall (fun _ _ => q_g_lt) q_e129, List.forall_mem_cons.mpr ⟨q_dall (fun _ _ => q_g_lt) q_e130, fun _ h => absurd h List.not_mem_nil⟩⟩⟩⟩⟩⟩⟩⟩⟩⟩⟩⟩⟩⟩⟩⟩⟩⟩⟩⟩⟩⟩⟩⟩⟩⟩⟩⟩⟩⟩⟩⟩⟩⟩⟩⟩⟩⟩⟩⟩⟩⟩⟩⟩⟩⟩⟩⟩⟩⟩⟩⟩⟩⟩⟩⟩⟩⟩⟩⟩⟩⟩⟩⟩⟩⟩⟩⟩⟩⟩⟩⟩⟩⟩⟩⟩⟩⟩⟩⟩⟩⟩⟩⟩⟩⟩⟩⟩⟩⟩⟩⟩⟩⟩⟩⟩⟩⟩⟩⟩⟩⟩⟩⟩⟩⟩⟩⟩⟩⟩⟩⟩⟩⟩⟩⟩⟩⟩⟩⟩⟩⟩⟩⟩⟩⟩⟩⟩⟩⟩⟩
theorem q_tab_ok {x : q_MI} (h : x ∈ q_tab) : GoodIn q_good (Cond.code x.1 x.2.1 x.2.2.1 x.2.2.2.1 :: q_good) ∧ Cond.initialized x.1.cls ∈ q_good ∧ (x.1.cls ≠ "java/lang/invoke/MethodHandle" ∧ x.1.cls ≠ "java/lang/invoke/VarHandle") ∧ x.2.2.1 ≤ 26 ∧ plainName x.1.cls = true ∧ x.1.cls = q_cn x.2.2.2.2.1 ∧
    ((x.2.2.2.2.2.1 = 1 → x.2.2.2.1 = some .int) ∧ (x.2.2.2.2.2.1 = 2 → x.2.2.2.1 = some .boolean) ∧ (x.2.2.2.2.2.1 = 3 → x.2.2.2.1 = some .long) ∧ (x.2.2.2.2.2.1 = 4 → ∃ nm, x.2.2.2.1 = some (.object nm)) ∧ (x.2.2.2.2.2.1 = 0 → x.2.2.2.1 = none)) ∧ (x.2.2.2.2.2.2.1 = true → x.1.name = "<init>") ∧ ∀ pc i, x.2.2.2.2.2.2.2 pc = some i → q_dec x.2.1 pc i = true := by
  have h1 := List.all_eq_true.mp q_rows x h
  unfold q_rowB at h1
  simp only [Bool.and_eq_true, decide_eq_true_eq] at h1
  obtain ⟨⟨⟨⟨⟨⟨⟨a1, a2⟩, a3⟩, a4⟩, a5⟩, a6⟩, a7⟩, a8⟩ := h1
  have hm : Cond.code x.1 x.2.1 x.2.2.1 x.2.2.2.1 ∈ q_good := q_i1 (List.mem_map.mpr ⟨x, h, rfl⟩)
  refine ⟨?_, ?_, ⟨a1, a2⟩, a3, a4, a6, q_rt_ok a7, fun hi => ?_, q_decs x h⟩
  · intro w hw
    have hw2 : w ∈ q_good := (List.mem_cons.mp hw).elim (fun e => e ▸ hm) id
    exact ⟨hw2, good_of_word (List.all_eq_true.mp q_good_w w hw2)⟩
  · rw [a6]; exact q_wI_g (List.mem_map.mpr ⟨_, List.mem_range.mpr a5, rfl⟩)
  · rw [hi] at a8; exact of_decide_eq_true a8
end
section
/-! what the cells of the mind are on the machine: G = (addresses of the three read-only rows, where ours begin, classes, slots, array classes, length of the script, contents of the read-only rows) -/
abbrev q_G : Type := (Nat → Nat) × Nat × (Nat → ClassId) × (Nat → Nat → Nat) × (Nat → ClassId) × Nat × (Nat → Nat → Int32)
def q_ad (G : q_G) : Nat → Nat := G.1
def q_z (G : q_G) : Nat := G.2.1
def q_dC (G : q_G) : Nat → ClassId := G.2.2.1
def q_dI (G : q_G) : Nat → Nat → Nat := G.2.2.2.1
def q_dA (G : q_G) : Nat → ClassId := G.2.2.2.2.1
def q_ln (G : q_G) : Nat := G.2.2.2.2.2.1
def q_ro (G : q_G) : Nat → Nat → Int32 := G.2.2.2.2.2.2
def q_rho (G : q_G) (a : Nat) : Nat := if a < 3 then q_ad G a else q_z G + (a - 3)
def q_v (G : q_G) (v : Value) : Value := match v with
  | .ref a => .ref (q_rho G a)
  | v => v
def q_rl (G : q_G) (a : Nat) : Nat := match a with
  | 0 => 8
  | 1 => 4
  | _ => q_ln G
abbrev q_A (G : q_G) : Nat → Prop := fun q => q_z G ≤ q
def q_ety (t : Nat) : FieldType := match t with
  | 0 => .int
  | 1 => .long
  | 2 => .boolean
  | 7 => .array .long
  | t => .object (q_cn (q_el t))
def q_fv (G : q_G) (μ : q_M) (ci a k : Nat) : Value := match q_ft ci k with
  | 0 => .int (μ.2.1 a k)
  | 1 => .int (μ.2.1 a k)
  | 2 => .long (μ.2.2.1 a k)
  | _ => va_rf ((μ.2.2.2 a k).map (q_rho G))
def q_ev (G : q_G) (μ : q_M) (t a : Nat) (j : Nat) : Value := match t with
  | 0 => .int (μ.2.1 a j)
  | 1 => .long (μ.2.2.1 a j)
  | 2 => .int (μ.2.1 a j)
  | _ => va_rf ((μ.2.2.2 a j).map (q_rho G))
/-- the cell a, of the kind k, on the heap -/
def q_cell (G : q_G) (μ : q_M) (a : Nat) (k : Nat × Nat) (H : Heap) : Prop := match Nat.beq k.1 8 with
  | true => t_OB (q_rho G a) (q_dC G k.2) (q_nf k.2) (q_dI G k.2) H (q_fv G μ k.2 a)
  | false => H[q_rho G a]? = some (arrV (q_dA G k.1) k.2 (q_ev G μ k.1 a))
def q_H (G : q_G) (μ : q_M) (H : Heap) : Prop := 3 ≤ μ.1 ∧ H.size = q_z G + (μ.1 - 3) ∧ (∀ a, 3 ≤ a → a < μ.1 → q_cell G μ a (q_kd a) H) ∧ ∀ a, a < 3 → ∀ j, j < q_rl G a → μ.2.1 a j = q_ro G a j
def q_E (G : q_G) (s : State) : Prop :=
  (∀ ci, ci < 9 → u_Kn s (q_cn ci) (q_F ci) (q_nf ci) (q_dC G ci) (q_dI G ci)) ∧
  (∀ t, t < 8 → ArrOfT s (q_dA G t) (q_ety t) ∧ va_RA s (q_dA G t) (q_ety t)) ∧
  (∀ w ∈ q_nestF, va_Nw (.fieldLinkNest w.1 w.2.1 w.2.2.1 w.2.2.2.1 w.2.2.2.2.1 w.2.2.2.2.2) s) ∧
  (∀ w ∈ q_nestM, va_Nw (.methodLinkNest w.1 w.2.1 w.2.2.1 w.2.2.2) s) ∧
  (∀ a, a < 3 → va_T .int (q_ad G a) (q_rl G a) (fun j => .int (q_ro G a j)) (q_A G) s s.heap) ∧
  (∀ a, a < 2 → va_Z "RatchetPost" (q_sn a) "[I" (.ref (q_ad G a)) (q_A G) s s.heap) ∧
  (∀ t, 3 ≤ t → t < 7 → va_AO (q_cn (q_el t)) s) ∧
  (Cond.arrayOver (.array .long)).before #[] s = true ∧ q_z G ≤ s.heap.size
theorem q_E_moved {G : q_G} {u U : State} (hvm : u.vm.Alike U.vm) (hW : u.WarmedH U.vm) (hh : ∀ q, q < u.heap.size → ¬ q_A G q → U.heap[q]? = u.heap[q]?) (hz : u.heap.size ≤ U.heap.size) (h : q_E G u) : q_E G U := by
  obtain ⟨h1, h2, h3, h4, h5, h6, h7, h9, h8⟩ := h
  exact ⟨fun ci hc => u_Kn_moved hvm (h1 ci hc), fun t ht => ⟨arrOfT_moved hvm (h2 t ht).1, (h2 t ht).2.moved hvm⟩, fun w hw => va_Nw.warmF hW (h3 w hw), fun w hw => va_Nw.warmM hW (h4 w hw),
    fun a ha => ((h5 a ha).moved hvm).kept hh, fun a ha => ((h6 a ha).moved hvm).kept hh, fun t h3 h7' => (h7 t h3 h7').moved hvm, over_moved hvm h9, Nat.le_trans h8 hz⟩
/-- a state with the same tables and heap -/
theorem q_E_same {G : q_G} {U : State} {g : JFrame} {mk : MethodId} {a : Array Value} (h : q_E G U) : q_E G (U.calling g mk a) := by
  obtain ⟨h1, h2, h3, h4, h5, h6, h7, h9, h8⟩ := h
  have hvm : U.vm.Alike (U.calling g mk a).vm := Vm.Alike.refl U.vm
  exact ⟨fun ci hc => u_Kn_moved hvm (h1 ci hc), fun t ht => ⟨arrOfT_moved hvm (h2 t ht).1, (h2 t ht).2.moved hvm⟩, fun w hw => va_Nw.same rfl rfl (h3 w hw), fun w hw => va_Nw.same rfl rfl (h4 w hw),
    fun a ha => (h5 a ha).moved hvm, fun a ha => (h6 a ha).moved hvm, fun t h3 h7' => (h7 t h3 h7').moved hvm, over_moved hvm h9, h8⟩
theorem q_rho_lt {G : q_G} {a : Nat} (h : 3 ≤ a) : q_rho G a = q_z G + (a - 3) := if_neg (by omega)
theorem q_rho_A {G : q_G} {a : Nat} (h : 3 ≤ a) : q_A G (q_rho G a) := by rw [q_rho_lt h]; exact Nat.le_add_right _ _
theorem q_rho_ne {G : q_G} {a b : Nat} (ha : 3 ≤ a) (hb : 3 ≤ b) (h : a ≠ b) : q_rho G a ≠ q_rho G b := by rw [q_rho_lt ha, q_rho_lt hb]; omega
theorem q_cell_kept {G : q_G} {μ μ' : q_M} {a : Nat} {k : Nat × Nat} {H H' : Heap} (h : q_cell G μ a k H) (hh : H'[q_rho G a]? = H[q_rho G a]?) (hI : μ'.2.1 a = μ.2.1 a) (hL : μ'.2.2.1 a = μ.2.2.1 a) (hR : μ'.2.2.2 a = μ.2.2.2 a) : q_cell G μ' a k H' := by
  unfold q_cell at h ⊢
  cases hk : Nat.beq k.1 8 with
  | true =>
    rw [hk] at h
    refine (t_OB.kept h hh).to (fun j _ => ?_)
    simp only [q_fv, hI, hL, hR]
  | false =>
    rw [hk] at h
    show H'[q_rho G a]? = _
    rw [hh]
    have e : q_ev G μ' k.1 a = q_ev G μ k.1 a := by funext j; simp only [q_ev, hI, hL, hR]
    rw [e]
    exact h
/-- one cell is written -/
theorem q_H_put {G : q_G} {μ μ' : q_M} {a : Nat} {H H' : Heap} (h : q_H G μ H) (ha : 3 ≤ a) (hn : μ'.1 = μ.1) (hz : H'.size = H.size) (ho : ∀ q, q ≠ q_rho G a → H'[q]? = H[q]?) (hc : q_cell G μ' a (q_kd a) H')
    (hI : ∀ b, b ≠ a → μ'.2.1 b = μ.2.1 b) (hL : ∀ b, b ≠ a → μ'.2.2.1 b = μ.2.2.1 b) (hR : ∀ b, b ≠ a → μ'.2.2.2 b = μ.2.2.2 b) : q_H G μ' H' := by
  obtain ⟨h0, h1, h2, h3⟩ := h
  refine ⟨by rw [hn]; exact h0, by rw [hz, hn]; exact h1, fun b hb hbn => ?_, fun b hb j hj => ?_⟩
  · by_cases e : b = a
    · subst e; exact hc
    · exact q_cell_kept (h2 b hb (by rw [← hn]; exact hbn)) (ho _ (q_rho_ne hb ha e)) (hI b e) (hL b e) (hR b e)
  · rw [hI b (by omega)]; exact h3 b hb j hj
/-- one cell is made -/
theorem q_H_new {G : q_G} {μ μ' : q_M} {H H' : Heap} (h : q_H G μ H) (hn : μ'.1 = μ.1 + 1) (hz : H'.size = H.size + 1) (ho : ∀ q, q < H.size → H'[q]? = H[q]?) (hc : q_cell G μ' μ.1 (q_kd μ.1) H')
    (hI : ∀ b, b ≠ μ.1 → μ'.2.1 b = μ.2.1 b) (hL : ∀ b, b ≠ μ.1 → μ'.2.2.1 b = μ.2.2.1 b) (hR : ∀ b, b ≠ μ.1 → μ'.2.2.2 b = μ.2.2.2 b) : q_H G μ' H' := by
  obtain ⟨h0, h1, h2, h3⟩ := h
  refine ⟨by omega, by rw [hz, hn, h1]; omega, fun b hb hbn => ?_, fun b hb j hj => ?_⟩
  · by_cases e : b = μ.1
    · subst e; exact hc
    · exact q_cell_kept (h2 b hb (by omega)) (ho _ (by rw [q_rho_lt hb, h1]; omega)) (hI b e) (hL b e) (hR b e)
  · rw [hI b (by omega)]; exact h3 b hb j hj
theorem q_H_at {G : q_G} {μ : q_M} {H : Heap} (h : q_H G μ H) : H.size = q_rho G μ.1 := by rw [q_rho_lt h.1]; exact h.2.1
theorem q_H_arr {G : q_G} {μ : q_M} {H : Heap} {a t len : Nat} (h : q_H G μ H) (ha : q_ar μ.1 a t len) (ht : t < 8) : H[q_rho G a]? = some (arrV (q_dA G t) len (q_ev G μ t a)) := by
  have h2 := h.2.2.1 a (by have := ha.1; omega) ha.2.1
  rw [ha.2.2] at h2
  unfold q_cell at h2
  have e : Nat.beq t 8 = false := by
    cases hb : Nat.beq t 8 with
    | false => rfl
    | true => have := Nat.eq_of_beq_eq_true hb; omega
  rw [e] at h2
  exact h2
theorem q_ob_ge {n a ci : Nat} (h : q_ob n a ci) : 3 ≤ a := by
  rcases Nat.lt_or_ge a 3 with h1 | h1
  · have h2 := h.2
    have e : a = 0 ∨ a = 1 ∨ a = 2 := by omega
    rcases e with rfl | rfl | rfl <;> exact absurd (show (8 : Nat) = 9 from (congrArg Prod.fst h2).symm) (by decide)
  · exact h1
theorem q_H_obj {G : q_G} {μ : q_M} {H : Heap} {a ci : Nat} (h : q_H G μ H) (ha : q_ob μ.1 a ci) : t_OB (q_rho G a) (q_dC G ci) (q_nf ci) (q_dI G ci) H (q_fv G μ ci a) := by
  have h2 := h.2.2.1 a (q_ob_ge ha) ha.1
  rw [ha.2] at h2
  exact h2
/-! locals -/
def q_lr (G : q_G) (ls : Array Slot) (l : List (Option Value)) : Prop := ls.size = l.length ∧ lv_wf ls ∧ ∀ i v, q_get l i = some v → ls[i]? = some (.val (q_v G v))
def q_as0 (G : q_G) (l : List (Option Value)) : List (Nat × Value) := (List.range l.length).filterMap (fun i => (q_get l i).map (fun v => (i, q_v G v)))
theorem q_as_mem {G : q_G} {l : List (Option Value)} {q : Nat × Value} (h : q ∈ q_as0 G l) : ∃ v, q_get l q.1 = some v ∧ q.2 = q_v G v := by
  obtain ⟨i, -, hi⟩ := List.mem_filterMap.mp h
  cases hg : q_get l i with
  | none => rw [hg] at hi; cases hi
  | some v =>
    rw [hg] at hi
    have e : (i, q_v G v) = q := Option.some.inj hi
    subst e
    exact ⟨v, hg, rfl⟩
theorem q_get_lt : ∀ (l : List (Option Value)) (i : Nat) (v : Value), q_get l i = some v → i < l.length
  | [], _, _, h => by cases h
  | _ :: _, 0, _, _ => Nat.succ_pos _
  | _ :: t, i + 1, v, h => Nat.succ_lt_succ (q_get_lt t i v h)
theorem q_mem_as {G : q_G} {l : List (Option Value)} {i : Nat} {v : Value} (h : q_get l i = some v) : (i, q_v G v) ∈ q_as0 G l :=
  List.mem_filterMap.mpr ⟨i, List.mem_range.mpr (q_get_lt l i v h), by rw [h]; rfl⟩
theorem q_lr_has {G : q_G} {ls : Array Slot} {l : List (Option Value)} (h : q_lr G ls l) : lv_has ls l.length (q_as0 G l) :=
  ⟨h.1, h.2.1, fun q hq => by obtain ⟨v, h1, h2⟩ := q_as_mem hq; rw [h2]; exact h.2.2 _ _ h1⟩
theorem q_v_cat {G : q_G} (v : Value) : (q_v G v).category = v.category := by cases v <;> rfl
theorem q_clr_some {x : Option Value} {w : Value} (h : q_clr x = some w) : x = some w ∧ ¬ w.category = 2 := by
  cases x with
  | none => cases h
  | some z => cases z <;> first | (cases h; done) | (cases h; exact ⟨rfl, by decide⟩) | (cases h; exact ⟨rfl, fun z => by cases z⟩)
theorem q_s1_spec : ∀ (l : List (Option Value)) (i : Nat) (v : Value) (l' : List (Option Value)), q_s1 l i v = some l' → l'.length = l.length ∧ i < l.length ∧ ∀ j w, q_get l' j = some w → (j = i ∧ w = v) ∨ (j ≠ i ∧ q_get l j = some w ∧ ¬ (j + 1 = i ∧ w.category = 2))
  | [], i, v, l', h => by cases i <;> cases h
  | x :: t, 0, v, l', h => by
    have e : some v :: t = l' := Option.some.inj h
    subst e
    refine ⟨rfl, Nat.succ_pos _, fun j w hj => ?_⟩
    cases j with
    | zero => exact Or.inl ⟨rfl, (Option.some.inj hj).symm⟩
    | succ j => exact Or.inr ⟨by omega, hj, by omega⟩
  | x :: [], 1, v, l', h => by cases h
  | x :: y :: t, 1, v, l', h => by
    have e : q_clr x :: some v :: t = l' := Option.some.inj h
    subst e
    refine ⟨rfl, by simp, fun j w hj => ?_⟩
    match j, hj with
    | 0, hj =>
      obtain ⟨h1, h2⟩ := q_clr_some hj
      exact Or.inr ⟨by omega, h1, fun q => h2 q.2⟩
    | 1, hj => exact Or.inl ⟨rfl, (Option.some.inj hj).symm⟩
    | j + 2, hj => exact Or.inr ⟨by omega, hj, by omega⟩
  | x :: t, n + 2, v, l', h => by
    have h : (match q_s1 t (n + 1) v with | some t' => some (x :: t') | none => none) = some l' := h
    cases hq : q_s1 t (n + 1) v with
    | none => rw [hq] at h; cases h
    | some t' =>
      rw [hq] at h
      have e : x :: t' = l' := Option.some.inj h
      subst e
      obtain ⟨h1, h2, h3⟩ := q_s1_spec t (n + 1) v t' hq
      refine ⟨by simp [h1], by simp; omega, fun j w hj => ?_⟩
      cases j with
      | zero => exact Or.inr ⟨by omega, hj, by omega⟩
      | succ j =>
        rcases h3 j w hj with ⟨e1, e2⟩ | ⟨e1, e2, e3⟩
        · exact Or.inl ⟨by omega, e2⟩
        · exact Or.inr ⟨by omega, e2, fun q => e3 ⟨by omega, q.2⟩⟩
theorem q_get_set : ∀ (l : List (Option Value)) (k j : Nat) (w : Value), q_get (l.set k none) j = some w → j ≠ k ∧ q_get l j = some w
  | [], k, j, w, h => by cases h
  | x :: t, 0, j, w, h => by
    cases j with
    | zero => cases h
    | succ j => exact ⟨by omega, h⟩
  | x :: t, k + 1, j, w, h => by
    cases j with
    | zero => exact ⟨by omega, h⟩
    | succ j =>
      obtain ⟨h1, h2⟩ := q_get_set t k j w h
      exact ⟨by omega, h2⟩
theorem q_s2_spec {l : List (Option Value)} {i : Nat} {v : Value} {l' : List (Option Value)} (h : q_s2 l i v = some l') : l'.length = l.length ∧ i + 1 < l.length ∧ ∀ j w, q_get l' j = some w → (j = i ∧ w = v) ∨ (j ≠ i ∧ j ≠ i + 1 ∧ q_get l j = some w ∧ ¬ (j + 1 = i ∧ w.category = 2)) := by
  unfold q_s2 at h
  cases h1 : q_s1 l i v with
  | none => rw [h1] at h; cases h
  | some l1 =>
    rw [h1] at h
    simp only at h
    obtain ⟨g1, g2, g3⟩ := q_s1_spec l i v l1 h1
    cases hb : Nat.blt (i + 1) l1.length with
    | false => rw [hb] at h; cases h
    | true =>
      rw [hb] at h
      have e : l1.set (i + 1) none = l' := Option.some.inj h
      subst e
      have hlt : i + 1 < l1.length := Nat.le_of_ble_eq_true hb
      refine ⟨by simp [g1], by omega, fun j w hj => ?_⟩
      obtain ⟨k1, k2⟩ := q_get_set l1 (i + 1) j w hj
      rcases g3 j w k2 with ⟨e1, e2⟩ | ⟨e1, e2, e3⟩
      · exact Or.inl ⟨e1, e2⟩
      · exact Or.inr ⟨e1, k1, e2, e3⟩
theorem q_lr_s1 {G : q_G} {ls' : Array Slot} {l l' : List (Option Value)} {i : Nat} {v : Value} (h : q_s1 l i v = some l') (hh : lv_has ls' l.length ((i, q_v G v) :: (q_as0 G l).filter (fun q => !(q.1 == i) && !(q.1 + 1 == i && q.2.category == 2)))) : q_lr G ls' l' := by
  obtain ⟨h1, h2, h3⟩ := q_s1_spec l i v l' h
  refine ⟨by rw [h1]; exact hh.1, hh.2.1, fun j w hj => ?_⟩
  rcases h3 j w hj with ⟨rfl, rfl⟩ | ⟨e1, e2, e3⟩
  · exact hh.2.2 (j, q_v G w) List.mem_cons_self
  · refine hh.2.2 (j, q_v G w) (List.mem_cons_of_mem _ (List.mem_filter.mpr ⟨q_mem_as e2, ?_⟩))
    simp only [q_v_cat, Bool.and_eq_true, Bool.not_eq_true', beq_eq_false_iff_ne, ne_eq, Bool.and_eq_false_iff]
    refine ⟨e1, ?_⟩
    by_cases z : j + 1 = i
    · exact Or.inr (fun q => e3 ⟨z, q⟩)
    · exact Or.inl z
theorem q_lr_s2 {G : q_G} {ls' : Array Slot} {l l' : List (Option Value)} {i : Nat} {v : Value} (h : q_s2 l i v = some l') (hh : lv_has ls' l.length ((i, q_v G v) :: (q_as0 G l).filter (fun q => !(q.1 == i) && (!(q.1 == i + 1) && !(q.1 + 1 == i && q.2.category == 2))))) : q_lr G ls' l' := by
  obtain ⟨h1, h2, h3⟩ := q_s2_spec h
  refine ⟨by rw [h1]; exact hh.1, hh.2.1, fun j w hj => ?_⟩
  rcases h3 j w hj with ⟨rfl, rfl⟩ | ⟨e1, e0, e2, e3⟩
  · exact hh.2.2 (j, q_v G w) List.mem_cons_self
  · refine hh.2.2 (j, q_v G w) (List.mem_cons_of_mem _ (List.mem_filter.mpr ⟨q_mem_as e2, ?_⟩))
    simp only [q_v_cat, Bool.and_eq_true, Bool.not_eq_true', beq_eq_false_iff_ne, ne_eq, Bool.and_eq_false_iff]
    refine ⟨e1, e0, ?_⟩
    by_cases z : j + 1 = i
    · exact Or.inr (fun q => e3 ⟨z, q⟩)
    · exact Or.inl z
theorem q_apart {args : Array Value} {s : State} {G : q_G} {ci : Nat} (hts : ∀ w ∈ q_good, w.before args s = true) (E : q_E G s) (h : ci < 9) : ∀ a b, a < q_nf ci → b < q_nf ci → a ≠ b → q_dI G ci a ≠ q_dI G ci b := by
  intro x y hx hy hne
  obtain ⟨hS, -⟩ := E.1 ci h
  obtain ⟨_, _, _, fa, hia, ea⟩ := hS x hx
  obtain ⟨_, _, _, fb, hib, eb⟩ := hS y hy
  rw [← ea, ← eb]
  refine u_apart (u_lays hts (q_F_in h) hx) (u_lays hts (q_F_in h) hy) hia hib ?_
  rw [(State.fieldFound?_type hia (q_fty_ok h hx)).1, (State.fieldFound?_type hib (q_fty_ok h hy)).1]
  exact q_nm h hx hy hne
end
section
theorem q_tg_ok {pc : Nat} {off : Int} (h : q_jmp pc off = true) : (pc : Int) + off = (q_tg pc off : Int) := by
  have h1 : 0 ≤ (pc : Int) + off := of_decide_eq_true h
  unfold q_tg
  omega
section QP
variable {p : Program} {l : Launch} {e : Env} {R : Room} {s : State} {m : MethodId} {args : Array Value} {below : List Frame} {meth : Method} {c : Code} {H : Heap} {locs : List Loc} {cells slots : Nat} {Q : State → Prop}
set_option maxHeartbeats 4000000 in
theorem q_pure_sound {G : q_G} {cc : ByteArray} {own pc : Nat} {i : Instr} {ll ll' : List (Option Value)} {st st' : List Value} {pc' : Nat} {ls : Array Slot} (hexec : p.tables.exec = Jvm.exec) (hb : c.code = cc) (hown : s.vm.findClass (q_cn own) = some m.cls) (hts : ∀ w ∈ q_good, w.before args s = true)
    (E : q_E G s) (hS : va_S (q_A G) s.heap H locs) {len : Nat} (hd : decode cc pc = .ok (i, len)) (hlen : q_lk i len = true) (hok : q_ok pc i = true)
    (hp : q_pure own pc i ll st = some (pc', ll', st')) (hl : q_lr G ls ll) (kk : ∀ ls', q_lr G ls' ll' → ls'.size = ls.size → W p l e R s m args below meth c H locs cells slots Q (F0 m pc' ls' (st'.map (q_v G)))) :
    W p l e R s m args below meth c H locs cells slots Q (F0 m pc ls (st.map (q_v G))) := by
  cases i
  case iconst n =>
    have hlen : Nat.beq len _ = true := hlen
    obtain rfl := Nat.eq_of_beq_eq_true hlen
    cases hp
    exact lv_iconst (v := q_c n) hexec hb hd (of_decide_eq_true hok) (kk ls hl rfl)
  case bipush n =>
    have hlen : Nat.beq len _ = true := hlen
    obtain rfl := Nat.eq_of_beq_eq_true hlen
    cases hp
    exact lv_bipush (v := q_c n) hexec hb hd (of_decide_eq_true hok) (kk ls hl rfl)
  case sipush n =>
    have hlen : Nat.beq len _ = true := hlen
    obtain rfl := Nat.eq_of_beq_eq_true hlen
    cases hp
    exact lv_sipush (v := q_c n) hexec hb hd (of_decide_eq_true hok) (kk ls hl rfl)
  case lconst n =>
    have hlen : Nat.beq len _ = true := hlen
    obtain rfl := Nat.eq_of_beq_eq_true hlen
    cases hp
    exact lv_lconst (v := lN n.val) hexec hb hd rfl (kk ls hl rfl)
  case ldc x =>
    have hlen : Nat.beq len _ = true := hlen
    obtain rfl := Nat.eq_of_beq_eq_true hlen
    dsimp only [q_pure] at hp
    cases hq : q_ci own x with
    | none => simp only [hq] at hp; cases hp
    | some v =>
      simp only [hq] at hp
      cases hp
      exact lv_ldc hexec hb hown (hts _ (q_ci_ok hq)) hd (kk ls hl rfl)
  case ldc_w x =>
    have hlen : Nat.beq len _ = true := hlen
    obtain rfl := Nat.eq_of_beq_eq_true hlen
    dsimp only [q_pure] at hp
    cases hq : q_ci own x with
    | none => simp only [hq] at hp; cases hp
    | some v =>
      simp only [hq] at hp
      cases hp
      exact lv_ldcw hexec hb hown (hts _ (q_ci_ok hq)) hd (kk ls hl rfl)
  case ldc2_w x =>
    have hlen : Nat.beq len _ = true := hlen
    obtain rfl := Nat.eq_of_beq_eq_true hlen
    dsimp only [q_pure] at hp
    cases hq : q_cl own x with
    | none => simp only [hq] at hp; cases hp
    | some v =>
      simp only [hq] at hp
      cases hp
      exact lv_ldc2 hexec hb hown (hts _ (q_cl_ok hq)) hd (kk ls hl rfl)
  case iload_n k =>
    have hlen : Nat.beq len _ = true := hlen
    obtain rfl := Nat.eq_of_beq_eq_true hlen
    dsimp only [q_pure] at hp
    split at hp
    · rename_i x hq
      cases hp
      exact lv_iload_n hexec hb hd rfl (hl.2.2 _ _ hq) (kk ls hl rfl)
    · cases hp
  case iload k =>
    have hlen : Nat.beq len _ = true := hlen
    obtain rfl := Nat.eq_of_beq_eq_true hlen
    dsimp only [q_pure] at hp
    split at hp
    · rename_i x hq
      cases hp
      exact lv_iload hexec hb hd (hl.2.2 _ _ hq) (kk ls hl rfl)
    · cases hp
  case lload_n k =>
    have hlen : Nat.beq len _ = true := hlen
    obtain rfl := Nat.eq_of_beq_eq_true hlen
    dsimp only [q_pure] at hp
    split at hp
    · rename_i x hq
      cases hp
      exact lv_lload_n hexec hb hd rfl (hl.2.2 _ _ hq) (kk ls hl rfl)
    · cases hp
  case lload k =>
    have hlen : Nat.beq len _ = true := hlen
    obtain rfl := Nat.eq_of_beq_eq_true hlen
    dsimp only [q_pure] at hp
    split at hp
    · rename_i x hq
      cases hp
      exact lv_lload hexec hb hd (hl.2.2 _ _ hq) (kk ls hl rfl)
    · cases hp
  case aload_n k =>
    have hlen : Nat.beq len _ = true := hlen
    obtain rfl := Nat.eq_of_beq_eq_true hlen
    dsimp only [q_pure] at hp
    split at hp
    · rename_i x hq
      cases hp
      exact lv_aload_n hexec hb hd rfl (hl.2.2 _ _ hq) (kk ls hl rfl)
    · cases hp
  case aload k =>
    have hlen : Nat.beq len _ = true := hlen
    obtain rfl := Nat.eq_of_beq_eq_true hlen
    dsimp only [q_pure] at hp
    split at hp
    · rename_i x hq
      cases hp
      exact lv_aload hexec hb hd (hl.2.2 _ _ hq) (kk ls hl rfl)
    · cases hp
  case istore_n k =>
    have hlen : Nat.beq len _ = true := hlen
    obtain rfl := Nat.eq_of_beq_eq_true hlen
    dsimp only [q_pure] at hp
    split at hp
    · rename_i x r
      cases hq : q_s1 ll k.val (.int x) with
      | none => simp only [hq] at hp; cases hp
      | some l1 =>
        simp only [hq] at hp
        cases hp
        exact lv_istore_n hexec hb hd rfl (q_lr_has hl) (q_s1_spec _ _ _ _ hq).2.1 rfl (fun ls1 h1 => kk ls1 (q_lr_s1 hq h1) (h1.1.trans hl.1.symm))
    · cases hp
  case istore k =>
    have hlen : Nat.beq len _ = true := hlen
    obtain rfl := Nat.eq_of_beq_eq_true hlen
    dsimp only [q_pure] at hp
    split at hp
    · rename_i x r
      cases hq : q_s1 ll k (.int x) with
      | none => simp only [hq] at hp; cases hp
      | some l1 =>
        simp only [hq] at hp
        cases hp
        exact lv_istore hexec hb hd (q_lr_has hl) (q_s1_spec _ _ _ _ hq).2.1 rfl (fun ls1 h1 => kk ls1 (q_lr_s1 hq h1) (h1.1.trans hl.1.symm))
    · cases hp
  case lstore_n k =>
    have hlen : Nat.beq len _ = true := hlen
    obtain rfl := Nat.eq_of_beq_eq_true hlen
    dsimp only [q_pure] at hp
    split at hp
    · rename_i x r
      cases hq : q_s2 ll k.val (.long x) with
      | none => simp only [hq] at hp; cases hp
      | some l1 =>
        simp only [hq] at hp
        cases hp
        exact lv_lstore_n hexec hb hd rfl (q_lr_has hl) (q_s2_spec hq).2.1 rfl (fun ls1 h1 => kk ls1 (q_lr_s2 hq h1) (h1.1.trans hl.1.symm))
    · cases hp
  case lstore k =>
    have hlen : Nat.beq len _ = true := hlen
    obtain rfl := Nat.eq_of_beq_eq_true hlen
    dsimp only [q_pure] at hp
    split at hp
    · rename_i x r
      cases hq : q_s2 ll k (.long x) with
      | none => simp only [hq] at hp; cases hp
      | some l1 =>
        simp only [hq] at hp
        cases hp
        exact lv_lstore hexec hb hd (q_lr_has hl) (q_s2_spec hq).2.1 rfl (fun ls1 h1 => kk ls1 (q_lr_s2 hq h1) (h1.1.trans hl.1.symm))
    · cases hp
  case astore_n k =>
    have hlen : Nat.beq len _ = true := hlen
    obtain rfl := Nat.eq_of_beq_eq_true hlen
    dsimp only [q_pure] at hp
    split at hp
    · rename_i x r
      cases hq : q_s1 ll k.val (.ref x) with
      | none => simp only [hq] at hp; cases hp
      | some l1 =>
        simp only [hq] at hp
        cases hp
        exact lv_astore_n hexec hb hd rfl (q_lr_has hl) (q_s1_spec _ _ _ _ hq).2.1 rfl (fun ls1 h1 => kk ls1 (q_lr_s1 hq h1) (h1.1.trans hl.1.symm))
    · cases hp
  case astore k =>
    have hlen : Nat.beq len _ = true := hlen
    obtain rfl := Nat.eq_of_beq_eq_true hlen
    dsimp only [q_pure] at hp
    split at hp
    · rename_i x r
      cases hq : q_s1 ll k (.ref x) with
      | none => simp only [hq] at hp; cases hp
      | some l1 =>
        simp only [hq] at hp
        cases hp
        exact lv_astore hexec hb hd (q_lr_has hl) (q_s1_spec _ _ _ _ hq).2.1 rfl (fun ls1 h1 => kk ls1 (q_lr_s1 hq h1) (h1.1.trans hl.1.symm))
    · cases hp
  case iinc k n =>
    have hlen : Nat.beq len _ = true := hlen
    obtain rfl := Nat.eq_of_beq_eq_true hlen
    dsimp only [q_pure] at hp
    split at hp
    · rename_i x hg
      cases hq : q_s1 ll k (.int (x + q_c n)) with
      | none => simp only [hq] at hp; cases hp
      | some l1 =>
        simp only [hq] at hp
        cases hp
        obtain ⟨j, hj⟩ := List.getElem?_of_mem (q_mem_as (G := G) hg)
        exact lv_iinc hexec hb hd (q_lr_has hl) hj (by rw [of_decide_eq_true hok]) (q_s1_spec _ _ _ _ hq).2.1 rfl (fun ls1 h1 => kk ls1 (q_lr_s1 hq h1) (h1.1.trans hl.1.symm))
    · cases hp
  case iadd =>
    have hlen : Nat.beq len _ = true := hlen
    obtain rfl := Nat.eq_of_beq_eq_true hlen
    dsimp only [q_pure] at hp
    split at hp
    · cases hp
      exact lv_iadd hexec hb hd (kk ls hl rfl)
    · cases hp
  case isub =>
    have hlen : Nat.beq len _ = true := hlen
    obtain rfl := Nat.eq_of_beq_eq_true hlen
    dsimp only [q_pure] at hp
    split at hp
    · cases hp
      exact lv_isub hexec hb hd (kk ls hl rfl)
    · cases hp
  case imul =>
    have hlen : Nat.beq len _ = true := hlen
    obtain rfl := Nat.eq_of_beq_eq_true hlen
    dsimp only [q_pure] at hp
    split at hp
    · cases hp
      exact lv_imul hexec hb hd (kk ls hl rfl)
    · cases hp
  case iand =>
    have hlen : Nat.beq len _ = true := hlen
    obtain rfl := Nat.eq_of_beq_eq_true hlen
    dsimp only [q_pure] at hp
    split at hp
    · cases hp
      exact lv_iand hexec hb hd (kk ls hl rfl)
    · cases hp
  case ior =>
    have hlen : Nat.beq len _ = true := hlen
    obtain rfl := Nat.eq_of_beq_eq_true hlen
    dsimp only [q_pure] at hp
    split at hp
    · cases hp
      exact lv_ior hexec hb hd (kk ls hl rfl)
    · cases hp
  case ixor =>
    have hlen : Nat.beq len _ = true := hlen
    obtain rfl := Nat.eq_of_beq_eq_true hlen
    dsimp only [q_pure] at hp
    split at hp
    · cases hp
      exact lv_ixor hexec hb hd (kk ls hl rfl)
    · cases hp
  case ishl =>
    have hlen : Nat.beq len _ = true := hlen
    obtain rfl := Nat.eq_of_beq_eq_true hlen
    dsimp only [q_pure] at hp
    split at hp
    · cases hp
      exact lv_ishl hexec hb hd (kk ls hl rfl)
    · cases hp
  case ishr =>
    have hlen : Nat.beq len _ = true := hlen
    obtain rfl := Nat.eq_of_beq_eq_true hlen
    dsimp only [q_pure] at hp
    split at hp
    · cases hp
      exact lv_ishr hexec hb hd (kk ls hl rfl)
    · cases hp
  case ladd =>
    have hlen : Nat.beq len _ = true := hlen
    obtain rfl := Nat.eq_of_beq_eq_true hlen
    dsimp only [q_pure] at hp
    split at hp
    · cases hp
      exact lv_ladd hexec hb hd (kk ls hl rfl)
    · cases hp
  case lmul =>
    have hlen : Nat.beq len _ = true := hlen
    obtain rfl := Nat.eq_of_beq_eq_true hlen
    dsimp only [q_pure] at hp
    split at hp
    · cases hp
      exact lv_lmul hexec hb hd (kk ls hl rfl)
    · cases hp
  case land =>
    have hlen : Nat.beq len _ = true := hlen
    obtain rfl := Nat.eq_of_beq_eq_true hlen
    dsimp only [q_pure] at hp
    split at hp
    · cases hp
      exact lv_land hexec hb hd (kk ls hl rfl)
    · cases hp
  case lor =>
    have hlen : Nat.beq len _ = true := hlen
    obtain rfl := Nat.eq_of_beq_eq_true hlen
    dsimp only [q_pure] at hp
    split at hp
    · cases hp
      exact lv_lor hexec hb hd (kk ls hl rfl)
    · cases hp
  case lxor =>
    have hlen : Nat.beq len _ = true := hlen
    obtain rfl := Nat.eq_of_beq_eq_true hlen
    dsimp only [q_pure] at hp
    split at hp
    · cases hp
      exact lv_lxor hexec hb hd (kk ls hl rfl)
    · cases hp
  case iushr =>
    have hlen : Nat.beq len _ = true := hlen
    obtain rfl := Nat.eq_of_beq_eq_true hlen
    dsimp only [q_pure] at hp
    split at hp
    · cases hp
      exact lv_iushr hexec hb hd rfl (kk ls hl rfl)
    · cases hp
  case lshl =>
    have hlen : Nat.beq len _ = true := hlen
    obtain rfl := Nat.eq_of_beq_eq_true hlen
    dsimp only [q_pure] at hp
    split at hp
    · cases hp
      exact lv_lshl hexec hb hd rfl (kk ls hl rfl)
    · cases hp
  case lshr =>
    have hlen : Nat.beq len _ = true := hlen
    obtain rfl := Nat.eq_of_beq_eq_true hlen
    dsimp only [q_pure] at hp
    split at hp
    · cases hp
      exact lv_lshr hexec hb hd rfl (kk ls hl rfl)
    · cases hp
  case lushr =>
    have hlen : Nat.beq len _ = true := hlen
    obtain rfl := Nat.eq_of_beq_eq_true hlen
    dsimp only [q_pure] at hp
    split at hp
    · cases hp
      exact lv_lushr hexec hb hd rfl (kk ls hl rfl)
    · cases hp
  case i2l =>
    have hlen : Nat.beq len _ = true := hlen
    obtain rfl := Nat.eq_of_beq_eq_true hlen
    dsimp only [q_pure] at hp
    split at hp
    · cases hp
      exact lv_i2l hexec hb hd rfl (kk ls hl rfl)
    · cases hp
  case l2i =>
    have hlen : Nat.beq len _ = true := hlen
    obtain rfl := Nat.eq_of_beq_eq_true hlen
    dsimp only [q_pure] at hp
    split at hp
    · cases hp
      exact lv_l2i hexec hb hd rfl (kk ls hl rfl)
    · cases hp
  case lcmp =>
    have hlen : Nat.beq len _ = true := hlen
    obtain rfl := Nat.eq_of_beq_eq_true hlen
    dsimp only [q_pure] at hp
    split at hp
    · cases hp
      exact W.lcmp hexec hb hd (kk ls hl rfl)
    · cases hp
  case dup =>
    have hlen : Nat.beq len _ = true := hlen
    obtain rfl := Nat.eq_of_beq_eq_true hlen
    dsimp only [q_pure] at hp
    split at hp
    · rename_i v r
      split at hp
      · rename_i hc
        cases hp
        exact lv_dup hexec hb hd ((q_v_cat v).trans hc) (kk ls hl rfl)
      · cases hp
    · cases hp
  case dup2 =>
    have hlen : Nat.beq len _ = true := hlen
    obtain rfl := Nat.eq_of_beq_eq_true hlen
    dsimp only [q_pure] at hp
    split at hp
    · rename_i v w r
      split at hp
      · rename_i hc
        split at hp
        · rename_i hw
          cases hp
          exact lv_dup2_11 hexec hb hd ((q_v_cat v).trans hc) ((q_v_cat w).trans hw) (kk ls hl rfl)
        · cases hp
      · cases hp
    · cases hp
  case goto off =>
    have hlen : Nat.beq len _ = true := hlen
    obtain rfl := Nat.eq_of_beq_eq_true hlen
    cases hp
    exact lv_goto hexec hb hd (q_tg_ok hok) (kk ls hl rfl)
  case getstatic x =>
    have hlen : Nat.beq len _ = true := hlen
    obtain rfl := Nat.eq_of_beq_eq_true hlen
    dsimp only [q_pure] at hp
    cases hq : q_sr own x with
    | none => simp only [hq] at hp; cases hp
    | some a =>
      simp only [hq] at hp
      cases hp
      have ha : a < 2 := (q_sr_ok hq).1
      have hv : q_v G (.ref a) = .ref (q_ad G a) := by show Value.ref (q_rho G a) = _; unfold q_rho; rw [if_pos (by omega)]
      have hk := kk ls hl rfl
      rw [List.map_cons, hv] at hk
      rcases (q_sr_ok hq).2 with h1 | ⟨host, h1⟩
      · exact va_gets hexec hb (E.2.2.2.2.2.1 a ha) hS hown (hts _ h1) (fun _ z => z) hd hk
      · exact va_getsN hexec hb (E.2.2.2.2.2.1 a ha) hS hown (va_Nw.use rfl (E.2.2.1 _ h1)) (fun _ z => z) hd hk
  all_goals (cases hp)
end QP
end
section
section QE
variable {p : Program} {l : Launch} {e : Env} {R : Room} {s : State} {m : MethodId} {args : Array Value} {below : List Frame} {meth : Method} {c : Code} {H : Heap} {locs : List Loc} {cells slots : Nat} {Q : State → Prop}
variable {G : q_G} {cc : ByteArray} {own pc : Nat} {ls : Array Slot} {rest : List Value} {μ μ' : q_M} {a ci k ty x : Nat} {fin : Bool}
theorem q_getf (hexec : p.tables.exec = Jvm.exec) (hb : c.code = cc) (hown : s.vm.findClass (q_cn own) = some m.cls) (hts : ∀ w ∈ q_good, w.before args s = true) (E : q_E G s) (hd : decode cc pc = .ok (.getfield x, 3))
    (hfr : q_fr own x = some (ci, k, ty, fin)) (hob : q_ob μ.1 a ci) (hH : q_H G μ H) (kk : W p l e R s m args below meth c H locs cells slots Q (F0 m (pc + 3) ls (q_fv G μ ci a k :: rest))) : W p l e R s m args below meth c H locs cells slots Q (F0 m pc ls (.ref (q_rho G a) :: rest)) := by
  obtain ⟨h1, h2, h3, h4, hlink⟩ := q_fr_ok hfr
  obtain ⟨cell, c1, c2, c3, c4⟩ := q_H_obj hH hob
  obtain ⟨hSl, hfc, kC, hkC, hkind⟩ := E.1 ci h1
  obtain ⟨cf, kf, fi, f, hi, hsl⟩ := hSl k h2
  have hst := (u_facts hfc hkC (u_lays hts (q_F_in h1) h2) hi).1
  rcases hlink with h | ⟨host, h, hnf⟩
  · exact W.getf hexec hb hown (hts _ h) hi hst c1 (by rw [c3]; exact fun h => by cases h) (by rw [hsl, c4 k h2]) rfl rfl hd kk
  · exact va_Wgetf hexec hb hown (va_Nw.use rfl (E.2.2.1 _ h)) hi hst c1 (by rw [c3]; exact fun h => by cases h) (by rw [hsl, c4 k h2]) rfl rfl hd kk
theorem q_putf (hexec : p.tables.exec = Jvm.exec) (hb : c.code = cc) (hown : s.vm.findClass (q_cn own) = some m.cls) (hts : ∀ w ∈ q_good, w.before args s = true) (E : q_E G s) (hS : va_S (q_A G) s.heap H locs) (hd : decode cc pc = .ok (.putfield x, 3))
    (hfr : q_fr own x = some (ci, k, ty, fin)) {ini : Bool} (hfin : (!fin || (ini && Nat.beq own ci)) = true) (hini : ini = true → meth.name = "<init>") (hob : q_ob μ.1 a ci) (hH : q_H G μ H) {v : Value} (hn : narrow (q_fty ci k) v = v) (hf : fits (q_fty ci k) v = true)
    (hn1 : μ'.1 = μ.1) (hI : ∀ b, b ≠ a → μ'.2.1 b = μ.2.1 b) (hL : ∀ b, b ≠ a → μ'.2.2.1 b = μ.2.2.1 b) (hR : ∀ b, b ≠ a → μ'.2.2.2 b = μ.2.2.2 b) (hv : ∀ j, updV (q_fv G μ ci a) k v j = q_fv G μ' ci a j)
    (kk : ∀ H' locs', q_H G μ' H' → va_S (q_A G) s.heap H' locs' → W p l e R s m args below meth c H' locs' cells slots Q (F0 m (pc + 3) ls rest)) : W p l e R s m args below meth c H locs cells slots Q (F0 m pc ls (v :: .ref (q_rho G a) :: rest)) := by
  obtain ⟨h1, h2, h3, h4, hlink⟩ := q_fr_ok hfr
  have ha := q_ob_ge hob
  obtain ⟨cell, c1, c2, c3, c4⟩ := q_H_obj hH hob
  have hap := q_apart (G := G) hts E h1
  obtain ⟨hSl, hfc, kC, hkC, hkind⟩ := E.1 ci h1
  obtain ⟨cf, kf, fi, f, hi, hsl⟩ := hSl k h2
  have hst := (u_facts hfc hkC (u_lays hts (q_F_in h1) h2) hi).1
  have fin2 : ∀ (H' : Heap) (locs' : List Loc), H'[q_rho G a]? = some (cell.setSlot f.slot v) → H'.size = H.size → (∀ q, q ≠ q_rho G a → H'[q]? = H[q]?) → locs' = locs ++ [⟨q_rho G a, f.slot⟩] → W p l e R s m args below meth c H' locs' cells slots Q (F0 m (pc + 3) ls rest) := by
    intro H' locs' e1 e2 e3 e4
    subst e4
    rw [hsl] at e1 ⊢
    refine kk H' _ (q_H_put hH ha hn1 e2 e3 ?_ hI hL hR) (hS.put e2 e3 (q_rho_A ha))
    rw [hob.2]
    exact t_OB.to (V := updV (q_fv G μ ci a) k v) ⟨_, e1, c2, c3, t_set c4 hap h2 v⟩ (fun j _ => hv j)
  have hd2 := q_fty_ok h1 h2
  have hlt : f.slot < cell.slots.size := by rw [hsl]; exact k2_hasslot (c4 k h2)
  cases hfb : fin with
  | false =>
    have hlay := hts _ (q_F_in h1 _ (u_in_lay h2))
    unfold u_lay at hlay
    rw [if_neg (by rw [h4, hfb]; decide)] at hlay
    have h6 := u_store hfc hkC hkind hlay hi hd2 hn hf
    rcases hlink with h | ⟨host, h, hnf⟩
    · exact W.putK hexec hb (f := f) ⟨hown, hts _ h, ⟨_, _, _, hi⟩, hst⟩ (by rw [c2]; exact h6) c1 c3 hlt rfl rfl hd (fun H' e1 e2 e3 => fin2 H' _ e1 e2 e3 rfl)
    · exact va_WputK hexec hb (f := f) hown (va_Nw.use rfl (E.2.2.1 _ h)) hi hst (by rw [c2]; exact h6) c1 c3 hlt rfl rfl hd (fun H' e1 e2 e3 => fin2 H' _ e1 e2 e3 rfl)
  | true =>
    rw [hfb] at hfin
    have hfin : (ini && Nat.beq own ci) = true := hfin
    rw [Bool.and_eq_true] at hfin
    have hoc := Nat.eq_of_beq_eq_true hfin.2
    have hlay := hts _ (q_F_in h1 _ (u_in_lay h2))
    unfold u_lay at hlay
    rw [if_pos (by rw [h4, hfb])] at hlay
    have hcf : m.cls = cf := by
      obtain ⟨_, _, c', _, _, _, -, -, hf', -, -, -, hown2, -⟩ := Cond.laysFinal_spec hlay
      have e1 : c' = cf := by have := hi.symm.trans hf'; simp at this; exact this.1.symm
      rw [q_F_own h1 h2, ← hoc] at hown2
      rw [← e1]; exact Option.some.inj (hown.symm.trans hown2)
    have h6 := u_fits hfc hkC hkind (Or.inr hlay) hi hd2 hn hf
    rcases hlink with h | ⟨host, h, hnf⟩
    · exact W.putFinK hexec hb hown (hts _ h) hi hst hcf (hini hfin.1) (by rw [c2]; exact h6) c1 c3 hlt rfl rfl hd (fun H' e1 e2 e3 => fin2 H' _ e1 e2 e3 rfl)
    · rw [hfb] at hnf; cases hnf
theorem q_noU {cA : ClassId} {N : Nat} {f : Nat → Value} : (arrV cA N f).vm ≠ .unknown := fun h => by cases h
theorem q_inV {cA : ClassId} {N : Nat} {f : Nat → Value} {j : Int32} (h : vp_in j N) : ¬ (j < 0 ∨ (arrV cA N f).slots.size ≤ j.toNatClampNeg) := by rw [arrV_size]; exact h
theorem q_inL {j : Int32} {N : Nat} (h : vp_in j N) : j.toNatClampNeg < N := Nat.not_le.mp fun q => h (Or.inr q)
theorem q_iald (hexec : p.tables.exec = Jvm.exec) (hb : c.code = cc) (E : q_E G s) (hS : va_S (q_A G) s.heap H locs) (hd : decode cc pc = .ok (.iaload, 1)) {len : Nat} {j : Int32} (ha : q_ai (q_ln G) μ.1 a len) (hj : vp_in j len) (hH : q_H G μ H)
    (kk : W p l e R s m args below meth c H locs cells slots Q (F0 m (pc + 1) ls (.int (μ.2.1 a j.toNatClampNeg) :: rest))) : W p l e R s m args below meth c H locs cells slots Q (F0 m pc ls (.int j :: .ref (q_rho G a) :: rest)) := by
  rcases ha with ha | ⟨rfl, rfl⟩
  · exact W.iald hexec hb (q_H_arr hH ha (by decide)) ((E.2.1 0 (by decide)).1 _ _) q_noU (q_inV hj) (by rw [arrV_read _ _ (q_inL hj)]; rfl) rfl rfl hd kk
  · obtain ⟨cell, h1, h2, h3, h4, h5, h6, h7⟩ := E.2.2.2.2.1 2 (by decide)
    have hlt := q_inL hj
    have hr : q_rho G 2 = q_ad G 2 := rfl
    rw [hr]
    refine W.iald hexec hb (cell := cell) (v := .int (μ.2.1 2 j.toNatClampNeg)) ?_ h2 h3 (fun q => ?_) ?_ rfl rfl hd kk
    · rw [hS.2.1 _ (Array.getElem?_eq_some_iff.mp h1).1 h7]; exact h1
    · rcases q with q | q
      · exact hj (Or.inl q)
      · exact hj (Or.inr (Nat.le_trans h4 q))
    · rw [h6 _ hlt, hH.2.2.2 2 (by decide) _ hlt]
theorem q_lald (hexec : p.tables.exec = Jvm.exec) (hb : c.code = cc) (E : q_E G s) (hd : decode cc pc = .ok (.laload, 1)) {len : Nat} {j : Int32} (ha : q_ar μ.1 a 1 len) (hj : vp_in j len) (hH : q_H G μ H)
    (kk : W p l e R s m args below meth c H locs cells slots Q (F0 m (pc + 1) ls (.long (μ.2.2.1 a j.toNatClampNeg) :: rest))) : W p l e R s m args below meth c H locs cells slots Q (F0 m pc ls (.int j :: .ref (q_rho G a) :: rest)) :=
  W.lald hexec hb (q_H_arr hH ha (by decide)) ((E.2.1 1 (by decide)).1 _ _) q_noU (q_inV hj) (by rw [arrV_read _ _ (q_inL hj)]; rfl) rfl rfl hd kk
theorem q_zald (hexec : p.tables.exec = Jvm.exec) (hb : c.code = cc) (E : q_E G s) (hd : decode cc pc = .ok (.baload, 1)) {len : Nat} {j : Int32} (ha : q_ar μ.1 a 2 len) (hj : vp_in j len) (hH : q_H G μ H)
    (kk : W p l e R s m args below meth c H locs cells slots Q (F0 m (pc + 1) ls (.int (μ.2.1 a j.toNatClampNeg) :: rest))) : W p l e R s m args below meth c H locs cells slots Q (F0 m pc ls (.int j :: .ref (q_rho G a) :: rest)) :=
  W.zald hexec hb (q_H_arr hH ha (by decide)) ((E.2.1 2 (by decide)).1 _ _) q_noU (q_inV hj) (by rw [arrV_read _ _ (q_inL hj)]; rfl) rfl rfl hd kk
theorem q_ref_ty {t : Nat} (h3 : 3 ≤ t) (h7 : t ≤ 7) : (q_ety t).isReference = true := by
  have e : t = 3 ∨ t = 4 ∨ t = 5 ∨ t = 6 ∨ t = 7 := by omega
  rcases e with rfl | rfl | rfl | rfl | rfl <;> rfl
theorem q_ev_ref {t : Nat} (h3 : 3 ≤ t) (j : Nat) : q_ev G μ t a j = va_rf ((μ.2.2.2 a j).map (q_rho G)) := by
  unfold q_ev
  split
  · omega
  · omega
  · omega
  · rfl
theorem q_aald (hexec : p.tables.exec = Jvm.exec) (hb : c.code = cc) (E : q_E G s) (hd : decode cc pc = .ok (.aaload, 1)) {t len b : Nat} {j : Int32} (ha : q_ar μ.1 a t len) (h3 : 3 ≤ t) (h7 : t ≤ 7) (hj : vp_in j len) (hR : μ.2.2.2 a j.toNatClampNeg = some b) (hH : q_H G μ H)
    (kk : W p l e R s m args below meth c H locs cells slots Q (F0 m (pc + 1) ls (.ref (q_rho G b) :: rest))) : W p l e R s m args below meth c H locs cells slots Q (F0 m pc ls (.int j :: .ref (q_rho G a) :: rest)) :=
  W.aald hexec hb (q_H_arr hH ha (by omega)) ((E.2.1 t (by omega)).1 _ _) (q_ref_ty h3 h7) q_noU (q_inV hj) (by rw [arrV_read _ _ (q_inL hj), q_ev_ref h3, hR]; rfl) rfl rfl hd kk
/-- behind a store into a row -/
theorem q_stored {t len : Nat} {j : Int32} {v : Value} {H' : Heap} {locs : List Loc} (hS : va_S (q_A G) s.heap H locs) (ha : q_ar μ.1 a t len) (ht : t < 8) (hH : q_H G μ H) (hn1 : μ'.1 = μ.1) (hI : ∀ b, b ≠ a → μ'.2.1 b = μ.2.1 b) (hL : ∀ b, b ≠ a → μ'.2.2.1 b = μ.2.2.1 b) (hR : ∀ b, b ≠ a → μ'.2.2.2 b = μ.2.2.2 b)
    (hv : ∀ i, updV (q_ev G μ t a) j.toNatClampNeg v i = q_ev G μ' t a i)
    (e1 : H'[q_rho G a]? = some ((arrV (q_dA G t) len (q_ev G μ t a)).setSlot j.toNatClampNeg v)) (e2 : H'.size = H.size) (e3 : ∀ q, q ≠ q_rho G a → H'[q]? = H[q]?) : q_H G μ' H' ∧ va_S (q_A G) s.heap H' (locs ++ [⟨q_rho G a, j.toNatClampNeg⟩]) := by
  have h3 : 3 ≤ a := by have := ha.1; omega
  refine ⟨q_H_put hH h3 hn1 e2 e3 ?_ hI hL hR, hS.put e2 e3 (q_rho_A h3)⟩
  rw [ha.2.2]
  unfold q_cell
  have e : Nat.beq t 8 = false := by
    cases hb : Nat.beq t 8 with
    | false => rfl
    | true => have := Nat.eq_of_beq_eq_true hb; omega
  rw [e]
  show H'[q_rho G a]? = some (arrV _ _ _)
  rw [e1, arrV_store, funext hv]
theorem q_iast (hexec : p.tables.exec = Jvm.exec) (hb : c.code = cc) (E : q_E G s) (hS : va_S (q_A G) s.heap H locs) (hd : decode cc pc = .ok (.iastore, 1)) {len : Nat} {j v : Int32} (ha : q_ar μ.1 a 0 len) (hj : vp_in j len) (hH : q_H G μ H)
    (kk : ∀ H' locs', q_H G (μ.1, q_up μ.2.1 a j.toNatClampNeg v, μ.2.2.1, μ.2.2.2) H' → va_S (q_A G) s.heap H' locs' → W p l e R s m args below meth c H' locs' cells slots Q (F0 m (pc + 1) ls rest)) : W p l e R s m args below meth c H locs cells slots Q (F0 m pc ls (.int v :: .int j :: .ref (q_rho G a) :: rest)) := by
  refine W.iast hexec hb (q_H_arr hH ha (by decide)) ((E.2.1 0 (by decide)).1 _ _) q_noU (q_inV hj) rfl rfl hd fun H' e1 e2 e3 => ?_
  obtain ⟨g1, g2⟩ := q_stored (μ' := (μ.1, q_up μ.2.1 a j.toNatClampNeg v, μ.2.2.1, μ.2.2.2)) hS ha (by decide) hH rfl (fun b hb => va_up_ne _ _ hb) (fun _ _ => rfl) (fun _ _ => rfl) (fun i => by
    simp only [updV, q_ev, q_up, va_up_self]; unfold va_up; split <;> rfl) e1 e2 e3
  exact kk H' _ g1 g2
theorem q_zast (hexec : p.tables.exec = Jvm.exec) (hb : c.code = cc) (E : q_E G s) (hS : va_S (q_A G) s.heap H locs) (hd : decode cc pc = .ok (.bastore, 1)) {len : Nat} {j v : Int32} (ha : q_ar μ.1 a 2 len) (hj : vp_in j len) (hz : q_bz v) (hH : q_H G μ H)
    (kk : ∀ H' locs', q_H G (μ.1, q_up μ.2.1 a j.toNatClampNeg v, μ.2.2.1, μ.2.2.2) H' → va_S (q_A G) s.heap H' locs' → W p l e R s m args below meth c H' locs' cells slots Q (F0 m (pc + 1) ls rest)) : W p l e R s m args below meth c H locs cells slots Q (F0 m pc ls (.int v :: .int j :: .ref (q_rho G a) :: rest)) := by
  refine W.zast hexec hb (q_H_arr hH ha (by decide)) ((E.2.1 2 (by decide)).1 _ _) q_noU (q_inV hj) rfl rfl hd fun H' e1 e2 e3 => ?_
  have hnz : narrow .boolean (.int v) = .int v := by rcases hz with rfl | rfl <;> rfl
  rw [hnz] at e1
  obtain ⟨g1, g2⟩ := q_stored (μ' := (μ.1, q_up μ.2.1 a j.toNatClampNeg v, μ.2.2.1, μ.2.2.2)) hS ha (by decide) hH rfl (fun b hb => va_up_ne _ _ hb) (fun _ _ => rfl) (fun _ _ => rfl) (fun i => by
    simp only [updV, q_ev, q_up, va_up_self]; unfold va_up; split <;> rfl) e1 e2 e3
  exact kk H' _ g1 g2
theorem q_last (hexec : p.tables.exec = Jvm.exec) (hb : c.code = cc) (E : q_E G s) (hS : va_S (q_A G) s.heap H locs) (hd : decode cc pc = .ok (.lastore, 1)) {len : Nat} {j : Int32} {v : Int64} (ha : q_ar μ.1 a 1 len) (hj : vp_in j len) (hH : q_H G μ H)
    (kk : ∀ H' locs', q_H G (μ.1, μ.2.1, q_up μ.2.2.1 a j.toNatClampNeg v, μ.2.2.2) H' → va_S (q_A G) s.heap H' locs' → W p l e R s m args below meth c H' locs' cells slots Q (F0 m (pc + 1) ls rest)) : W p l e R s m args below meth c H locs cells slots Q (F0 m pc ls (.long v :: .int j :: .ref (q_rho G a) :: rest)) := by
  refine W.last hexec hb (q_H_arr hH ha (by decide)) ((E.2.1 1 (by decide)).1 _ _) q_noU (q_inV hj) rfl rfl hd fun H' e1 e2 e3 => ?_
  obtain ⟨g1, g2⟩ := q_stored (μ' := (μ.1, μ.2.1, q_up μ.2.2.1 a j.toNatClampNeg v, μ.2.2.2)) hS ha (by decide) hH rfl (fun _ _ => rfl) (fun b hb => va_up_ne _ _ hb) (fun _ _ => rfl) (fun i => by
    simp only [updV, q_ev, q_up, va_up_self]; unfold va_up; split <;> rfl) e1 e2 e3
  exact kk H' _ g1 g2
theorem q_ety_el {t : Nat} (h3 : 3 ≤ t) (h6 : t ≤ 6) : q_ety t = .object (q_cn (q_el t)) ∧ q_el t < 9 := by
  have e : t = 3 ∨ t = 4 ∨ t = 5 ∨ t = 6 := by omega
  rcases e with rfl | rfl | rfl | rfl <;> exact ⟨rfl, by decide⟩
theorem q_aast (hexec : p.tables.exec = Jvm.exec) (hb : c.code = cc) (E : q_E G s) (hS : va_S (q_A G) s.heap H locs) (hd : decode cc pc = .ok (.aastore, 1)) {t len b : Nat} {j : Int32} (ha : q_ar μ.1 a t len) (h3 : 3 ≤ t) (h6 : t ≤ 6) (hob : q_ob μ.1 b (q_el t)) (hj : vp_in j len) (hH : q_H G μ H)
    (kk : ∀ H' locs', q_H G (μ.1, μ.2.1, μ.2.2.1, q_up μ.2.2.2 a j.toNatClampNeg (some b)) H' → va_S (q_A G) s.heap H' locs' → W p l e R s m args below meth c H' locs' cells slots Q (F0 m (pc + 1) ls rest)) : W p l e R s m args below meth c H locs cells slots Q (F0 m pc ls (.ref (q_rho G b) :: .int j :: .ref (q_rho G a) :: rest)) := by
  obtain ⟨hety, hel⟩ := q_ety_el h3 h6
  obtain ⟨-, hRA⟩ := E.2.1 t (by omega)
  rw [hety] at hRA
  obtain ⟨kA, comp, g1, g2, g3, g4⟩ := hRA
  obtain ⟨cell, c1, c2, c3, c4⟩ := q_H_obj hH hob
  obtain ⟨-, hfc, kC, hkC, hkind⟩ := E.1 _ hel
  cases hfc.symm.trans g3
  refine W.aast hexec hb (q_H_arr hH ha (by omega)) (fun q h => by cases h) q_noU g1 g2 rfl hkC ⟨fun q => hj (Or.inl q), by rw [arrV_size]; exact q_inL hj⟩ c1 (fun q h => by rw [c3] at h; cases h) (by rw [c2]; exact hkC) (by rw [c2]; exact va_asg _ _) rfl rfl hd fun H' e1 e2 e3 => ?_
  obtain ⟨k1, k2⟩ := q_stored (μ' := (μ.1, μ.2.1, μ.2.2.1, q_up μ.2.2.2 a j.toNatClampNeg (some b))) hS ha (by omega) hH rfl (fun _ _ => rfl) (fun _ _ => rfl) (fun b hb => va_up_ne _ _ hb) (fun i => by
    rw [q_ev_ref h3]; simp only [updV, q_up, va_up_self]; rw [q_ev_ref h3]; unfold va_up; split <;> rfl) e1 e2 e3
  exact kk H' _ k1 k2
theorem q_slen (hexec : p.tables.exec = Jvm.exec) (hb : c.code = cc) (E : q_E G s) (hS : va_S (q_A G) s.heap H locs) (hd : decode cc pc = .ok (.arraylength, 1))
    (kk : W p l e R s m args below meth c H locs cells slots Q (F0 m (pc + 1) ls (.int (nI (q_ln G)) :: rest))) : W p l e R s m args below meth c H locs cells slots Q (F0 m pc ls (.ref (q_rho G 2) :: rest)) := by
  obtain ⟨cell, h1, h2, h3, h4, h5, h6, h7⟩ := E.2.2.2.2.1 2 (by decide)
  have hr : q_rho G 2 = q_ad G 2 := rfl
  rw [hr]
  exact W.alen hexec hb (cell := cell) (by rw [hS.2.1 _ (Array.getElem?_eq_some_iff.mp h1).1 h7]; exact h1) h2 h5 rfl rfl hd kk
theorem q_S_new {H' : Heap} (hS : va_S (q_A G) s.heap H locs) (hz : H.size ≤ H'.size) (ho : ∀ q, q < H.size → H'[q]? = H[q]?) : va_S (q_A G) s.heap H' locs :=
  ⟨Nat.le_trans hS.1 hz, fun q h1 h2 => (ho q (Nat.lt_of_lt_of_le h1 hS.1)).trans (hS.2.1 q h1 h2), hS.2.2⟩
theorem q_newc (hexec : p.tables.exec = Jvm.exec) (hb : c.code = cc) (hown : s.vm.findClass (q_cn own) = some m.cls) (hts : ∀ w ∈ q_good, w.before args s = true) (E : q_E G s) (hS : va_S (q_A G) s.heap H locs) (hd : decode cc pc = .ok (.new x, 3))
    (hcr : q_cr own x = some ci) (hkd : q_kd μ.1 = (8, ci)) (hc : cells + 1 ≤ R.cells) (hsl : slots + q_nf ci ≤ R.slots) (hH : q_H G μ H)
    (kk : ∀ H', q_H G (μ.1 + 1, va_up μ.2.1 μ.1 (fun _ => 0), va_up μ.2.2.1 μ.1 (fun _ => 0), va_up μ.2.2.2 μ.1 (fun _ => none)) H' → va_S (q_A G) s.heap H' locs → W p l e R s m args below meth c H' locs (cells + 1) (slots + q_nf ci) Q (F0 m (pc + 3) ls (.ref (q_rho G μ.1) :: rest))) : W p l e R s m args below meth c H locs cells slots Q (F0 m pc ls rest) := by
  obtain ⟨h1, h2⟩ := q_cr_ok hcr
  obtain ⟨h3, h4⟩ := q_cls_ok h1
  have hKn := E.1 ci h1
  refine W.newcK hexec hb hown (hts _ h2) (hts _ h3) (hts _ h4) rfl hd hc hsl hKn.2.1 (q_H_at hH) fun H' kC hkC e1 z1 o1 => ?_
  have o1 : ∀ q, q < H.size → H'[q]? = H[q]? := fun q hq => o1 q (by rw [← q_H_at hH]; exact hq)
  have z1 : H'.size = H.size + 1 := by rw [z1, q_H_at hH]
  refine kk H' (q_H_new hH rfl z1 o1 ?_ (fun b hb => va_up_ne _ _ hb) (fun b hb => va_up_ne _ _ hb) (fun b hb => va_up_ne _ _ hb)) (q_S_new hS (by omega) o1)
  rw [hkd]
  exact (u_born (q_fty ci) hts (q_F_in h1) hKn hkC e1 (fun k hk => q_fty_ok h1 hk)).to (fun k hk => by
    rw [q_fty_def h1 hk]
    simp only [q_fv, va_up_self, Option.map_none]
    rfl)
theorem q_newa (hexec : p.tables.exec = Jvm.exec) (hb : c.code = cc) (hts : ∀ w ∈ q_good, w.before args s = true) (E : q_E G s) (hS : va_S (q_A G) s.heap H locs) {t : ArrayType} {tg N : Nat} {v : Int32} (hd : decode cc pc = .ok (.newarray t, 2))
    (htg : q_tagOf t = some tg) (hkd : q_kd μ.1 = (tg, N)) (hv : ¬ v < 0) (hN : v.toNatClampNeg = N) (hN1 : N ≤ 10000) (hc : cells + 1 ≤ R.cells) (hsl : slots + N ≤ R.slots) (hH : q_H G μ H)
    (kk : ∀ H', q_H G (μ.1 + 1, va_up μ.2.1 μ.1 (fun _ => 0), va_up μ.2.2.1 μ.1 (fun _ => 0), μ.2.2.2) H' → va_S (q_A G) s.heap H' locs → W p l e R s m args below meth c H' locs (cells + 1) (slots + N) Q (F0 m (pc + 2) ls (.ref (q_rho G μ.1) :: rest))) : W p l e R s m args below meth c H locs cells slots Q (F0 m pc ls (.int v :: rest)) := by
  have ht : tg < 3 ∧ newarray.typeOf t = q_ety tg ∧ Cond.arrayClass (newarray.typeOf t) ∈ q_good ∧ N * componentBytes (newarray.typeOf t) ≤ 536870912 := by
    cases t
    case int => obtain rfl := Option.some.inj htg; exact ⟨by decide, rfl, q_arrcls _ (Or.inl rfl), by show N * 4 ≤ _; omega⟩
    case long => obtain rfl := Option.some.inj htg; exact ⟨by decide, rfl, q_arrcls _ (Or.inr (Or.inl rfl)), by show N * 8 ≤ _; omega⟩
    case boolean => obtain rfl := Option.some.inj htg; exact ⟨by decide, rfl, q_arrcls _ (Or.inr (Or.inr rfl)), by show N * 1 ≤ _; omega⟩
    all_goals exact absurd htg (fun z => by cases z)
  obtain ⟨ht1, ht2, ht3, ht4⟩ := ht
  refine va_newaK hexec hb (hts _ ht3) rfl hd rfl hv hN ht4 hc hsl (q_H_at hH) fun H' cA e1 z1 o1 hAr hNm => ?_
  have o1 : ∀ q, q < H.size → H'[q]? = H[q]? := fun q hq => o1 q (by rw [← q_H_at hH]; exact hq)
  have z1 : H'.size = H.size + 1 := by rw [z1, q_H_at hH]
  have hcA : cA = q_dA G tg := by
    have h := (E.2.1 tg (by omega)).2
    rw [ht2] at hNm
    have e : tg = 0 ∨ tg = 1 ∨ tg = 2 := by omega
    rcases e with rfl | rfl | rfl <;> exact Option.some.inj (hNm.symm.trans h)
  refine kk H' (q_H_new hH rfl z1 o1 ?_ (fun b hb => va_up_ne _ _ hb) (fun b hb => va_up_ne _ _ hb) (fun _ _ => rfl)) (q_S_new hS (by omega) o1)
  rw [hkd]
  unfold q_cell
  have e : Nat.beq tg 8 = false := by
    have e : tg = 0 ∨ tg = 1 ∨ tg = 2 := by omega
    rcases e with rfl | rfl | rfl <;> rfl
  rw [e]
  show H'[q_rho G μ.1]? = some (arrV _ _ _)
  rw [e1, hcA, ht2]
  have e : tg = 0 ∨ tg = 1 ∨ tg = 2 := by omega
  rcases e with rfl | rfl | rfl <;> (congr 2; funext j; simp only [q_ev, va_up_self]; rfl)
theorem q_anew (hexec : p.tables.exec = Jvm.exec) (hb : c.code = cc) (hown : s.vm.findClass (q_cn own) = some m.cls) (hts : ∀ w ∈ q_good, w.before args s = true) (E : q_E G s) (hS : va_S (q_A G) s.heap H locs) {t N : Nat} {v : Int32} (hd : decode cc pc = .ok (.anewarray x, 3))
    (hcr : q_cr own x = some ci) (hkd : q_kd μ.1 = (t, N)) (h3 : 3 ≤ t) (h6 : t ≤ 6) (hel : q_el t = ci) (hv : ¬ v < 0) (hN : v.toNatClampNeg = N) (hN1 : N ≤ 10000) (hc : cells + 1 ≤ R.cells) (hsl : slots + N ≤ R.slots) (hH : q_H G μ H)
    (kk : ∀ H', q_H G (μ.1 + 1, μ.2.1, μ.2.2.1, va_up μ.2.2.2 μ.1 (fun _ => none)) H' → va_S (q_A G) s.heap H' locs → W p l e R s m args below meth c H' locs (cells + 1) (slots + N) Q (F0 m (pc + 3) ls (.ref (q_rho G μ.1) :: rest))) : W p l e R s m args below meth c H locs cells slots Q (F0 m pc ls (.int v :: rest)) := by
  subst hN
  subst hel
  obtain ⟨h1, h2⟩ := q_cr_ok hcr
  obtain ⟨hety, -⟩ := q_ety_el h3 h6
  refine W.anew hexec hb hown (hts _ h2) (va_AO.use (E.2.2.2.2.2.2.1 t h3 (by omega))) rfl hd rfl hv (by omega) hc hsl fun cA kA comp g1 g2 g3 g4 => ?_
  have hcA : cA = q_dA G t := by
    have h := (E.2.1 t (by omega)).2
    rw [hety] at h
    obtain ⟨kA', comp', k1, k2, k3, k4⟩ := h
    exact Option.some.inj (g1.symm.trans k4)
  have hz : (H.push { cls := cA, slots := Array.replicate v.toNatClampNeg .null, vm := .none }).size = H.size + 1 := by simp
  have ho : ∀ q, q < H.size → (H.push { cls := cA, slots := Array.replicate v.toNatClampNeg .null, vm := .none })[q]? = H[q]? := fun q hq => by rw [Array.getElem?_push, if_neg (Nat.ne_of_lt hq)]
  rw [q_H_at hH]
  refine kk _ (q_H_new hH rfl hz ho ?_ (fun _ _ => rfl) (fun _ _ => rfl) (fun b hb => va_up_ne _ _ hb)) (q_S_new hS (by omega) ho)
  rw [hkd]
  unfold q_cell
  have e : Nat.beq t 8 = false := by
    cases hb : Nat.beq t 8 with
    | false => rfl
    | true => have := Nat.eq_of_beq_eq_true hb; omega
  rw [e]
  show (H.push _)[q_rho G μ.1]? = some (arrV _ _ _)
  rw [← q_H_at hH, Array.getElem?_push, if_pos rfl, arrV_new, hcA]
  congr 2
  funext j
  rw [q_ev_ref h3]
  simp only [va_up_self, Option.map_none]
  rfl
end QE
end
section
theorem q_nn (z : Int32) (hz : ¬ z < 0) : z.toInt = (z.toNatClampNeg : Int) := by
  have hz0 : (0 : Int) ≤ z.toInt := by
    have := Int32.not_lt.mp hz
    simpa using Int32.le_iff_toInt_le.mp this
  show z.toInt = ((z.toInt.toNat : Nat) : Int)
  omega
theorem q_cat_eq : ∀ (r : List Value) (G : q_G), ((r.map (q_v G)).map fun v => v.category).sum = q_cat r
  | [], _ => rfl
  | v :: r, G => by
    show (q_v G v).category + ((r.map (q_v G)).map fun v => v.category).sum = v.category + q_cat r
    rw [q_v_cat, q_cat_eq r G]
section QCp
variable {p : Program} {l : Launch} {e : Env} {R : Room} {s : State} {m : MethodId} {args : Array Value} {below : List Frame} {meth : Method} {c : Code} {H : Heap} {locs : List Loc} {cells slots : Nat} {Q : State → Prop}
variable {G : q_G} {cc : ByteArray} {own pc : Nat} {ls : Array Slot} {rest : List Value} {μ μ' : q_M} {a x : Nat}
theorem q_copyi (hexec : p.tables.exec = Jvm.exec) (hb : c.code = cc) (hown : s.vm.findClass (q_cn own) = some m.cls) (hts : ∀ w ∈ q_good, w.before args s = true) (E : q_E G s) (hS : va_S (q_A G) s.heap H locs) (hml : ls.size = c.maxLocals) (hd : decode cc pc = .ok (.invokestatic x, 3))
    (hlink : Cond.methodLink (q_cn own) x arraycopyName ∈ q_good) {src n0 n1 : Nat} {scr : Cell} {f : Nat → Int32} {sp dp n : Int32} (hc0 : H[src]? = some scr) (hs6 : s.isArrayOf scr (q_ety 0)) (hs3 : scr.vm ≠ .unknown) (hs4 : n0 ≤ scr.slots.size) (hs5 : ∀ j, j < n0 → scr.slots[j]? = some (Value.int (f j)))
    (ha : q_ar μ.1 a 0 n1) (hcp : q_cp sp dp n n0 n1) (hframes : 1 ≤ R.frames) (hlocals : (rest.map fun v => v.category).sum + 30 ≤ R.locals) (hH : q_H G μ H)
    (kk : ∀ H' locs', q_H G (μ.1, va_up μ.2.1 a (va_cpy f (μ.2.1 a) sp.toNatClampNeg dp.toNatClampNeg n.toNatClampNeg), μ.2.2.1, μ.2.2.2) H' → va_S (q_A G) s.heap H' locs' → W p l e R s m args below meth c H' locs' cells slots Q (F0 m (pc + 3) ls rest)) :
    W p l e R s m args below meth c H locs cells slots Q (F0 m pc ls (.int n :: .int dp :: .ref (q_rho G a) :: .int sp :: .ref src :: rest)) := by
  obtain ⟨h1, h2, h3, h4, h5⟩ := hcp
  have h3a : 3 ≤ a := by have := ha.1; omega
  have hc1 : H[q_rho G a]? = some (arrV (q_dA G 0) n1 (fun j => Value.int (μ.2.1 a j))) := q_H_arr hH ha (by decide)
  have hroom : 2 * 0 + (rest.map fun v => v.category).sum + (nativeFrameWords "java/lang/System" "arraycopy" 5 + 11) ≤ R.locals := by
    have h7 : nativeFrameWords "java/lang/System" "arraycopy" 5 = 7 := by decide +kernel
    omega
  intro T hT X
  obtain ⟨hs6, k0, hk0, cm0, hkk0⟩ := hs6
  obtain ⟨-, k1, hk1, cm1, hkk1⟩ := (E.2.1 0 (by decide)).1 n1 (fun j => Value.int (μ.2.1 a j))
  obtain ⟨vm', X', step⟩ := X.arraycopy hexec hown (hts _ hlink) (hts _ q_cpnat) (hts _ q_cpstat) (hts _ q_cpini) (src := src) (dst := q_rho G a) (cs := scr) (cd := arrV (q_dA G 0) n1 (fun j => Value.int (μ.2.1 a j))) (srcPos := sp) (destPos := dp) (n := n) (by rw [hT]; exact hc0) (by rw [hT]; exact hc1)
    hs6 (fun _ h => by cases h) hs3 (fun h => by cases h) hk0 hk1 hkk0 hkk1 (by decide) h1 h2 h3
    (by rw [q_nn sp h1, q_nn n h3]; omega)
    (by rw [q_nn dp h2, q_nn n h3, arrV_size]; omega)
    (fun vm₁ _ i hi => by
      have e : scr.slots.getD (sp.toNatClampNeg + i) .null = Value.int (f (sp.toNatClampNeg + i)) := by
        rw [Array.getD_eq_getD_getElem?, hs5 _ (by omega)]
        rfl
      refine ⟨?_, ?_⟩
      · rw [e]
        rfl
      · rw [e]
        exact trivial)
    (g := F0 m pc ls (.int n :: .int dp :: .ref (q_rho G a) :: .int sp :: .ref src :: rest)) rfl hml (rest := rest) rfl (by rw [hb]; exact hd) hframes hroom
  have e1 : copied scr (arrV (q_dA G 0) n1 (fun j => Value.int (μ.2.1 a j))) sp dp n = arrV (q_dA G 0) n1 (fun j => Value.int (va_cpy f (μ.2.1 a) sp.toNatClampNeg dp.toNatClampNeg n.toNatClampNeg j)) := va_copiedX (fun z => Value.int z) scr _ f _ hs5 h4
  rw [e1] at X' step
  generalize hnw : arrV (q_dA G 0) n1 (fun j => Value.int (va_cpy f (μ.2.1 a) sp.toNatClampNeg dp.toNatClampNeg n.toNatClampNeg j)) = nw at X' step
  have hl : q_rho G a < H.size := (Array.getElem?_eq_some_iff.mp hc1).1
  have hheap : ((T.setVm vm').setCell (q_rho G a) nw).heap = H.setIfInBounds (q_rho G a) nw := by rw [← hT]; rfl
  have oq : ∀ q : Nat, q ≠ q_rho G a → (H.setIfInBounds (q_rho G a) nw)[q]? = H[q]? := fun q hq => by simp [Array.getElem?_setIfInBounds, Ne.symm hq]
  have zq : (H.setIfInBounds (q_rho G a) nw).size = H.size := by simp
  have eq1 : (H.setIfInBounds (q_rho G a) nw)[q_rho G a]? = some nw := by simp [Array.getElem?_setIfInBounds, hl]
  obtain ⟨t, a1, b1⟩ := kk _ _ (q_H_put hH h3a rfl zq oq (by
      rw [ha.2.2]
      show (H.setIfInBounds (q_rho G a) nw)[q_rho G a]? = some (arrV _ _ _)
      rw [eq1, ← hnw]
      congr 2
      funext j
      simp only [q_ev, va_up_self]) (fun b hb => va_up_ne _ _ hb) (fun _ _ => rfl) (fun _ _ => rfl)) ⟨by rw [zq]; exact hS.1, fun q g1 g2 => by
      rw [oq q (fun e => g2 (by rw [e]; exact q_rho_A h3a))]
      exact hS.2.1 q g1 g2, fun q hq => by
      rcases List.mem_append.mp hq with h | h
      · exact hS.2.2 q h
      · obtain ⟨z, -, hz⟩ := List.mem_map.mp h
        rw [← hz]
        exact q_rho_A h3a⟩ _ hheap X'
  exact ⟨t, step t a1, b1⟩
theorem q_copyl (hexec : p.tables.exec = Jvm.exec) (hb : c.code = cc) (hown : s.vm.findClass (q_cn own) = some m.cls) (hts : ∀ w ∈ q_good, w.before args s = true) (E : q_E G s) (hS : va_S (q_A G) s.heap H locs) (hml : ls.size = c.maxLocals) (hd : decode cc pc = .ok (.invokestatic x, 3))
    (hlink : Cond.methodLink (q_cn own) x arraycopyName ∈ q_good) {src n0 n1 : Nat} {scr : Cell} {f : Nat → Int64} {sp dp n : Int32} (hc0 : H[src]? = some scr) (hs6 : s.isArrayOf scr (q_ety 1)) (hs3 : scr.vm ≠ .unknown) (hs4 : n0 ≤ scr.slots.size) (hs5 : ∀ j, j < n0 → scr.slots[j]? = some (Value.long (f j)))
    (ha : q_ar μ.1 a 1 n1) (hcp : q_cp sp dp n n0 n1) (hframes : 1 ≤ R.frames) (hlocals : (rest.map fun v => v.category).sum + 30 ≤ R.locals) (hH : q_H G μ H)
    (kk : ∀ H' locs', q_H G (μ.1, μ.2.1, va_up μ.2.2.1 a (va_cpy f (μ.2.2.1 a) sp.toNatClampNeg dp.toNatClampNeg n.toNatClampNeg), μ.2.2.2) H' → va_S (q_A G) s.heap H' locs' → W p l e R s m args below meth c H' locs' cells slots Q (F0 m (pc + 3) ls rest)) :
    W p l e R s m args below meth c H locs cells slots Q (F0 m pc ls (.int n :: .int dp :: .ref (q_rho G a) :: .int sp :: .ref src :: rest)) := by
  obtain ⟨h1, h2, h3, h4, h5⟩ := hcp
  have h3a : 3 ≤ a := by have := ha.1; omega
  have hc1 : H[q_rho G a]? = some (arrV (q_dA G 1) n1 (fun j => Value.long (μ.2.2.1 a j))) := q_H_arr hH ha (by decide)
  have hroom : 2 * 0 + (rest.map fun v => v.category).sum + (nativeFrameWords "java/lang/System" "arraycopy" 5 + 11) ≤ R.locals := by
    have h7 : nativeFrameWords "java/lang/System" "arraycopy" 5 = 7 := by decide +kernel
    omega
  intro T hT X
  obtain ⟨hs6, k0, hk0, cm0, hkk0⟩ := hs6
  obtain ⟨-, k1, hk1, cm1, hkk1⟩ := (E.2.1 1 (by decide)).1 n1 (fun j => Value.long (μ.2.2.1 a j))
  obtain ⟨vm', X', step⟩ := X.arraycopy hexec hown (hts _ hlink) (hts _ q_cpnat) (hts _ q_cpstat) (hts _ q_cpini) (src := src) (dst := q_rho G a) (cs := scr) (cd := arrV (q_dA G 1) n1 (fun j => Value.long (μ.2.2.1 a j))) (srcPos := sp) (destPos := dp) (n := n) (by rw [hT]; exact hc0) (by rw [hT]; exact hc1)
    hs6 (fun _ h => by cases h) hs3 (fun h => by cases h) hk0 hk1 hkk0 hkk1 (by decide) h1 h2 h3
    (by rw [q_nn sp h1, q_nn n h3]; omega)
    (by rw [q_nn dp h2, q_nn n h3, arrV_size]; omega)
    (fun vm₁ _ i hi => by
      have e : scr.slots.getD (sp.toNatClampNeg + i) .null = Value.long (f (sp.toNatClampNeg + i)) := by
        rw [Array.getD_eq_getD_getElem?, hs5 _ (by omega)]
        rfl
      refine ⟨?_, ?_⟩
      · rw [e]
        rfl
      · rw [e]
        exact trivial)
    (g := F0 m pc ls (.int n :: .int dp :: .ref (q_rho G a) :: .int sp :: .ref src :: rest)) rfl hml (rest := rest) rfl (by rw [hb]; exact hd) hframes hroom
  have e1 : copied scr (arrV (q_dA G 1) n1 (fun j => Value.long (μ.2.2.1 a j))) sp dp n = arrV (q_dA G 1) n1 (fun j => Value.long (va_cpy f (μ.2.2.1 a) sp.toNatClampNeg dp.toNatClampNeg n.toNatClampNeg j)) := va_copiedX (fun z => Value.long z) scr _ f _ hs5 h4
  rw [e1] at X' step
  generalize hnw : arrV (q_dA G 1) n1 (fun j => Value.long (va_cpy f (μ.2.2.1 a) sp.toNatClampNeg dp.toNatClampNeg n.toNatClampNeg j)) = nw at X' step
  have hl : q_rho G a < H.size := (Array.getElem?_eq_some_iff.mp hc1).1
  have hheap : ((T.setVm vm').setCell (q_rho G a) nw).heap = H.setIfInBounds (q_rho G a) nw := by rw [← hT]; rfl
  have oq : ∀ q : Nat, q ≠ q_rho G a → (H.setIfInBounds (q_rho G a) nw)[q]? = H[q]? := fun q hq => by simp [Array.getElem?_setIfInBounds, Ne.symm hq]
  have zq : (H.setIfInBounds (q_rho G a) nw).size = H.size := by simp
  have eq1 : (H.setIfInBounds (q_rho G a) nw)[q_rho G a]? = some nw := by simp [Array.getElem?_setIfInBounds, hl]
  obtain ⟨t, a1, b1⟩ := kk _ _ (q_H_put hH h3a rfl zq oq (by
      rw [ha.2.2]
      show (H.setIfInBounds (q_rho G a) nw)[q_rho G a]? = some (arrV _ _ _)
      rw [eq1, ← hnw]
      congr 2
      funext j
      simp only [q_ev, va_up_self]) (fun _ _ => rfl) (fun b hb => va_up_ne _ _ hb) (fun _ _ => rfl)) ⟨by rw [zq]; exact hS.1, fun q g1 g2 => by
      rw [oq q (fun e => g2 (by rw [e]; exact q_rho_A h3a))]
      exact hS.2.1 q g1 g2, fun q hq => by
      rcases List.mem_append.mp hq with h | h
      · exact hS.2.2 q h
      · obtain ⟨z, -, hz⟩ := List.mem_map.mp h
        rw [← hz]
        exact q_rho_A h3a⟩ _ hheap X'
  exact ⟨t, step t a1, b1⟩
/-- calls -/
def q_Pc (G : q_G) (as : List Value) (μ : q_M) : Array Value → State → Prop := fun v U => v = (as.map (q_v G)).toArray ∧ q_E G U ∧ q_H G μ U.heap
def q_Qc (G : q_G) (Q : q_Q) : Array Value → State → Outcome → State → Prop := fun _ st oc t => (∃ r μ', oc = .returned (r.map (q_v G)) ∧ Q r μ' ∧ q_H G μ' t.heap) ∧ va_F (q_A G) st t
def q_rm (d mi : Nat) : Room := { frames := d, cells := ((q_al mi).getD (0, 0)).1, slots := ((q_al mi).getD (0, 0)).2, locals := 45 * d }
abbrev q_wsm (x : q_MI) : List Cond := .code x.1 x.2.1 x.2.2.1 x.2.2.2.1 :: q_good
theorem q_after {st0 : List Value} {mc ms : Nat} {av : Array Value} {Q' : q_Q} (hr : va_Run p l e R s m args below meth c H locs cells slots mc ms (F0 m pc ls st0) rest (q_Qc G Q' av) (q_A G)) (hS : va_S (q_A G) s.heap H locs)
    (kk : ∀ r μ' H1 locs1, Q' r μ' → q_H G μ' H1 → va_S (q_A G) s.heap H1 locs1 → W p l e R s m args below meth c H1 locs1 (cells + mc) (slots + ms) Q (F0 m (pc + 3) ls ((r.map (q_v G)).toList ++ rest))) : W p l e R s m args below meth c H locs cells slots Q (F0 m pc ls st0) := by
  intro T hT X
  obtain ⟨v, st₀, t, T', L, h0, X', hL, e1, e2, ⟨⟨r, μ', hv, hq, hh⟩, hz, hk⟩, st⟩ := hr T hT X
  cases hv
  rw [h0] at hz hk
  obtain ⟨t2, a1, b1⟩ := kk r μ' T'.heap (locs ++ L) hq (by rw [e1]; exact hh)
    ⟨Nat.le_trans hS.1 (by rw [e1]; exact hz), fun q h1 h2 => by rw [e1, hk q (Nat.lt_of_lt_of_le h1 hS.1) h2]; exact hS.2.1 q h1 h2, fun q hq => by
      rcases List.mem_append.mp hq with h | h
      · exact hS.2.2 q h
      · exact hL q h⟩ T' rfl X'
  exact ⟨t2, st t2 a1, b1⟩
theorem q_blind {as : List Value} : FrameBlind (q_Pc G as μ) := fun _ _ _ _ h => ⟨h.1, q_E_same h.2.1, h.2.2⟩
theorem q_pre {as : List Value} (E : q_E G s) (hS : va_S (q_A G) s.heap H locs) (hH : q_H G μ H) : ∀ U : State, U.heap = H → s.WarmedH U.vm → q_Pc G as μ (as.map (q_v G)).toArray U := fun U hU hW =>
  ⟨rfl, q_E_moved hW.alike hW (fun q h1 h2 => by rw [hU]; exact hS.2.1 q h1 h2) (by rw [hU]; exact hS.1) E, by rw [hU]; exact hH⟩
theorem q_spl_spec : ∀ (k : Nat) (acc st as rest : List Value), q_spl k acc st = some (as, rest) → as.reverse ++ rest = acc.reverse ++ st ∧ as.length = acc.length + k
  | 0, acc, st, as, rest, h => by cases h; exact ⟨rfl, rfl⟩
  | k + 1, acc, v :: st, as, rest, h => by
    obtain ⟨h1, h2⟩ := q_spl_spec k (v :: acc) st as rest h
    exact ⟨by rw [h1]; simp, by rw [h2]; simp; omega⟩
  | _ + 1, _, [], _, _, h => by cases h
variable {d mi na : Nat} {as rs st : List Value} {xx : q_MI} {Q' : q_Q}
theorem q_cnN (E : q_E G s) (hts : ∀ w ∈ q_good, w.before args s = true) (hx : q_tab[mi]? = some xx) (hfr : d + 1 ≤ R.frames) (hlo : 45 * d + 45 ≤ R.locals) {np : Nat} (hnp : (parseMethodDescriptor xx.1.desc).map (fun q => q.parameters.length) = some np) {host : String} (hl : (q_cn own, x, xx.1, host) ∈ q_nestM) :
    va_CN R s args (q_cn own) x xx.1 host xx.2.1 xx.2.2.1 xx.2.2.2.1 (q_wsm xx) (q_rm d mi) ((q_al mi).getD (0, 0)).1 ((q_al mi).getD (0, 0)).2 np := by
  have F := q_tab_ok (List.mem_of_getElem? hx)
  exact va_cnB np hts F.1 rfl rfl rfl (E.2.2.2.1 _ hl) (hts _ F.2.1) ⟨F.2.2.1.1, F.2.2.1.2, hnp⟩ ⟨by show d + 1 ≤ _; omega, by show 8 + (xx.2.2.1 + 11) + 45 * d ≤ _; have := F.2.2.2.1; omega⟩
theorem q_cnB (hts : ∀ w ∈ q_good, w.before args s = true) (hx : q_tab[mi]? = some xx) (hfr : d + 1 ≤ R.frames) (hlo : 45 * d + 45 ≤ R.locals) {np : Nat} (hnp : (parseMethodDescriptor xx.1.desc).map (fun q => q.parameters.length) = some np) (hl : Cond.methodLink (q_cn own) x xx.1 ∈ q_good) :
    CallB R s args (q_cn own) x xx.1 xx.2.1 xx.2.2.1 xx.2.2.2.1 (q_wsm xx) (q_rm d mi) ((q_al mi).getD (0, 0)).1 ((q_al mi).getD (0, 0)).2 np := by
  have F := q_tab_ok (List.mem_of_getElem? hx)
  exact callB_of np hts F.1 rfl rfl rfl (hts _ F.2.1) (hts _ hl) ⟨F.2.2.1.1, F.2.2.1.2, hnp⟩ ⟨by show d + 1 ≤ _; omega, by show 8 + (xx.2.2.1 + 11) + 45 * d ≤ _; have := F.2.2.2.1; omega⟩
/-- a call of any kind: what the method answers, and the world behind it -/
theorem q_callV (hexec : p.tables.exec = Jvm.exec) (hb : c.code = cc) (hown : s.vm.findClass (q_cn own) = some m.cls) (hts : ∀ w ∈ q_good, w.before args s = true) (E : q_E G s) (hS : va_S (q_A G) s.heap H locs) (hml : ls.size = c.maxLocals) (hd : decode cc pc = .ok (.invokevirtual x, 3))
    (hmr : q_mr own x = some (mi, na, 0)) {b : Nat} (hsp : q_spl na [] st = some (.ref b :: as, rs)) (hob : q_ob μ.1 b (q_mc mi)) (hcat : q_cat rs ≤ 8) (hfr : d + 1 ≤ R.frames) (hlo : 45 * d + 45 ≤ R.locals) (hH : q_H G μ H)
    (hx : q_tab[mi]? = some xx) (hM : Met l xx.1 (q_wsm xx) (q_rm d mi) (q_Pc G (.ref b :: as) μ) (q_Qc G Q') ((q_al mi).getD (0, 0)).1 ((q_al mi).getD (0, 0)).2 (q_A G))
    (hc : cells + ((q_al mi).getD (0, 0)).1 ≤ R.cells) (hs : slots + ((q_al mi).getD (0, 0)).2 ≤ R.slots)
    (kk : ∀ r μ' H1 locs1, Q' r μ' → q_H G μ' H1 → va_S (q_A G) s.heap H1 locs1 → W p l e R s m args below meth c H1 locs1 (cells + ((q_al mi).getD (0, 0)).1) (slots + ((q_al mi).getD (0, 0)).2) Q (F0 m (pc + 3) ls ((r.map (q_v G)).toList ++ rs.map (q_v G)))) :
    W p l e R s m args below meth c H locs cells slots Q (F0 m pc ls (st.map (q_v G))) := by
  obtain ⟨h1, h2⟩ := q_spl_spec na [] st _ rs hsp
  obtain ⟨y, hy, np, hnp, hnn, hin, hsel, hci, hcn, hlink⟩ := q_mrV_ok hmr
  cases hx.symm.trans hy
  have hst : st.map (q_v G) = (as.map (q_v G)).reverse ++ .ref (q_rho G b) :: rs.map (q_v G) := by
    have e : st = (Value.ref b :: as).reverse ++ rs := by simpa using h1.symm
    rw [e]; simp [q_v]
  obtain ⟨cell, c1, c2, c3, c4⟩ := q_H_obj hH hob
  have hcell : ∃ cellB : Cell, H[q_rho G b]? = some cellB ∧ cellB.vm.isStatics = false ∧ s.vm.findClass (q_cn (q_mc mi)) = some cellB.cls := ⟨cell, c1, by rw [c3]; rfl, by rw [c2]; exact (E.1 _ hci).2.1⟩
  have hlen : (as.map (q_v G)).length = np := by rw [List.length_map]; simp at h2; omega
  have hroom : 2 * (F0 m pc ls (st.map (q_v G))).monitorRoom + ((rs.map (q_v G)).map fun v => v.category).sum ≤ 8 := lv_room (by rw [q_cat_eq]; exact hcat)
  rcases hlink with hl | ⟨host, hl⟩
  · exact q_after (va_runV (As := as.map (q_v G)) (rest := rs.map (q_v G)) (C := q_cn (q_mc mi)) (Ts := q_good) (own := q_cn own) ⟨hexec, hb, rfl, hown, hts⟩ hM ⟨q_cnB hts hx hfr hlo hnp hl, hts _ hin, hts _ hsel⟩ ⟨q_blind, hcell, q_pre (as := .ref b :: as) E hS hH⟩ rfl hlen hml hst hroom hd ⟨hc, hs⟩) hS kk
  · exact q_after (va_runVN (As := as.map (q_v G)) (rest := rs.map (q_v G)) (C := q_cn (q_mc mi)) (Ts := q_good) (own := q_cn own) ⟨hexec, hb, rfl, hown, hts⟩ hM ⟨q_cnN E hts hx hfr hlo hnp hl, hts _ hin, hts _ hsel⟩ ⟨q_blind, hcell, q_pre (as := .ref b :: as) E hS hH⟩ rfl hlen hml hst hroom hd ⟨hc, hs⟩) hS kk
theorem q_callS (hexec : p.tables.exec = Jvm.exec) (hb : c.code = cc) (hown : s.vm.findClass (q_cn own) = some m.cls) (hts : ∀ w ∈ q_good, w.before args s = true) (E : q_E G s) (hS : va_S (q_A G) s.heap H locs) (hml : ls.size = c.maxLocals) (hd : decode cc pc = .ok (.invokestatic x, 3))
    (hmr : q_mr own x = some (mi, na, 2)) (hsp : q_spl na [] st = some (as, rs)) (hcat : q_cat rs ≤ 8) (hfr : d + 1 ≤ R.frames) (hlo : 45 * d + 45 ≤ R.locals) (hH : q_H G μ H)
    (hx : q_tab[mi]? = some xx) (hM : Met l xx.1 (q_wsm xx) (q_rm d mi) (q_Pc G as μ) (q_Qc G Q') ((q_al mi).getD (0, 0)).1 ((q_al mi).getD (0, 0)).2 (q_A G))
    (hc : cells + ((q_al mi).getD (0, 0)).1 ≤ R.cells) (hs : slots + ((q_al mi).getD (0, 0)).2 ≤ R.slots)
    (kk : ∀ r μ' H1 locs1, Q' r μ' → q_H G μ' H1 → va_S (q_A G) s.heap H1 locs1 → W p l e R s m args below meth c H1 locs1 (cells + ((q_al mi).getD (0, 0)).1) (slots + ((q_al mi).getD (0, 0)).2) Q (F0 m (pc + 3) ls ((r.map (q_v G)).toList ++ rs.map (q_v G)))) :
    W p l e R s m args below meth c H locs cells slots Q (F0 m pc ls (st.map (q_v G))) := by
  obtain ⟨h1, h2⟩ := q_spl_spec na [] st _ rs hsp
  obtain ⟨y, hy, np, hnp, hnn, hstt, hlink⟩ := q_mrS_ok hmr
  cases hx.symm.trans hy
  have hst : st.map (q_v G) = (as.map (q_v G)).reverse ++ rs.map (q_v G) := by
    have e : st = as.reverse ++ rs := by simpa using h1.symm
    rw [e]; simp
  have hlen : (as.map (q_v G)).length = np := by rw [List.length_map]; simp at h2; omega
  have hroom : 2 * (F0 m pc ls (st.map (q_v G))).monitorRoom + ((rs.map (q_v G)).map fun v => v.category).sum ≤ 8 := lv_room (by rw [q_cat_eq]; exact hcat)
  rcases hlink with hl | ⟨host, hl⟩
  · exact q_after (va_runS (As := as.map (q_v G)) (rest := rs.map (q_v G)) (Ts := q_good) (own := q_cn own) ⟨hexec, hb, rfl, hown, hts⟩ hM ⟨q_cnB hts hx hfr hlo hnp hl, hts _ hstt⟩ ⟨q_blind, q_pre E hS hH⟩ rfl hlen hml hst hroom hd ⟨hc, hs⟩) hS kk
  · exact q_after (va_runSN (As := as.map (q_v G)) (rest := rs.map (q_v G)) (Ts := q_good) (own := q_cn own) ⟨hexec, hb, rfl, hown, hts⟩ hM ⟨q_cnN E hts hx hfr hlo hnp hl, hts _ hstt, trivial⟩ ⟨q_blind, q_pre E hS hH⟩ rfl hlen hml hst hroom hd ⟨hc, hs⟩) hS kk
theorem q_callI (hexec : p.tables.exec = Jvm.exec) (hb : c.code = cc) (hown : s.vm.findClass (q_cn own) = some m.cls) (hts : ∀ w ∈ q_good, w.before args s = true) (E : q_E G s) (hS : va_S (q_A G) s.heap H locs) (hml : ls.size = c.maxLocals) (hd : decode cc pc = .ok (.invokespecial x, 3))
    (hmr : q_mr own x = some (mi, na, 1)) {b : Nat} (hsp : q_spl na [] st = some (.ref b :: as, rs)) (hcat : q_cat rs ≤ 8) (hfr : d + 1 ≤ R.frames) (hlo : 45 * d + 45 ≤ R.locals) (hH : q_H G μ H)
    (hx : q_tab[mi]? = some xx) (hM : Met l xx.1 (q_wsm xx) (q_rm d mi) (q_Pc G (.ref b :: as) μ) (q_Qc G Q') ((q_al mi).getD (0, 0)).1 ((q_al mi).getD (0, 0)).2 (q_A G))
    (hc : cells + ((q_al mi).getD (0, 0)).1 ≤ R.cells) (hs : slots + ((q_al mi).getD (0, 0)).2 ≤ R.slots)
    (kk : ∀ r μ' H1 locs1, Q' r μ' → q_H G μ' H1 → va_S (q_A G) s.heap H1 locs1 → W p l e R s m args below meth c H1 locs1 (cells + ((q_al mi).getD (0, 0)).1) (slots + ((q_al mi).getD (0, 0)).2) Q (F0 m (pc + 3) ls ((r.map (q_v G)).toList ++ rs.map (q_v G)))) :
    W p l e R s m args below meth c H locs cells slots Q (F0 m pc ls (st.map (q_v G))) := by
  obtain ⟨h1, h2⟩ := q_spl_spec na [] st _ rs hsp
  obtain ⟨y, hy, np, hnp, hnn, hin, hnm, hrt, hlink⟩ := q_mrI_ok hmr
  cases hx.symm.trans hy
  have hst : st.map (q_v G) = (as.map (q_v G)).reverse ++ .ref (q_rho G b) :: rs.map (q_v G) := by
    have e : st = (Value.ref b :: as).reverse ++ rs := by simpa using h1.symm
    rw [e]; simp [q_v]
  have hlen : (as.map (q_v G)).length = np := by rw [List.length_map]; simp at h2; omega
  have hroom : 2 * (F0 m pc ls (st.map (q_v G))).monitorRoom + ((rs.map (q_v G)).map fun v => v.category).sum ≤ 8 := lv_room (by rw [q_cat_eq]; exact hcat)
  obtain ⟨yn, yb, ym, yr, yrest⟩ := xx
  have hrt : yr = none := hrt
  subst hrt
  rcases hlink with hl | ⟨host, hl⟩
  · exact q_after (va_runI (As := as.map (q_v G)) (rest := rs.map (q_v G)) (b := q_rho G b) (Ts := q_good) (own := q_cn own) ⟨hexec, hb, rfl, hown, hts⟩ hM ⟨q_cnB hts hx hfr hlo hnp hl, hnm, hts _ hin⟩ ⟨q_blind, q_pre (as := .ref b :: as) E hS hH⟩ rfl hlen hml hst hroom hd ⟨hc, hs⟩) hS kk
  · exact q_after (va_runIN (As := as.map (q_v G)) (rest := rs.map (q_v G)) (b := q_rho G b) (Ts := q_good) (own := q_cn own) ⟨hexec, hb, rfl, hown, hts⟩ hM ⟨q_cnN E hts hx hfr hlo hnp hl, hnm, hts _ hin⟩ ⟨q_blind, q_pre (as := .ref b :: as) E hS hH⟩ rfl hlen hml hst hroom hd ⟨hc, hs⟩) hS kk
end QCp
end
section
theorem q_arr_c {c : ClassId} {N : Nat} {f g : Nat → Value} (h : ∀ j, j < N → f j = g j) : arrV c N f = arrV c N g := by
  have e : (Array.ofFn (n := N) fun j => f j.val) = Array.ofFn (n := N) fun j => g j.val := by
    congr 1
    funext j
    exact h j.val j.isLt
  unfold arrV
  rw [e]
theorem q_outer (c : ClassId) (N h0 : Nat) : ∀ i : Nat, Jvm.Free.Multi.outerC c N h0 i = arrV c N (fun j => va_rf (if j < i then some (h0 + 1 + j) else none))
  | 0 => by
    show ({ cls := c, slots := Array.replicate N .null, vm := .none } : Cell) = _
    rw [arrV_new]
    refine congrArg (arrV c N) (funext fun j => ?_)
    simp [va_rf]
  | i + 1 => by
    show (Jvm.Free.Multi.outerC c N h0 i).setSlot i (.ref (h0 + 1 + i)) = _
    rw [q_outer c N h0 i, arrV_store]
    refine congrArg (arrV c N) (funext fun j => ?_)
    by_cases e : j = i
    · subst e
      simp [updV, va_rf]
    · by_cases h : j < i
      · simp [updV, e, h, Nat.lt_succ_of_lt h]
      · simp [updV, e, h, show ¬ j < i + 1 by omega]
section QMu
variable {p : Program} {l : Launch} {e : Env} {R : Room} {s : State} {m : MethodId} {args : Array Value} {below : List Frame} {meth : Method} {c : Code} {H : Heap} {locs : List Loc} {cells slots : Nat} {Q : State → Prop}
variable {G : q_G} {cc : ByteArray} {pc : Nat} {ls : Array Slot} {rest : List Value} {μ : q_M}
set_option maxHeartbeats 1000000 in
theorem q_multi (hexec : p.tables.exec = Jvm.exec) (hb : c.code = cc) (hown : s.vm.findClass (q_cn 7) = some m.cls) (hts : ∀ w ∈ q_good, w.before args s = true) (E : q_E G s) (hS : va_S (q_A G) s.heap H locs) (hd : decode cc pc = .ok (.multianewarray 28 2, 4)) {N M : Nat} {n k : Int32}
    (g1 : n = nI N ∧ k = nI M ∧ N ≤ 1000 ∧ M ≤ 1000) (g2 : q_kd μ.1 = (7, N) ∧ ∀ j, j < N → q_kd (μ.1 + 1 + j) = (1, M)) (hc : cells + (N + 1) ≤ R.cells) (hs : slots + (N + N * M) ≤ R.slots) (hH : q_H G μ H)
    (kk : ∀ H', q_H G (μ.1 + (N + 1), μ.2.1, (fun a => if μ.1 < a ∧ a < μ.1 + (N + 1) then (fun _ => 0) else μ.2.2.1 a), va_up μ.2.2.2 μ.1 (fun j => some (μ.1 + 1 + j))) H' → va_S (q_A G) s.heap H' locs → W p l e R s m args below meth c H' locs (cells + (N + 1)) (slots + (N + N * M)) Q (F0 m (pc + 4) ls (.ref (q_rho G μ.1) :: rest))) :
    W p l e R s m args below meth c H locs cells slots Q (F0 m pc ls (.int k :: .int n :: rest)) := by
  obtain ⟨rfl, rfl, hN, hM⟩ := g1
  have eN : (nI N).toNatClampNeg = N := nI_clamp (by omega)
  have eM : (nI M).toNatClampNeg = M := nI_clamp (by omega)
  have hcl : (Cond.classLink "RatchetPost" 28 ("[" ++ (FieldType.array .long).toString)).before args s = true := by
    rw [show "[" ++ (FieldType.array .long).toString = "[[J" by decide +kernel]
    exact hts _ q_mncl
  intro T hT X
  obtain ⟨vm₁, cA, comp, -, fA, fC, hO, -, X', step⟩ := X.multianewarray2F (ty := .long) hexec hown hcl (over_moved (Vm.Alike.refl s.vm) E.2.2.2.2.2.2.2.1) (hts _ (q_arrcls _ (Or.inr (Or.inl rfl)))) (g := F0 m pc ls (.int (nI M) :: .int (nI N) :: rest)) rfl (by rw [hb]; exact hd) rfl (nI_pos (by omega)) (nI_pos (by omega))
    (by rw [eN]; omega) (by rw [eM]; show M * 8 ≤ _; omega) (by rw [eM]; omega) rfl rfl (by rw [eN]; omega) (by rw [eN, eM]; exact hs)
  rw [eN, eM] at X' step
  have hcA : cA = q_dA G 7 := Option.some.inj (fA.symm.trans (E.2.1 7 (by decide)).2)
  have hcm : comp = q_dA G 1 := Option.some.inj (fC.symm.trans (E.2.1 1 (by decide)).2)
  generalize hF : Jvm.Free.Multi.fill (T.setVm vm₁) cA comp N M (defaultValue .long) N = F at X' step
  have hTh : (T.setVm vm₁).heap = H := hT
  obtain ⟨f1, f2, -, -⟩ := Jvm.Free.Multi.fill_facts (T.setVm vm₁) cA comp N M (defaultValue .long) N
  rw [hF, hTh] at f1 f2
  have hold : ∀ x : Nat, x < H.size → F.heap[x]? = H[x]? := fun x hx => by
    have := Jvm.Free.Multi.fill_old (T.setVm vm₁) cA comp N M (defaultValue .long) (a := x) (by rw [hTh]; exact hx) N
    rw [hF, hTh] at this
    exact this
  have hrow : ∀ j : Nat, j < N → F.heap[H.size + 1 + j]? = some (Jvm.Free.Multi.innerC comp M (defaultValue .long)) := fun j hj => by
    have := Jvm.Free.Multi.fill_inner (T.setVm vm₁) cA comp N M (defaultValue .long) N j hj
    rw [hF, hTh] at this
    exact this
  rw [q_outer] at f2
  have hsz := q_H_at hH
  have h3 := hH.1
  have hq : q_H G (μ.1 + (N + 1), μ.2.1, (fun a => if μ.1 < a ∧ a < μ.1 + (N + 1) then (fun _ => 0) else μ.2.2.1 a), va_up μ.2.2.2 μ.1 (fun j => some (μ.1 + 1 + j))) F.heap := by
    refine ⟨by show 3 ≤ μ.1 + (N + 1); omega, by show F.heap.size = q_z G + (μ.1 + (N + 1) - 3); rw [f1, hH.2.1]; omega, fun b hb3 hbn => ?_, fun b hb3 j hj => hH.2.2.2 b hb3 j hj⟩
    have hbn : b < μ.1 + (N + 1) := hbn
    rcases Nat.lt_trichotomy b μ.1 with hlt | heq | hgt
    · exact q_cell_kept (hH.2.2.1 b hb3 hlt) (hold _ (by rw [hsz, q_rho_lt hb3, q_rho_lt h3]; omega)) rfl (if_neg (by omega)) (va_up_ne _ _ (by omega))
    · subst heq
      rw [g2.1]
      show F.heap[q_rho G μ.1]? = some (arrV (q_dA G 7) N _)
      rw [← hsz, f2, hcA]
      refine congrArg some (q_arr_c fun j hj => ?_)
      rw [if_pos hj]
      show va_rf (some (H.size + 1 + j)) = va_rf ((va_up μ.2.2.2 μ.1 (fun j => some (μ.1 + 1 + j)) μ.1 j).map (q_rho G))
      rw [va_up_self]
      show va_rf (some (H.size + 1 + j)) = va_rf (some (q_rho G (μ.1 + 1 + j)))
      rw [hsz, q_rho_lt h3, q_rho_lt (by omega)]
      congr 2
      omega
    · obtain ⟨j, rfl⟩ : ∃ j, b = μ.1 + 1 + j := ⟨b - μ.1 - 1, by omega⟩
      rw [g2.2 j (by omega)]
      show F.heap[q_rho G (μ.1 + 1 + j)]? = some (arrV (q_dA G 1) M _)
      have er : q_rho G (μ.1 + 1 + j) = H.size + 1 + j := by rw [hsz, q_rho_lt h3, q_rho_lt (by omega)]; omega
      rw [er, hrow j (by omega), hcm]
      show some ({ cls := q_dA G 1, slots := Array.replicate M (.long 0), vm := .none } : Cell) = _
      rw [arrV_new]
      refine congrArg some (q_arr_c fun i _ => ?_)
      show Value.long 0 = .long ((if μ.1 < μ.1 + 1 + j ∧ μ.1 + 1 + j < μ.1 + (N + 1) then (fun _ => 0) else μ.2.2.1 (μ.1 + 1 + j)) i)
      rw [if_pos (by omega)]
  have hS2 : va_S (q_A G) s.heap F.heap locs := q_S_new hS (by rw [f1]; omega) hold
  obtain ⟨t, a1, b1⟩ := kk F.heap hq hS2 F rfl (by rw [show cells + (N + 1) = cells + 1 + N by omega, show slots + (N + N * M) = slots + N + N * M by omega]; exact X')
  refine ⟨t, step t ?_, b1⟩
  rw [hT, hsz]
  exact a1
end QMu
section QMain
variable {p : Program} {l : Launch} {e : Env} {R : Room} {s : State} {m : MethodId} {args : Array Value} {below : List Frame} {meth : Method} {c : Code} {Qm : State → Prop}
variable {G : q_G} {cc : ByteArray} {own rt d : Nat} {ini : Bool} {cap : Nat × Nat} {call : q_C} {Q : q_Q}
def q_Y (G : q_G) (cap : Nat × Nat) (p : Program) (l : Launch) (e : Env) (R : Room) (s : State) (m : MethodId) (args : Array Value) (below : List Frame) (meth : Method) (c : Code) (Qm : State → Prop) : q_K := fun pc ll st μ uc us =>
  uc ≤ cap.1 → us ≤ cap.2 → ∀ (H : Heap) (locs : List Loc) (ls : Array Slot), ls.size = c.maxLocals → q_lr G ls ll → q_H G μ H → va_S (q_A G) s.heap H locs → W p l e R s m args below meth c H locs uc us Qm (F0 m pc ls (st.map (q_v G)))
/-- how the method's returns end -/
def q_Rt (G : q_G) (cap : Nat × Nat) (rt : Nat) (Q : q_Q) (cc : ByteArray) (p : Program) (l : Launch) (e : Env) (R : Room) (s : State) (m : MethodId) (args : Array Value) (below : List Frame) (meth : Method) (c : Code) (Qm : State → Prop) : Prop :=
  ∀ (H : Heap) (locs : List Loc) (uc us : Nat) (ls : Array Slot) (pc : Nat) (μ : q_M), uc ≤ cap.1 → us ≤ cap.2 → q_H G μ H → va_S (q_A G) s.heap H locs →
    (∀ v : Int32, decode cc pc = .ok (.ireturn, 1) → (rt = 1 ∨ (rt = 2 ∧ q_bz v)) → Q (some (.int v)) μ → W p l e R s m args below meth c H locs uc us Qm (F0 m pc ls [.int v])) ∧
    (∀ v : Int64, decode cc pc = .ok (.lreturn, 1) → rt = 3 → Q (some (.long v)) μ → W p l e R s m args below meth c H locs uc us Qm (F0 m pc ls [.long v])) ∧
    (∀ v : Nat, decode cc pc = .ok (.areturn, 1) → rt = 4 → Q (some (.ref v)) μ → W p l e R s m args below meth c H locs uc us Qm (F0 m pc ls [.ref (q_rho G v)])) ∧
    (decode cc pc = .ok (.return_, 1) → rt = 0 → Q none μ → W p l e R s m args below meth c H locs uc us Qm (F0 m pc ls []))
def q_CM (G : q_G) (l : Launch) (d : Nat) (call : q_C) : Prop := ∀ mi as μ Q', call mi as μ Q' → ∃ xx, q_tab[mi]? = some xx ∧ Met l xx.1 (q_wsm xx) (q_rm d mi) (q_Pc G as μ) (q_Qc G Q') ((q_al mi).getD (0, 0)).1 ((q_al mi).getD (0, 0)).2 (q_A G)
theorem q_sw_at {K : Nat → Prop} {pc : Nat} {x : Int32} : ∀ (os : List Int) (lo : Int) (j : Nat) (o : Int), q_sw K pc x lo os → os[j]? = some o → x.toInt = lo + j → K (q_tg pc o)
  | [], _, _, _, _, h, _ => by cases h
  | o :: os, lo, 0, o', hs, h, hx => by
    have e : o = o' := Option.some.inj h
    subst e
    exact hs.1 (by simpa using hx)
  | o :: os, lo, j + 1, o', hs, h, hx => q_sw_at os (lo + 1) j o' hs.2 h (by rw [hx]; omega)
theorem q_rmap (r : Option Value) (rs : List Value) : ((r.toList ++ rs).map (q_v G)) = (r.map (q_v G)).toList ++ rs.map (q_v G) := by cases r <;> rfl
theorem q_al_some {mi ac ax : Nat} (h : q_al mi = some (ac, ax)) : (q_al mi).getD (0, 0) = (ac, ax) := by rw [h]; rfl
theorem q_al_none {mi : Nat} (h : q_al mi = none) : (q_al mi).getD (0, 0) = (0, 0) := by rw [h]; rfl
set_option maxHeartbeats 4000000 in
theorem q_eff_sound (hexec : p.tables.exec = Jvm.exec) (hb : c.code = cc) (hown : s.vm.findClass (q_cn own) = some m.cls) (hts : ∀ w ∈ q_good, w.before args s = true) (E : q_E G s) (hini : ini = true → meth.name = "<init>")
    (hcap : cap.1 ≤ R.cells ∧ cap.2 ≤ R.slots) (hfr : d + 1 ≤ R.frames) (hlo : 45 * d + 45 ≤ R.locals) (hcall : q_CM G l d call) (hret : q_Rt G cap rt Q cc p l e R s m args below meth c Qm)
    {pc : Nat} {i : Instr} {ll : List (Option Value)} {st : List Value} {μ : q_M} {uc us len : Nat} (hd : decode cc pc = .ok (i, len)) (hlen : q_lk i len = true) (hok : q_ok pc i = true)
    (h : q_eff (q_ln G) own rt ini cap call Q (q_Y G cap p l e R s m args below meth c Qm) pc i ll st μ uc us) : q_Y G cap p l e R s m args below meth c Qm pc ll st μ uc us := by
  intro huc hus H locs ls hml hl hH hS
  cases i
  case irem =>
    have hlen : Nat.beq len _ = true := hlen
    obtain rfl := Nat.eq_of_beq_eq_true hlen
    dsimp only [q_eff] at h
    split at h
    · exact lv_irem hexec hb hd h.1 (h.2 huc hus H locs ls hml hl hH hS)
    · exact h.elim
  case lrem =>
    have hlen : Nat.beq len _ = true := hlen
    obtain rfl := Nat.eq_of_beq_eq_true hlen
    dsimp only [q_eff] at h
    split at h
    · exact lv_lrem hexec hb hd h.1 (h.2 huc hus H locs ls hml hl hH hS)
    · exact h.elim
  case ifCond c off =>
    have hlen : Nat.beq len _ = true := hlen
    obtain rfl := Nat.eq_of_beq_eq_true hlen
    dsimp only [q_eff] at h
    split at h
    · cases c
      case eq => exact lv_if_eq hexec hb hd (q_tg_ok hok) (fun z => h.1 z huc hus H locs ls hml hl hH hS) (fun z => h.2 z huc hus H locs ls hml hl hH hS)
      case ne => exact lv_if_ne hexec hb hd (q_tg_ok hok) (fun z => h.1 z huc hus H locs ls hml hl hH hS) (fun z => h.2 z huc hus H locs ls hml hl hH hS)
      case lt => exact lv_if_lt hexec hb hd (q_tg_ok hok) (fun z => h.1 z huc hus H locs ls hml hl hH hS) (fun z => h.2 z huc hus H locs ls hml hl hH hS)
      case ge => exact lv_if_ge hexec hb hd (q_tg_ok hok) (fun z => h.1 z huc hus H locs ls hml hl hH hS) (fun z => h.2 z huc hus H locs ls hml hl hH hS)
      case gt => exact lv_if_gt hexec hb hd (q_tg_ok hok) (fun z => h.1 z huc hus H locs ls hml hl hH hS) (fun z => h.2 z huc hus H locs ls hml hl hH hS)
      case le => exact lv_if_le hexec hb hd (q_tg_ok hok) (fun z => h.1 z huc hus H locs ls hml hl hH hS) (fun z => h.2 z huc hus H locs ls hml hl hH hS)
    · exact h.elim
  case if_icmp c off =>
    have hlen : Nat.beq len _ = true := hlen
    obtain rfl := Nat.eq_of_beq_eq_true hlen
    dsimp only [q_eff] at h
    split at h
    · cases c
      case eq => exact lv_icmp_eq hexec hb hd (q_tg_ok hok) (fun z => h.1 z huc hus H locs ls hml hl hH hS) (fun z => h.2 z huc hus H locs ls hml hl hH hS)
      case ne => exact lv_icmp_ne hexec hb hd (q_tg_ok hok) (fun z => h.1 z huc hus H locs ls hml hl hH hS) (fun z => h.2 z huc hus H locs ls hml hl hH hS)
      case lt => exact lv_icmp_lt hexec hb hd (q_tg_ok hok) (fun z => h.1 z huc hus H locs ls hml hl hH hS) (fun z => h.2 z huc hus H locs ls hml hl hH hS)
      case ge => exact lv_icmp_ge hexec hb hd (q_tg_ok hok) (fun z => h.1 z huc hus H locs ls hml hl hH hS) (fun z => h.2 z huc hus H locs ls hml hl hH hS)
      case gt => exact lv_icmp_gt hexec hb hd (q_tg_ok hok) (fun z => h.1 z huc hus H locs ls hml hl hH hS) (fun z => h.2 z huc hus H locs ls hml hl hH hS)
      case le => exact lv_icmp_le hexec hb hd (q_tg_ok hok) (fun z => h.1 z huc hus H locs ls hml hl hH hS) (fun z => h.2 z huc hus H locs ls hml hl hH hS)
    · exact h.elim
  case tableswitch dflt lo hi offs =>
    dsimp only [q_eff] at h
    split at h
    · rename_i x r
      have hok : (q_jmp pc dflt && offs.toList.all (q_jmp pc) && decide (hi - lo + 1 = (offs.size : Int))) = true := hok
      simp only [Bool.and_eq_true] at hok
      obtain ⟨⟨k1, k2⟩, k3⟩ := hok
      have k3 : hi - lo + 1 = (offs.size : Int) := of_decide_eq_true k3
      by_cases hz : x.toInt < lo ∨ hi < x.toInt
      · exact lv_tableOut hexec hb hd hz (q_tg_ok k1) (h.1 hz huc hus H locs ls hml hl hH hS)
      · have z1 : ¬ x.toInt < lo := fun q => hz (Or.inl q)
        have z2 : ¬ hi < x.toInt := fun q => hz (Or.inr q)
        have hlt : (x.toInt - lo).toNat < offs.size := by omega
        have ho : offs[(x.toInt - lo).toNat]? = some offs[(x.toInt - lo).toNat] := Array.getElem?_eq_getElem hlt
        have ho2 : offs.toList[(x.toInt - lo).toNat]? = some offs[(x.toInt - lo).toNat] := by rw [Array.getElem?_toList]; exact ho
        have k4 := List.all_eq_true.mp k2 _ (List.mem_of_getElem? ho2)
        exact lv_tableIn hexec hb hd z1 z2 ho (q_tg_ok k4) (q_sw_at offs.toList lo _ _ h.2 ho2 (by omega) huc hus H locs ls hml hl hH hS)
    · exact h.elim
  case getfield x =>
    have hlen : Nat.beq len _ = true := hlen
    obtain rfl := Nat.eq_of_beq_eq_true hlen
    dsimp only [q_eff] at h
    cases hq : q_fr own x with
    | none => simp only [hq] at h
    | some f =>
      obtain ⟨ci, k, ty, fin⟩ := f
      simp only [hq] at h
      have hft := (q_fr_ok hq).2.2.1
      split at h
      · rename_i a r
        refine q_getf (μ := μ) (a := a) hexec hb hown hts E hd hq h.1 hH ?_
        have h2 := h.2
        unfold q_fv
        rw [hft]
        split at h2
        · exact h2 huc hus H locs ls hml hl hH hS
        · exact h2 huc hus H locs ls hml hl hH hS
        · exact h2 huc hus H locs ls hml hl hH hS
        · rename_i n0 n1 n2
          obtain ⟨b, e1, h3⟩ := h2
          rw [e1]
          split
          · exact absurd rfl n0
          · exact absurd rfl n1
          · exact absurd rfl n2
          · exact h3 huc hus H locs ls hml hl hH hS
      · exact h.elim
  case putfield x =>
    have hlen : Nat.beq len _ = true := hlen
    obtain rfl := Nat.eq_of_beq_eq_true hlen
    dsimp only [q_eff] at h
    cases hq : q_fr own x with
    | none => simp only [hq] at h
    | some f =>
      obtain ⟨ci, k, ty, fin⟩ := f
      simp only [hq] at h
      have hft := (q_fr_ok hq).2.2.1
      cases hf : (!fin || (ini && Nat.beq own ci)) with
      | false => rw [hf] at h; exact h.elim
      | true =>
        rw [hf] at h
        simp only at h
        split at h
        · split at h
          · rename_i v a r
            refine q_putf (μ := μ) (μ' := (μ.1, q_up μ.2.1 a k v, μ.2.2.1, μ.2.2.2)) (a := a) (v := .int v) hexec hb hown hts E hS hd hq hf hini h.1 hH (q_ty0 hq).1  (q_ty0 hq).2 rfl (fun b hb => va_up_ne _ _ hb) (fun _ _ => rfl) (fun _ _ => rfl) ?_ (fun H' locs' hH' hS' => h.2 huc hus H' locs' ls hml hl hH' hS')
            intro j
            simp only [updV, q_fv, q_up, va_up_self]
            by_cases e : j = k
            · subst e
              simp only [hft, va_up_self, if_pos]
            · simp only [va_up_ne _ _ e, if_neg e]
          · exact h.elim
        · split at h
          · rename_i v a r
            refine q_putf (μ := μ) (μ' := (μ.1, q_up μ.2.1 a k v, μ.2.2.1, μ.2.2.2)) (a := a) (v := .int v) hexec hb hown hts E hS hd hq hf hini h.1 hH (q_ty1 hq h.2.1).1  (q_ty1 hq h.2.1).2 rfl (fun b hb => va_up_ne _ _ hb) (fun _ _ => rfl) (fun _ _ => rfl) ?_ (fun H' locs' hH' hS' => h.2.2 huc hus H' locs' ls hml hl hH' hS')
            intro j
            simp only [updV, q_fv, q_up, va_up_self]
            by_cases e : j = k
            · subst e
              simp only [hft, va_up_self, if_pos]
            · simp only [va_up_ne _ _ e, if_neg e]
          · exact h.elim
        · split at h
          · rename_i v a r
            refine q_putf (μ := μ) (μ' := (μ.1, μ.2.1, q_up μ.2.2.1 a k v, μ.2.2.2)) (a := a) (v := .long v) hexec hb hown hts E hS hd hq hf hini h.1 hH (q_ty2 hq).1  (q_ty2 hq).2 rfl (fun _ _ => rfl) (fun b hb => va_up_ne _ _ hb) (fun _ _ => rfl) ?_ (fun H' locs' hH' hS' => h.2 huc hus H' locs' ls hml hl hH' hS')
            intro j
            simp only [updV, q_fv, q_up, va_up_self]
            by_cases e : j = k
            · subst e
              simp only [hft, va_up_self, if_pos]
            · simp only [va_up_ne _ _ e, if_neg e]
          · exact h.elim
        · rename_i n0 n1 n2
          split at h
          · rename_i v a r
            refine q_putf (μ := μ) (μ' := (μ.1, μ.2.1, μ.2.2.1, q_up μ.2.2.2 a k (some v))) (a := a) (v := .ref (q_rho G v)) hexec hb hown hts E hS hd hq hf hini h.1 hH (q_ty3 hq n0 n1 n2 _).1  (q_ty3 hq n0 n1 n2 _).2 rfl (fun _ _ => rfl) (fun _ _ => rfl) (fun b hb => va_up_ne _ _ hb) ?_ (fun H' locs' hH' hS' => h.2 huc hus H' locs' ls hml hl hH' hS')
            intro j
            simp only [updV, q_fv, q_up, va_up_self]
            by_cases e : j = k
            · subst e
              rw [if_pos rfl, hft, va_up_self]
              split
              · exact absurd rfl n0
              · exact absurd rfl n1
              · exact absurd rfl n2
              · rfl
            · simp only [va_up_ne _ _ e, if_neg e]
          · exact h.elim
  case iaload =>
    have hlen : Nat.beq len _ = true := hlen
    obtain rfl := Nat.eq_of_beq_eq_true hlen
    dsimp only [q_eff] at h
    split at h
    · obtain ⟨len, h1, h2, h3⟩ := h
      exact q_iald hexec hb E hS hd h1 h2 hH (h3 huc hus H locs ls hml hl hH hS)
    · exact h.elim
  case laload =>
    have hlen : Nat.beq len _ = true := hlen
    obtain rfl := Nat.eq_of_beq_eq_true hlen
    dsimp only [q_eff] at h
    split at h
    · obtain ⟨len, h1, h2, h3⟩ := h
      exact q_lald hexec hb E hd h1 h2 hH (h3 huc hus H locs ls hml hl hH hS)
    · exact h.elim
  case baload =>
    have hlen : Nat.beq len _ = true := hlen
    obtain rfl := Nat.eq_of_beq_eq_true hlen
    dsimp only [q_eff] at h
    split at h
    · obtain ⟨len, h1, h2, h3⟩ := h
      exact q_zald hexec hb E hd h1 h2 hH (h3 huc hus H locs ls hml hl hH hS)
    · exact h.elim
  case aaload =>
    have hlen : Nat.beq len _ = true := hlen
    obtain rfl := Nat.eq_of_beq_eq_true hlen
    dsimp only [q_eff] at h
    split at h
    · obtain ⟨t, len, b, h1, h2, h3, h4⟩ := h
      exact q_aald hexec hb E hd h1.1 h1.2.1 h1.2.2 h2 h3 hH (h4 huc hus H locs ls hml hl hH hS)
    · exact h.elim
  case iastore =>
    have hlen : Nat.beq len _ = true := hlen
    obtain rfl := Nat.eq_of_beq_eq_true hlen
    dsimp only [q_eff] at h
    split at h
    · obtain ⟨len, h1, h2, h3⟩ := h
      exact q_iast hexec hb E hS hd h1 h2 hH (fun H' locs' hH' hS' => h3 huc hus H' locs' ls hml hl hH' hS')
    · exact h.elim
  case lastore =>
    have hlen : Nat.beq len _ = true := hlen
    obtain rfl := Nat.eq_of_beq_eq_true hlen
    dsimp only [q_eff] at h
    split at h
    · obtain ⟨len, h1, h2, h3⟩ := h
      exact q_last hexec hb E hS hd h1 h2 hH (fun H' locs' hH' hS' => h3 huc hus H' locs' ls hml hl hH' hS')
    · exact h.elim
  case bastore =>
    have hlen : Nat.beq len _ = true := hlen
    obtain rfl := Nat.eq_of_beq_eq_true hlen
    dsimp only [q_eff] at h
    split at h
    · obtain ⟨len, h1, h2, hz, h3⟩ := h
      exact q_zast hexec hb E hS hd h1 h2 hz hH (fun H' locs' hH' hS' => h3 huc hus H' locs' ls hml hl hH' hS')
    · exact h.elim
  case aastore =>
    have hlen : Nat.beq len _ = true := hlen
    obtain rfl := Nat.eq_of_beq_eq_true hlen
    dsimp only [q_eff] at h
    split at h
    · obtain ⟨t, len, h1, h2, h3, h4⟩ := h
      exact q_aast hexec hb E hS hd h1.1 h1.2.1 h1.2.2 h2 h3 hH (fun H' locs' hH' hS' => h4 huc hus H' locs' ls hml hl hH' hS')
    · exact h.elim
  case arraylength =>
    have hlen : Nat.beq len _ = true := hlen
    obtain rfl := Nat.eq_of_beq_eq_true hlen
    dsimp only [q_eff] at h
    split at h
    · obtain ⟨rfl, h2⟩ := h
      exact q_slen hexec hb E hS hd (h2 huc hus H locs ls hml hl hH hS)
    · exact h.elim
  case new x =>
    have hlen : Nat.beq len _ = true := hlen
    obtain rfl := Nat.eq_of_beq_eq_true hlen
    dsimp only [q_eff] at h
    cases hq : q_cr own x with
    | none => simp only [hq] at h
    | some ci =>
      simp only [hq] at h
      obtain ⟨h1, ⟨h2, h3⟩, h4⟩ := h
      exact q_newc hexec hb hown hts E hS hd hq h1 (Nat.le_trans h2 hcap.1) (Nat.le_trans h3 hcap.2) hH (fun H' hH' hS' => h4 h2 h3 H' locs ls hml hl hH' hS')
  case newarray t =>
    have hlen : Nat.beq len _ = true := hlen
    obtain rfl := Nat.eq_of_beq_eq_true hlen
    dsimp only [q_eff] at h
    cases hq : q_tagOf t with
    | none => simp only [hq] at h
    | some tg =>
      simp only [hq] at h
      split at h
      · obtain ⟨N, ⟨g1, g2, g3, g4⟩, ⟨h2, h3⟩, h4⟩ := h
        exact q_newa hexec hb hts E hS hd hq g1 g2 g3 g4 (Nat.le_trans h2 hcap.1) (Nat.le_trans h3 hcap.2) hH (fun H' hH' hS' => h4 h2 h3 H' locs ls hml hl hH' hS')
      · exact h.elim
  case anewarray x =>
    have hlen : Nat.beq len _ = true := hlen
    obtain rfl := Nat.eq_of_beq_eq_true hlen
    dsimp only [q_eff] at h
    cases hq : q_cr own x with
    | none => simp only [hq] at h
    | some ci =>
      simp only [hq] at h
      split at h
      · obtain ⟨t, N, ⟨g1, g2, g3, g4, g5, g6, g7⟩, ⟨h2, h3⟩, h4⟩ := h
        exact q_anew hexec hb hown hts E hS hd hq g1 g2 g3 g4 g5 g6 g7 (Nat.le_trans h2 hcap.1) (Nat.le_trans h3 hcap.2) hH (fun H' hH' hS' => h4 h2 h3 H' locs ls hml hl hH' hS')
      · exact h.elim
  case multianewarray x y =>
    have hlen : Nat.beq len _ = true := hlen
    obtain rfl := Nat.eq_of_beq_eq_true hlen
    dsimp only [q_eff] at h
    cases hbb : (Nat.beq own 7 && Nat.beq x 28 && Nat.beq y 2) with
    | false => rw [hbb] at h; exact h.elim
    | true =>
      rw [hbb] at h
      simp only [Bool.and_eq_true] at hbb
      obtain ⟨⟨b1, b2⟩, b3⟩ := hbb
      obtain rfl := Nat.eq_of_beq_eq_true b1
      obtain rfl := Nat.eq_of_beq_eq_true b2
      obtain rfl := Nat.eq_of_beq_eq_true b3
      simp only at h
      split at h
      · obtain ⟨N, M, g1, g2, ⟨h2, h3⟩, h4⟩ := h
        exact q_multi hexec hb hown hts E hS hd g1 g2 (Nat.le_trans h2 hcap.1) (Nat.le_trans h3 hcap.2) hH (fun H' hH' hS' => h4 h2 h3 H' locs ls hml hl hH' hS')
      · exact h.elim
  case invokevirtual x =>
    have hlen : Nat.beq len _ = true := hlen
    obtain rfl := Nat.eq_of_beq_eq_true hlen
    dsimp only [q_eff] at h
    split at h
    · rename_i mi na hq
      split at h
      · rename_i as0 rest hs
        split at h
        · rename_i b as
          have h7 := h.2
          unfold q_do at h7
          cases hcb : Nat.ble (q_cat rest) 8 with
          | false => rw [hcb] at h7; exact (h7).elim
          | true =>
            rw [hcb] at h7
            simp only at h7
            have hcat : q_cat rest ≤ 8 := Nat.le_of_ble_eq_true hcb
            cases hal : q_al mi with
            | none =>
              simp only [hal] at h7
              obtain ⟨xx, hx, hM⟩ := hcall _ _ _ _ h7
              have ha0 := q_al_none hal
              refine q_callV (d := d) hexec hb hown hts E hS hml hd hq hs h.1 hcat hfr hlo hH hx hM (by rw [ha0]; exact Nat.le_trans huc hcap.1) (by rw [ha0]; exact Nat.le_trans hus hcap.2) (fun r μ' H1 locs1 hk hH1 hS1 => ?_)
              rw [ha0, ← q_rmap]
              exact hk huc hus H1 locs1 ls hml hl hH1 hS1
            | some y =>
              obtain ⟨ac, ax⟩ := y
              simp only [hal] at h7
              obtain ⟨⟨h2, h3⟩, h4⟩ := h7
              obtain ⟨xx, hx, hM⟩ := hcall _ _ _ _ h4
              have ha0 := q_al_some hal
              refine q_callV (d := d) hexec hb hown hts E hS hml hd hq hs h.1 hcat hfr hlo hH hx hM (by rw [ha0]; exact Nat.le_trans h2 hcap.1) (by rw [ha0]; exact Nat.le_trans h3 hcap.2) (fun r μ' H1 locs1 hk hH1 hS1 => ?_)
              rw [ha0, ← q_rmap]
              exact hk h2 h3 H1 locs1 ls hml hl hH1 hS1
        · exact h.elim
      · exact h.elim
    · exact h.elim
  case invokespecial x =>
    have hlen : Nat.beq len _ = true := hlen
    obtain rfl := Nat.eq_of_beq_eq_true hlen
    dsimp only [q_eff] at h
    split at h
    · rename_i mi na hq
      split at h
      · rename_i as0 rest hs
        split at h
        · rename_i b as
          have h7 := h
          unfold q_do at h7
          cases hcb : Nat.ble (q_cat rest) 8 with
          | false => rw [hcb] at h7; exact (h7).elim
          | true =>
            rw [hcb] at h7
            simp only at h7
            have hcat : q_cat rest ≤ 8 := Nat.le_of_ble_eq_true hcb
            cases hal : q_al mi with
            | none =>
              simp only [hal] at h7
              obtain ⟨xx, hx, hM⟩ := hcall _ _ _ _ h7
              have ha0 := q_al_none hal
              refine q_callI (d := d) hexec hb hown hts E hS hml hd hq hs hcat hfr hlo hH hx hM (by rw [ha0]; exact Nat.le_trans huc hcap.1) (by rw [ha0]; exact Nat.le_trans hus hcap.2) (fun r μ' H1 locs1 hk hH1 hS1 => ?_)
              rw [ha0, ← q_rmap]
              exact hk huc hus H1 locs1 ls hml hl hH1 hS1
            | some y =>
              obtain ⟨ac, ax⟩ := y
              simp only [hal] at h7
              obtain ⟨⟨h2, h3⟩, h4⟩ := h7
              obtain ⟨xx, hx, hM⟩ := hcall _ _ _ _ h4
              have ha0 := q_al_some hal
              refine q_callI (d := d) hexec hb hown hts E hS hml hd hq hs hcat hfr hlo hH hx hM (by rw [ha0]; exact Nat.le_trans h2 hcap.1) (by rw [ha0]; exact Nat.le_trans h3 hcap.2) (fun r μ' H1 locs1 hk hH1 hS1 => ?_)
              rw [ha0, ← q_rmap]
              exact hk h2 h3 H1 locs1 ls hml hl hH1 hS1
        · exact h.elim
      · exact h.elim
    · rename_i u1 u2 hq
      split at h
      · split at h
        · rename_i a r b0 hcb
          have hcat : q_cat r ≤ 8 := Nat.le_of_ble_eq_true hcb
          refine W.objInit hexec hb hown (hts _ (q_mrO_ok hq)) (hts _ q_oi1) (hts _ q_oi2) rfl hml rfl hd (by omega) ?_ (h huc hus H locs ls hml hl hH hS)
          show 2 * 0 + ((r.map (q_v G)).map fun v => v.category).sum + 12 ≤ _
          rw [q_cat_eq]
          omega
        · exact h.elim
      · exact h.elim
    · exact h.elim
  case invokestatic x =>
    have hlen : Nat.beq len _ = true := hlen
    obtain rfl := Nat.eq_of_beq_eq_true hlen
    dsimp only [q_eff] at h
    split at h
    · rename_i mi na hq
      split at h
      · rename_i as rest hs
        have h7 := h
        unfold q_do at h7
        cases hcb : Nat.ble (q_cat rest) 8 with
        | false => rw [hcb] at h7; exact (h7).elim
        | true =>
          rw [hcb] at h7
          simp only at h7
          have hcat : q_cat rest ≤ 8 := Nat.le_of_ble_eq_true hcb
          cases hal : q_al mi with
          | none =>
            simp only [hal] at h7
            obtain ⟨xx, hx, hM⟩ := hcall _ _ _ _ h7
            have ha0 := q_al_none hal
            refine q_callS (d := d) hexec hb hown hts E hS hml hd hq hs hcat hfr hlo hH hx hM (by rw [ha0]; exact Nat.le_trans huc hcap.1) (by rw [ha0]; exact Nat.le_trans hus hcap.2) (fun r μ' H1 locs1 hk hH1 hS1 => ?_)
            rw [ha0, ← q_rmap]
            exact hk huc hus H1 locs1 ls hml hl hH1 hS1
          | some y =>
            obtain ⟨ac, ax⟩ := y
            simp only [hal] at h7
            obtain ⟨⟨h2, h3⟩, h4⟩ := h7
            obtain ⟨xx, hx, hM⟩ := hcall _ _ _ _ h4
            have ha0 := q_al_some hal
            refine q_callS (d := d) hexec hb hown hts E hS hml hd hq hs hcat hfr hlo hH hx hM (by rw [ha0]; exact Nat.le_trans h2 hcap.1) (by rw [ha0]; exact Nat.le_trans h3 hcap.2) (fun r μ' H1 locs1 hk hH1 hS1 => ?_)
            rw [ha0, ← q_rmap]
            exact hk h2 h3 H1 locs1 ls hml hl hH1 hS1
      · exact h.elim
    · rename_i u1 u2 hq
      split at h
      · rename_i n dp a sp a0 r
        split at h
        · rename_i hcb
          have hcat : q_cat r ≤ 8 := Nat.le_of_ble_eq_true hcb
          have hrm : ((r.map (q_v G)).map fun v => v.category).sum + 30 ≤ R.locals := by rw [q_cat_eq]; omega
          rcases h with ⟨n0, n1, h1, h2, h3, h4⟩ | ⟨n0, n1, h1, h2, h3, h4⟩
          · rcases h1 with h1 | h1
            · exact q_copyi (f := μ.2.1 a0) hexec hb hown hts E hS hml hd (q_mrC_ok hq) (q_H_arr hH h1 (by decide)) ((E.2.1 0 (by decide)).1 _ _) q_noU (by rw [arrV_size]; exact Nat.le_refl _) (fun j hj => arrV_read _ _ hj) h2 h3 (by omega) hrm hH (fun H' locs' hH' hS' => h4 huc hus H' locs' ls hml hl hH' hS')
            · have hz : a0 < 2 ∧ n0 = q_rl G a0 := by rcases h1 with ⟨rfl, rfl⟩ | ⟨rfl, rfl⟩ <;> exact ⟨by decide, rfl⟩
              obtain ⟨hz, rfl⟩ := hz
              obtain ⟨cell, k1, k2, k3, k4, k5, k6, k7⟩ := E.2.2.2.2.1 a0 (by omega)
              have hr : q_rho G a0 = q_ad G a0 := if_pos (by omega)
              have hw := q_copyi (x := x) (Q := Qm) (l := l) (e := e) (below := below) (meth := meth) (cells := uc) (slots := us) (pc := pc) (rest := r.map (q_v G)) (f := μ.2.1 a0) hexec hb hown hts E hS hml hd (q_mrC_ok hq) (src := q_ad G a0) (scr := cell) (by rw [hS.2.1 _ (Array.getElem?_eq_some_iff.mp k1).1 k7]; exact k1) k2 k3 k4 (fun j hj => by rw [k6 j hj, hH.2.2.2 a0 (by omega) j hj]) h2 h3 (by omega) hrm hH (fun H' locs' hH' hS' => h4 huc hus H' locs' ls hml hl hH' hS')
              rw [← hr] at hw
              exact hw
          · exact q_copyl (f := μ.2.2.1 a0) hexec hb hown hts E hS hml hd (q_mrC_ok hq) (q_H_arr hH h1 (by decide)) ((E.2.1 1 (by decide)).1 _ _) q_noU (by rw [arrV_size]; exact Nat.le_refl _) (fun j hj => arrV_read _ _ hj) h2 h3 (by omega) hrm hH (fun H' locs' hH' hS' => h4 huc hus H' locs' ls hml hl hH' hS')
        · exact h.elim
      · exact h.elim
    · rename_i u1 u2 hq
      split at h
      · split at h
        · rename_i y x2 r b0 hcb
          have hcat : q_cat r ≤ 8 := Nat.le_of_ble_eq_true hcb
          refine va_mmin hexec hb hml.symm hown (hts _ (q_mrM_ok hq)) (hts _ q_mm1) (hts _ q_mm2) (hts _ q_mm3) (by omega) ?_ (Nat.le_trans huc hcap.1) (Nat.le_trans hus hcap.2) hd (h huc hus H locs ls hml hl hH hS)
          rw [q_cat_eq]
          omega
        · exact h.elim
      · exact h.elim
    · exact h.elim
  case ireturn =>
    have hlen : Nat.beq len _ = true := hlen
    obtain rfl := Nat.eq_of_beq_eq_true hlen
    dsimp only [q_eff] at h
    split at h
    · split at h
      · exact (hret H locs uc us ls pc μ huc hus hH hS).1 _ hd (Or.inl rfl) h
      · exact (hret H locs uc us ls pc μ huc hus hH hS).1 _ hd (Or.inr ⟨rfl, h.1⟩) h.2
      · exact h.elim
    · exact h.elim
  case lreturn =>
    have hlen : Nat.beq len _ = true := hlen
    obtain rfl := Nat.eq_of_beq_eq_true hlen
    dsimp only [q_eff] at h
    split at h
    · split at h
      · exact (hret H locs uc us ls pc μ huc hus hH hS).2.1 _ hd rfl h
      · exact h.elim
    · exact h.elim
  case areturn =>
    have hlen : Nat.beq len _ = true := hlen
    obtain rfl := Nat.eq_of_beq_eq_true hlen
    dsimp only [q_eff] at h
    split at h
    · split at h
      · exact (hret H locs uc us ls pc μ huc hus hH hS).2.2.1 _ hd rfl h
      · exact h.elim
    · exact h.elim
  case return_ =>
    have hlen : Nat.beq len _ = true := hlen
    obtain rfl := Nat.eq_of_beq_eq_true hlen
    dsimp only [q_eff] at h
    split at h
    · split at h
      · exact (hret H locs uc us ls pc μ huc hus hH hS).2.2.2 hd rfl h
      · exact h.elim
    · exact h.elim
  all_goals exact h.elim
/-- the walk of a method's body -/
theorem q_body (hexec : p.tables.exec = Jvm.exec) (hb : c.code = cc) (hown : s.vm.findClass (q_cn own) = some m.cls) (hts : ∀ w ∈ q_good, w.before args s = true) (E : q_E G s) (hini : ini = true → meth.name = "<init>")
    (hcap : cap.1 ≤ R.cells ∧ cap.2 ≤ R.slots) (hfr : d + 1 ≤ R.frames) (hlo : 45 * d + 45 ≤ R.locals) (hcall : q_CM G l d call) (hret : q_Rt G cap rt Q cc p l e R s m args below meth c Qm)
    {code : Nat → Option Instr} (hcode : ∀ pc i, code pc = some i → q_dec cc pc i = true) {pc : Nat} {ll : List (Option Value)} {st : List Value} {μ : q_M} {uc us : Nat}
    (h : q_WP (q_ln G) own rt ini cap code call Q pc ll st μ uc us) : q_Y G cap p l e R s m args below meth c Qm pc ll st μ uc us := by
  refine h _ (fun pc ll st μ uc us hs => ?_)
  unfold q_stp at hs
  cases hi : code pc with
  | none => rw [hi] at hs; exact hs.elim
  | some i =>
    rw [hi] at hs
    simp only at hs
    have hdc := hcode pc i hi
    unfold q_dec at hdc
    split at hdc
    · rename_i j len hd
      simp only [Bool.and_eq_true] at hdc
      obtain ⟨⟨k1, k2⟩, k3⟩ := hdc
      have k1 : j = i := of_decide_eq_true k1
      subst k1
      cases hp : q_pure own pc j ll st with
      | none => rw [hp] at hs; exact q_eff_sound hexec hb hown hts E hini hcap hfr hlo hcall hret hd k2 k3 hs
      | some y =>
        obtain ⟨pc', ll', st'⟩ := y
        rw [hp] at hs
        intro huc hus H locs ls hml hl hH hS
        exact q_pure_sound hexec hb hown hts E hS hd k2 k3 hp hl (fun ls' hl' hz => hs huc hus H locs ls' (hz.trans hml) hl' hH hS)
    · cases hdc
end QMain
theorem q_lay_get (G : q_G) : ∀ (as : List Value) (i j : Nat) (v : Value) (n : Nat), q_get (q_lay as ++ List.replicate n none) j = some v → (i + j, q_v G v) ∈ lv_args i (as.map (q_v G))
  | [], i, j, v, n, h => by
    exfalso
    have : ∀ (n j : Nat), q_get (List.replicate n none) j = none := by
      intro n
      induction n with
      | zero => intro j; rfl
      | succ n ih => intro j; cases j with
        | zero => rfl
        | succ j => exact ih j
    rw [show q_lay [] ++ List.replicate n none = List.replicate n none from rfl, this] at h
    cases h
  | w :: as, i, j, v, n, h => by
    show (i + j, q_v G v) ∈ (i, q_v G w) :: lv_args (if (q_v G w).category = 2 then i + 2 else i + 1) (as.map (q_v G))
    unfold q_lay at h
    by_cases hc : w.category = 2
    · rw [hc] at h
      simp only [List.cons_append] at h
      rw [q_v_cat, if_pos hc]
      match j, h with
      | 0, h => obtain rfl := Option.some.inj h; exact List.mem_cons_self
      | 1, h => cases h
      | j + 2, h =>
        have := q_lay_get G as (i + 2) j v n h
        rw [show i + (j + 2) = i + 2 + j by omega]
        exact List.mem_cons_of_mem _ this
    · rw [q_v_cat, if_neg hc]
      have h : q_get (some w :: (q_lay as ++ List.replicate n none)) j = some v := by
        rcases lv_cat w with h1 | h1
        · rw [h1] at h; exact h
        · exact absurd h1 hc
      match j, h with
      | 0, h => obtain rfl := Option.some.inj h; exact List.mem_cons_self
      | j + 1, h =>
        have := q_lay_get G as (i + 1) j v n h
        rw [show i + (j + 1) = i + 1 + j by omega]
        exact List.mem_cons_of_mem _ this
theorem q_lay_len (G : q_G) : ∀ as : List Value, (lg_sl (as.map (q_v G))).length = (q_lay as).length
  | [] => rfl
  | w :: as => by
    have ih := q_lay_len G as
    show (List.flatMap _ (q_v G w :: as.map (q_v G))).length = _
    rw [List.flatMap_cons, List.length_append]
    have ih2 : (List.flatMap (fun v : Value => if v.category = 2 then [Slot.val v, .second] else [.val v]) (as.map (q_v G))).length = (q_lay as).length := ih
    rw [ih2, q_v_cat, show q_lay (w :: as) = (match w.category with | 2 => some w :: none :: q_lay as | _ => some w :: q_lay as) from rfl]
    rcases lv_cat w with h1 | h1 <;> rw [h1] <;> simp <;> omega
theorem q_entry (G : q_G) (as : List Value) {n : Nat} (h : (q_lay as).length ≤ n) : q_lr G ((lg_sl (as.map (q_v G)) ++ List.replicate (n - (lg_sl (as.map (q_v G))).length) Slot.unset).toArray) (q_ent as n) := by
  have hh := lv_entry (as.map (q_v G)) (n := n) (by rw [q_lay_len]; exact h)
  refine ⟨?_, hh.2.1, fun i v hi => ?_⟩
  · rw [hh.1]
    unfold q_ent
    simp
    omega
  · have := q_lay_get G as 0 i v _ hi
    rw [Nat.zero_add] at this
    exact hh.2.2 _ this
/-- what the mind's machine does the machine does -/
theorem q_met (l : Launch) (G : q_G) : ∀ d, q_CM G l d (q_Ex (q_ln G) d)
  | 0 => fun _ _ _ _ h => h.elim
  | d + 1 => fun mi as μ Q' ⟨x, hx, hlen, hw⟩ => by
    refine ⟨x, hx, ?_⟩
    have F := q_tab_ok (List.mem_of_getElem? hx)
    obtain ⟨F1, F2, F3, F4, F5, F6, F7, F8, F9⟩ := F
    refine Met.ofW (cc := x.2.1) (maxL := x.2.2.1) (ret := x.2.2.2.1) F5 rfl ?_
    intro p e s m args below meth c s₁ B hml hv
    obtain ⟨rfl, E, hH⟩ := hv
    have hts0 := atoms_spec (ws := q_wsm x) B.pre
    have hts : ∀ w ∈ q_good, w.before _ s = true := fun w hw => hts0 w (List.mem_cons_of_mem _ hw)
    have hown : s.vm.findClass (q_cn x.2.2.2.2.1) = some m.cls := by rw [← F6]; exact findClass_of_methodNamed B.named
    have hlocks := B.notSynchronized
    rw [lg_entry_eq]
    have hl := q_entry G as hlen
    have hr := B.returns
    have hret : q_Rt G ((q_al mi).getD (0, 0)) x.2.2.2.2.2.1 Q' x.2.1 p l e (headSpec (q_wsm x) (q_rm (d + 1) mi)).room s m ((as.map (q_v G)).toArray) below meth c (MQ below (q_Qc G Q') ((as.map (q_v G)).toArray) s ((q_al mi).getD (0, 0)).1 ((q_al mi).getD (0, 0)).2 (q_A G)) := by
      intro H locs uc us ls pc μ huc hus hH hS
      refine ⟨fun v hd hrt hq => ?_, fun v hd hrt hq => ?_, fun v hd hrt hq => ?_, fun hd hrt hq => ?_⟩
      · refine W.widen huc hus ?_
        rcases hrt with hrt | ⟨hrt, hz⟩
        · refine W.iret B.exec B.bytes (hr.trans (F7.1 hrt)) (fun t ht hW => ⟨⟨some (.int v), μ, rfl, hq, by rw [ht]; exact hH⟩, hS.F ht⟩) hS.2.2 hd
        · refine W.zret B.exec B.bytes (hr.trans (F7.2.1 hrt)) (by rcases hz with rfl | rfl <;> rfl) (fun t ht hW => ⟨⟨some (.int v), μ, rfl, hq, by rw [ht]; exact hH⟩, hS.F ht⟩) hS.2.2 hd
      · refine W.widen huc hus ?_
        exact W.lret B.exec B.bytes (hr.trans (F7.2.2.1 hrt)) (fun t ht hW => ⟨⟨some (.long v), μ, rfl, hq, by rw [ht]; exact hH⟩, hS.F ht⟩) hS.2.2 hd
      · refine W.widen huc hus ?_
        obtain ⟨nm, hnm⟩ := F7.2.2.2.1 hrt
        exact W.aret B.exec B.bytes (hr.trans hnm) (Or.inl ⟨nm, rfl⟩) (Or.inr ⟨_, rfl⟩) (fun t ht hW => ⟨⟨some (.ref v), μ, rfl, hq, by rw [ht]; exact hH⟩, hS.F ht⟩) hS.2.2 hd
      · refine W.widen huc hus ?_
        exact W.vret B.exec B.bytes (hr.trans (F7.2.2.2.2 hrt)) (fun t ht hW => ⟨⟨none, μ, rfl, hq, by rw [ht]; exact hH⟩, hS.F ht⟩) hS.2.2 hd
    refine q_body (d := d) B.exec B.bytes hown hts E (fun hi => ?_) ⟨Nat.le_refl _, Nat.le_refl _⟩ (by show d + 1 ≤ d + 1; omega) (by show 45 * d + 45 ≤ 45 * (d + 1); omega) (q_met l G d) hret F9 hw (Nat.zero_le _) (Nat.zero_le _) s.heap [] _ ?_ hl hH va_S.rf
    · rw [(name_of_methodNamed B.named B.method).1]; exact F8 hi
    · rw [hml, hl.1]; unfold q_ent; simp; omega
end
section
/-! ===== Int32 by its bits: bt x i ===== -/
def bt (x : Int32) (i : Nat) : Bool := x.toBitVec.getLsbD i
theorem b_ext {x y : Int32} (h : ∀ i, i < 32 → bt x i = bt y i) : x = y := Int32.toBitVec_inj.mp (BitVec.eq_of_getLsbD_eq (fun i hi => h i hi))
theorem b_or (x y : Int32) (i : Nat) : bt (x ||| y) i = (bt x i || bt y i) := by unfold bt; rw [Int32.toBitVec_or, BitVec.getLsbD_or]
theorem b_and (x y : Int32) (i : Nat) : bt (x &&& y) i = (bt x i && bt y i) := by unfold bt; rw [Int32.toBitVec_and, BitVec.getLsbD_and]
theorem b_xor (x y : Int32) (i : Nat) : bt (x ^^^ y) i = (bt x i ^^ bt y i) := by unfold bt; rw [Int32.toBitVec_xor, BitVec.getLsbD_xor]
theorem b_big {x : Int32} {i : Nat} (h : 32 ≤ i) : bt x i = false := BitVec.getLsbD_of_ge _ _ h
theorem b_255 (i : Nat) : bt 255 i = decide (i < 8) := by
  rcases Nat.lt_or_ge i 32 with h | h
  · exact (by decide +kernel : ∀ i, i < 32 → bt 255 i = decide (i < 8)) i h
  · rw [b_big h, decide_eq_false (by omega)]
theorem b_65535 (i : Nat) : bt 65535 i = decide (i < 16) := by
  rcases Nat.lt_or_ge i 32 with h | h
  · exact (by decide +kernel : ∀ i, i < 32 → bt 65535 i = decide (i < 16)) i h
  · rw [b_big h, decide_eq_false (by omega)]
theorem b_m1 : ∀ i, i < 32 → bt (-1) i = true := by decide +kernel
theorem b_0 (i : Nat) : bt 0 i = false := BitVec.getLsbD_zero
theorem s_l : ∀ n, n < 32 → ((nI n &&& 31).toBitVec.smod 32).toNat = n := by decide +kernel
theorem s_u : ∀ n, n < 32 → (((nI n).toUInt32 &&& Int32.toUInt32 31).toBitVec % 32).toNat = n := by decide +kernel
theorem b_shl (n : Nat) (hn : n < 32) (x : Int32) {i : Nat} (hi : i < 32) : bt (x <<< (nI n &&& 31)) i = (decide (n ≤ i) && bt x (i - n)) := by
  unfold bt
  rw [Int32.toBitVec_shiftLeft]
  show (x.toBitVec <<< ((nI n &&& 31).toBitVec.smod 32).toNat).getLsbD i = _
  rw [s_l n hn, BitVec.getLsbD_shiftLeft]
  rcases Nat.lt_or_ge i n with h | h
  · simp [h, Nat.not_le.mpr h]
  · simp [hi, h, Nat.not_lt.mpr h]
theorem b_ushr (n : Nat) (hn : n < 32) (x : Int32) (i : Nat) : bt ((x.toUInt32 >>> ((nI n).toUInt32 &&& Int32.toUInt32 31)).toInt32) i = bt x (n + i) := by
  show (x.toUInt32 >>> ((nI n).toUInt32 &&& Int32.toUInt32 31)).toBitVec.getLsbD i = x.toUInt32.toBitVec.getLsbD (n + i)
  rw [UInt32.toBitVec_shiftRight]
  show (x.toUInt32.toBitVec >>> (((nI n).toUInt32 &&& Int32.toUInt32 31).toBitVec % 32).toNat).getLsbD i = _
  rw [s_u n hn, BitVec.getLsbD_ushiftRight]
theorem b_sshr (n : Nat) (hn : n < 32) (x : Int32) {i : Nat} (hi : i < 32) : bt (x >>> (nI n &&& 31)) i = if n + i < 32 then bt x (n + i) else bt x 31 := by
  unfold bt
  rw [Int32.toBitVec_shiftRight]
  show (x.toBitVec.sshiftRight ((nI n &&& 31).toBitVec.smod 32).toNat).getLsbD i = _
  rw [s_l n hn, BitVec.getLsbD_sshiftRight, BitVec.msb_eq_getLsbD_last]
  simp [hi]
theorem b_shl8 (x : Int32) {i : Nat} (hi : i < 32) : bt (x <<< ((8 : Int32) &&& 31)) i = (decide (8 ≤ i) && bt x (i - 8)) := b_shl 8 (by omega) x hi
theorem b_shl16 (x : Int32) {i : Nat} (hi : i < 32) : bt (x <<< ((16 : Int32) &&& 31)) i = (decide (16 ≤ i) && bt x (i - 16)) := b_shl 16 (by omega) x hi
theorem b_shl24 (x : Int32) {i : Nat} (hi : i < 32) : bt (x <<< ((24 : Int32) &&& 31)) i = (decide (24 ≤ i) && bt x (i - 24)) := b_shl 24 (by omega) x hi
theorem b_sshr8 (x : Int32) {i : Nat} (hi : i < 32) : bt (x >>> ((8 : Int32) &&& 31)) i = if 8 + i < 32 then bt x (8 + i) else bt x 31 := b_sshr 8 (by omega) x hi
/-! powers: the class reckons in longs, the other in ints -/
def g_P : Int64 := lN 2147483647
def g_times (a b : Int32) : Int32 := (a.toInt64 * b.toInt64 - a.toInt64 * b.toInt64 / lN 2147483647 * lN 2147483647).toInt32
theorem g_remI (x : Int64) : (x - x / lN 2147483647 * lN 2147483647).toInt = x.toInt.tmod 2147483647 := by
  have hy : (lN 2147483647).toInt = 2147483647 := by decide +kernel
  have hd : (x / lN 2147483647).toInt = x.toInt.tdiv 2147483647 := by rw [Int64.toInt_div_of_ne_right _ _ (by decide +kernel), hy]
  have h1 := Int64.le_toInt x
  have h2 := Int64.toInt_lt x
  have h3 := Int.tmod_add_mul_tdiv x.toInt 2147483647
  have h4 := Int.tmod_lt_of_pos x.toInt (show (0 : Int) < 2147483647 by decide)
  have h5 := Int.lt_tmod_of_pos x.toInt (show (0 : Int) < 2147483647 by decide)
  rw [Int64.toInt_sub, Int64.toInt_mul, hd, hy]
  generalize x.toInt.tmod 2147483647 = r at h3 h4 h5 ⊢
  generalize x.toInt.tdiv 2147483647 = q at h3 ⊢
  generalize x.toInt = X at h1 h2 h3 ⊢
  subst h3
  rw [Int.sub_bmod_bmod, show r + 2147483647 * q - q * 2147483647 = r by omega]
  exact Int.bmod_eq_of_le (by omega) (by omega)
theorem g_rem (x : Int64) : (x - x / lN 2147483647 * lN 2147483647).toInt32.toInt64 = x - x / lN 2147483647 * lN 2147483647 := by
  apply Int64.toInt_inj.mp
  rw [Int32.toInt_toInt64, Int64.toInt_toInt32, g_remI]
  have h4 := Int.tmod_lt_of_pos x.toInt (show (0 : Int) < 2147483647 by decide)
  have h5 := Int.lt_tmod_of_pos x.toInt (show (0 : Int) < 2147483647 by decide)
  exact Int.bmod_eq_of_le (by omega) (by omega)
theorem g_timesL (a b : Int32) : a.toInt64 * b.toInt64 - a.toInt64 * b.toInt64 / lN 2147483647 * lN 2147483647 = (g_times a b).toInt64 := (g_rem _).symm
def g_bk (e : Int32) (k : Nat) : Int32 := (e >>> (nI k &&& 31)) &&& nI 1
theorem g_b1 : ∀ i, i < 32 → bt (nI 1) i = decide (i = 0) := by decide +kernel
theorem g_bit (e : Int32) {k : Nat} (hk : k < 31) : ((e.toUInt32 >>> ((nI k).toUInt32 &&& Int32.toUInt32 31)).toInt32 &&& nI 1) = g_bk e k := by
  apply b_ext
  intro i hi
  unfold g_bk
  rw [b_and, b_and, b_ushr k (by omega), b_sshr k (by omega) e hi, g_b1 i hi]
  by_cases h : i = 0
  · subst h; rw [if_pos (by omega)]
  · simp [h]
def g_pst (e : Int32) (k : Nat) (s : Int32 × Int32) : Int32 × Int32 := (if g_bk e k = nI 1 then g_times s.1 s.2 else s.1, g_times s.2 s.2)
def g_pit (b e : Int32) : Nat → Int32 × Int32
  | 0 => (nI 1, b)
  | k + 1 => g_pst e k (g_pit b e k)
/-- the power, as both reckon it -/
def g_pow (b e : Int32) : Int32 := (g_pit b e 31).1
end
section
/-! pure words -/
def g_rot (x : Int32) (k m : Nat) : Int32 := (x <<< (nI k &&& 31)) ||| (x.toUInt32 >>> ((nI m).toUInt32 &&& Int32.toUInt32 31)).toInt32
def g_q (a b c d : Int32) : Int32 × Int32 × Int32 × Int32 :=
  (a + b + g_rot (b ^^^ (c + g_rot (d ^^^ (a + b)) 16 16)) 12 20,
   g_rot (g_rot (b ^^^ (c + g_rot (d ^^^ (a + b)) 16 16)) 12 20 ^^^ (c + g_rot (d ^^^ (a + b)) 16 16 + g_rot (g_rot (d ^^^ (a + b)) 16 16 ^^^ (a + b + g_rot (b ^^^ (c + g_rot (d ^^^ (a + b)) 16 16)) 12 20)) 8 24)) 7 25,
   c + g_rot (d ^^^ (a + b)) 16 16 + g_rot (g_rot (d ^^^ (a + b)) 16 16 ^^^ (a + b + g_rot (b ^^^ (c + g_rot (d ^^^ (a + b)) 16 16)) 12 20)) 8 24,
   g_rot (g_rot (d ^^^ (a + b)) 16 16 ^^^ (a + b + g_rot (b ^^^ (c + g_rot (d ^^^ (a + b)) 16 16)) 12 20)) 8 24)
def g_turn (p q r s : Nat) (f : Nat → Int32) : Nat → Int32 := va_up (va_up (va_up (va_up f p (g_q (f p) (f q) (f r) (f s)).1) q (g_q (f p) (f q) (f r) (f s)).2.1) r (g_q (f p) (f q) (f r) (f s)).2.2.1) s (g_q (f p) (f q) (f r) (f s)).2.2.2
theorem g_upup {α : Type} (f : Nat → Nat → α) (a k m : Nat) (v w : α) : q_up (q_up f a k v) a m w = va_up f a (va_up (va_up (f a) k v) m w) := by
  funext b
  by_cases e : b = a
  · subst e; simp only [q_up, va_up_self]
  · simp only [q_up, va_up_ne _ _ e]
theorem g_rowup {α : Type} (f : Nat → Nat → α) (a m : Nat) (r : Nat → α) (w : α) : q_up (va_up f a r) a m w = va_up f a (va_up r m w) := by
  funext b
  by_cases e : b = a
  · subst e; simp only [q_up, va_up_self]
  · simp only [q_up, va_up_ne _ _ e]
theorem g_up4 {α : Type} (f : Nat → Nat → α) (a k1 k2 k3 k4 : Nat) (v1 v2 v3 v4 : α) : q_up (q_up (q_up (q_up f a k1 v1) a k2 v2) a k3 v3) a k4 v4 = va_up f a (va_up (va_up (va_up (va_up (f a) k1 v1) k2 v2) k3 v3) k4 v4) := by
  rw [g_upup f, g_rowup, g_rowup]
theorem c_Pair_become {L d n : Nat} {I : q_I} {J : q_L} {R : q_R} {Q : q_Q} {a b : Nat} (ha : q_ob n a 1) (hb : q_ob n b 1) (hQ : Q none (n, q_up (q_up I a 0 (I b 0)) a 1 (q_up I a 0 (I b 0) b 1), J, R)) : q_Ex L (d + 1) 7 [.ref a, .ref b] (n, I, J, R) Q := by
  refine q_in (x := q_m7) rfl rfl ?_
  show q_W L d 7 q_m7 Q 0 [some (.ref a), some (.ref b)] [] (n, I, J, R) 0 0
  refine q_k 2 ?_
  show q_W L d 7 q_m7 Q 2 [some (.ref a), some (.ref b)] [.ref b, .ref a] (n, I, J, R) 0 0
  refine q_gI rfl rfl (hb) ?_
  refine q_pI rfl rfl rfl (ha) ?_
  refine q_k 2 ?_
  show q_W L d 7 q_m7 Q 10 [some (.ref a), some (.ref b)] [.ref b, .ref a] (n, q_up I a 0 (I b 0), J, R) 0 0
  refine q_gI rfl rfl (hb) ?_
  refine q_pI rfl rfl rfl (ha) ?_
  refine q_one rfl rfl ?_
  show Q (none) (n, q_up (q_up I a 0 (I b 0)) a 1 ((q_up I a 0 (I b 0)) b 1), J, R)
  exact hQ
theorem c_Mixer_turn {L d n : Nat} {I : q_I} {J : q_L} {R : q_R} {Q : q_Q} {p q r s : Nat} (hn : 214 ≤ n) (hF : R 4 1 = some 6) (hp : p < 16) (hq : q < 16) (hr : r < 16) (hs : s < 16) (hQ : Q none (n, va_up I 6 (g_turn p q r s (I 6)), J, R)) : q_Ex L (d + 1) 5 [.ref 4, .int (nI p), .int (nI q), .int (nI r), .int (nI s)] (n, I, J, R) Q := by
  refine q_in (x := q_m5) rfl rfl ?_
  show q_W L d 5 q_m5 Q 0 [some (.ref 4), some (.int (nI p)), some (.int (nI q)), some (.int (nI r)), some (.int (nI s)), none, none, none, none] [] (n, I, J, R) 0 0
  refine q_k 1 ?_
  show q_W L d 5 q_m5 Q 1 [some (.ref 4), some (.int (nI p)), some (.int (nI q)), some (.int (nI r)), some (.int (nI s)), none, none, none, none] [.ref 4] (n, I, J, R) 0 0
  refine q_gR (b := 6) rfl rfl (⟨Nat.lt_of_lt_of_le (by decide) hn, rfl⟩) (hF) ?_
  refine q_k 1 ?_
  show q_W L d 5 q_m5 Q 5 [some (.ref 4), some (.int (nI p)), some (.int (nI q)), some (.int (nI r)), some (.int (nI s)), none, none, none, none] [.int (nI p), .ref 6] (n, I, J, R) 0 0
  refine q_ial (m := p) rfl (⟨by decide, Nat.lt_of_lt_of_le (by decide) hn, rfl⟩) (hp) rfl ?_
  refine q_k 2 ?_
  show q_W L d 5 q_m5 Q 9 [some (.ref 4), some (.int (nI p)), some (.int (nI q)), some (.int (nI r)), some (.int (nI s)), some (.int (I 6 p)), none, none, none] [.ref 4] (n, I, J, R) 0 0
  refine q_gR (b := 6) rfl rfl (⟨Nat.lt_of_lt_of_le (by decide) hn, rfl⟩) (hF) ?_
  refine q_k 1 ?_
  show q_W L d 5 q_m5 Q 13 [some (.ref 4), some (.int (nI p)), some (.int (nI q)), some (.int (nI r)), some (.int (nI s)), some (.int (I 6 p)), none, none, none] [.int (nI q), .ref 6] (n, I, J, R) 0 0
  refine q_ial (m := q) rfl (⟨by decide, Nat.lt_of_lt_of_le (by decide) hn, rfl⟩) (hq) rfl ?_
  refine q_k 2 ?_
  show q_W L d 5 q_m5 Q 17 [some (.ref 4), some (.int (nI p)), some (.int (nI q)), some (.int (nI r)), some (.int (nI s)), some (.int (I 6 p)), some (.int (I 6 q)), none, none] [.ref 4] (n, I, J, R) 0 0
  refine q_gR (b := 6) rfl rfl (⟨Nat.lt_of_lt_of_le (by decide) hn, rfl⟩) (hF) ?_
  refine q_k 1 ?_
  show q_W L d 5 q_m5 Q 21 [some (.ref 4), some (.int (nI p)), some (.int (nI q)), some (.int (nI r)), some (.int (nI s)), some (.int (I 6 p)), some (.int (I 6 q)), none, none] [.int (nI r), .ref 6] (n, I, J, R) 0 0
  refine q_ial (m := r) rfl (⟨by decide, Nat.lt_of_lt_of_le (by decide) hn, rfl⟩) (hr) rfl ?_
  refine q_k 2 ?_
  show q_W L d 5 q_m5 Q 25 [some (.ref 4), some (.int (nI p)), some (.int (nI q)), some (.int (nI r)), some (.int (nI s)), some (.int (I 6 p)), some (.int (I 6 q)), some (.int (I 6 r)), none] [.ref 4] (n, I, J, R) 0 0
  refine q_gR (b := 6) rfl rfl (⟨Nat.lt_of_lt_of_le (by decide) hn, rfl⟩) (hF) ?_
  refine q_k 1 ?_
  show q_W L d 5 q_m5 Q 30 [some (.ref 4), some (.int (nI p)), some (.int (nI q)), some (.int (nI r)), some (.int (nI s)), some (.int (I 6 p)), some (.int (I 6 q)), some (.int (I 6 r)), none] [.int (nI s), .ref 6] (n, I, J, R) 0 0
  refine q_ial (m := s) rfl (⟨by decide, Nat.lt_of_lt_of_le (by decide) hn, rfl⟩) (hs) rfl ?_
  refine q_k 5 ?_
  show q_W L d 5 q_m5 Q 40 [some (.ref 4), some (.int (nI p)), some (.int (nI q)), some (.int (nI r)), some (.int (nI s)), some (.int ((I 6 p) + (I 6 q))), some (.int (I 6 q)), some (.int (I 6 r)), some (.int (I 6 s))] [] (n, I, J, R) 0 0
  obtain ⟨a1, ea1⟩ : ∃ z, z = (I 6 p) + (I 6 q) := ⟨_, rfl⟩
  rw [← ea1]
  refine q_k 12 ?_
  show q_W L d 5 q_m5 Q 60 [some (.ref 4), some (.int (nI p)), some (.int (nI q)), some (.int (nI r)), some (.int (nI s)), some (.int a1), some (.int (I 6 q)), some (.int (I 6 r)), some (.int ((((I 6 s) ^^^ a1) <<< ((nI 16) &&& 31)) ||| (((((I 6 s) ^^^ a1)).toUInt32 >>> (((nI 16)).toUInt32 &&& Int32.toUInt32 31)).toInt32)))] [] (n, I, J, R) 0 0
  obtain ⟨d1, ed1⟩ : ∃ z, z = (((I 6 s) ^^^ a1) <<< ((nI 16) &&& 31)) ||| (((((I 6 s) ^^^ a1)).toUInt32 >>> (((nI 16)).toUInt32 &&& Int32.toUInt32 31)).toInt32) := ⟨_, rfl⟩
  rw [← ed1]
  refine q_k 4 ?_
  show q_W L d 5 q_m5 Q 67 [some (.ref 4), some (.int (nI p)), some (.int (nI q)), some (.int (nI r)), some (.int (nI s)), some (.int a1), some (.int (I 6 q)), some (.int ((I 6 r) + d1)), some (.int d1)] [] (n, I, J, R) 0 0
  obtain ⟨c1, ec1⟩ : ∃ z, z = (I 6 r) + d1 := ⟨_, rfl⟩
  rw [← ec1]
  refine q_k 12 ?_
  show q_W L d 5 q_m5 Q 87 [some (.ref 4), some (.int (nI p)), some (.int (nI q)), some (.int (nI r)), some (.int (nI s)), some (.int a1), some (.int ((((I 6 q) ^^^ c1) <<< ((nI 12) &&& 31)) ||| (((((I 6 q) ^^^ c1)).toUInt32 >>> (((nI 20)).toUInt32 &&& Int32.toUInt32 31)).toInt32))), some (.int c1), some (.int d1)] [] (n, I, J, R) 0 0
  obtain ⟨b1, eb1⟩ : ∃ z, z = (((I 6 q) ^^^ c1) <<< ((nI 12) &&& 31)) ||| (((((I 6 q) ^^^ c1)).toUInt32 >>> (((nI 20)).toUInt32 &&& Int32.toUInt32 31)).toInt32) := ⟨_, rfl⟩
  rw [← eb1]
  refine q_k 4 ?_
  show q_W L d 5 q_m5 Q 94 [some (.ref 4), some (.int (nI p)), some (.int (nI q)), some (.int (nI r)), some (.int (nI s)), some (.int (a1 + b1)), some (.int b1), some (.int c1), some (.int d1)] [] (n, I, J, R) 0 0
  obtain ⟨a2, ea2⟩ : ∃ z, z = a1 + b1 := ⟨_, rfl⟩
  rw [← ea2]
  refine q_k 12 ?_
  show q_W L d 5 q_m5 Q 114 [some (.ref 4), some (.int (nI p)), some (.int (nI q)), some (.int (nI r)), some (.int (nI s)), some (.int a2), some (.int b1), some (.int c1), some (.int (((d1 ^^^ a2) <<< ((nI 8) &&& 31)) ||| ((((d1 ^^^ a2)).toUInt32 >>> (((nI 24)).toUInt32 &&& Int32.toUInt32 31)).toInt32)))] [] (n, I, J, R) 0 0
  obtain ⟨d2, ed2⟩ : ∃ z, z = ((d1 ^^^ a2) <<< ((nI 8) &&& 31)) ||| ((((d1 ^^^ a2)).toUInt32 >>> (((nI 24)).toUInt32 &&& Int32.toUInt32 31)).toInt32) := ⟨_, rfl⟩
  rw [← ed2]
  refine q_k 4 ?_
  show q_W L d 5 q_m5 Q 121 [some (.ref 4), some (.int (nI p)), some (.int (nI q)), some (.int (nI r)), some (.int (nI s)), some (.int a2), some (.int b1), some (.int (c1 + d2)), some (.int d2)] [] (n, I, J, R) 0 0
  obtain ⟨c2, ec2⟩ : ∃ z, z = c1 + d2 := ⟨_, rfl⟩
  rw [← ec2]
  refine q_k 12 ?_
  show q_W L d 5 q_m5 Q 141 [some (.ref 4), some (.int (nI p)), some (.int (nI q)), some (.int (nI r)), some (.int (nI s)), some (.int a2), some (.int (((b1 ^^^ c2) <<< ((nI 7) &&& 31)) ||| ((((b1 ^^^ c2)).toUInt32 >>> (((nI 25)).toUInt32 &&& Int32.toUInt32 31)).toInt32))), some (.int c2), some (.int d2)] [] (n, I, J, R) 0 0
  obtain ⟨b2, eb2⟩ : ∃ z, z = ((b1 ^^^ c2) <<< ((nI 7) &&& 31)) ||| ((((b1 ^^^ c2)).toUInt32 >>> (((nI 25)).toUInt32 &&& Int32.toUInt32 31)).toInt32) := ⟨_, rfl⟩
  rw [← eb2]
  refine q_k 1 ?_
  show q_W L d 5 q_m5 Q 142 [some (.ref 4), some (.int (nI p)), some (.int (nI q)), some (.int (nI r)), some (.int (nI s)), some (.int a2), some (.int b2), some (.int c2), some (.int d2)] [.ref 4] (n, I, J, R) 0 0
  refine q_gR (b := 6) rfl rfl (⟨Nat.lt_of_lt_of_le (by decide) hn, rfl⟩) (hF) ?_
  refine q_k 2 ?_
  show q_W L d 5 q_m5 Q 148 [some (.ref 4), some (.int (nI p)), some (.int (nI q)), some (.int (nI r)), some (.int (nI s)), some (.int a2), some (.int b2), some (.int c2), some (.int d2)] [.int a2, .int (nI p), .ref 6] (n, I, J, R) 0 0
  refine q_ias (m := p) rfl (⟨by decide, Nat.lt_of_lt_of_le (by decide) hn, rfl⟩) (hp) rfl ?_
  refine q_k 1 ?_
  show q_W L d 5 q_m5 Q 150 [some (.ref 4), some (.int (nI p)), some (.int (nI q)), some (.int (nI r)), some (.int (nI s)), some (.int a2), some (.int b2), some (.int c2), some (.int d2)] [.ref 4] (n, q_up I 6 p a2, J, R) 0 0
  refine q_gR (b := 6) rfl rfl (⟨Nat.lt_of_lt_of_le (by decide) hn, rfl⟩) (hF) ?_
  refine q_k 2 ?_
  show q_W L d 5 q_m5 Q 156 [some (.ref 4), some (.int (nI p)), some (.int (nI q)), some (.int (nI r)), some (.int (nI s)), some (.int a2), some (.int b2), some (.int c2), some (.int d2)] [.int b2, .int (nI q), .ref 6] (n, q_up I 6 p a2, J, R) 0 0
  refine q_ias (m := q) rfl (⟨by decide, Nat.lt_of_lt_of_le (by decide) hn, rfl⟩) (hq) rfl ?_
  refine q_k 1 ?_
  show q_W L d 5 q_m5 Q 158 [some (.ref 4), some (.int (nI p)), some (.int (nI q)), some (.int (nI r)), some (.int (nI s)), some (.int a2), some (.int b2), some (.int c2), some (.int d2)] [.ref 4] (n, q_up (q_up I 6 p a2) 6 q b2, J, R) 0 0
  refine q_gR (b := 6) rfl rfl (⟨Nat.lt_of_lt_of_le (by decide) hn, rfl⟩) (hF) ?_
  refine q_k 2 ?_
  show q_W L d 5 q_m5 Q 164 [some (.ref 4), some (.int (nI p)), some (.int (nI q)), some (.int (nI r)), some (.int (nI s)), some (.int a2), some (.int b2), some (.int c2), some (.int d2)] [.int c2, .int (nI r), .ref 6] (n, q_up (q_up I 6 p a2) 6 q b2, J, R) 0 0
  refine q_ias (m := r) rfl (⟨by decide, Nat.lt_of_lt_of_le (by decide) hn, rfl⟩) (hr) rfl ?_
  refine q_k 1 ?_
  show q_W L d 5 q_m5 Q 166 [some (.ref 4), some (.int (nI p)), some (.int (nI q)), some (.int (nI r)), some (.int (nI s)), some (.int a2), some (.int b2), some (.int c2), some (.int d2)] [.ref 4] (n, q_up (q_up (q_up I 6 p a2) 6 q b2) 6 r c2, J, R) 0 0
  refine q_gR (b := 6) rfl rfl (⟨Nat.lt_of_lt_of_le (by decide) hn, rfl⟩) (hF) ?_
  refine q_k 2 ?_
  show q_W L d 5 q_m5 Q 173 [some (.ref 4), some (.int (nI p)), some (.int (nI q)), some (.int (nI r)), some (.int (nI s)), some (.int a2), some (.int b2), some (.int c2), some (.int d2)] [.int d2, .int (nI s), .ref 6] (n, q_up (q_up (q_up I 6 p a2) 6 q b2) 6 r c2, J, R) 0 0
  refine q_ias (m := s) rfl (⟨by decide, Nat.lt_of_lt_of_le (by decide) hn, rfl⟩) (hs) rfl ?_
  refine q_one rfl rfl ?_
  show Q (none) (n, q_up (q_up (q_up (q_up I 6 p a2) 6 q b2) 6 r c2) 6 s d2, J, R)
  rw [g_up4]
  subst eb2 ec2 ed2 ea2 eb1 ec1 ed1 ea1
  exact hQ
theorem c_raised_loop {L d n : Nat} {I : q_I} {J : q_L} {R : q_R} {Q : q_Q} {b e : Int32} (hQ : Q (some (.int (g_pow b e))) (n, I, J, R)) : ∀ j k : Nat, k + j = 31 → q_W L d 77 q_m77 Q 9 [some (.int b), some (.int e), some (.long ((g_pit b e k).1.toInt64)), none, some (.long ((g_pit b e k).2.toInt64)), none, some (.int (nI k))] [] (n, I, J, R) 0 0 := by
  intro j
  induction j with
  | zero =>
    intro k hk
    obtain rfl : k = 31 := by omega
    refine q_k 2 ?_
    show q_W L d 77 q_m77 Q 13 [some (.int b), some (.int e), some (.long ((g_pit b e 31).1.toInt64)), none, some (.long ((g_pit b e 31).2.toInt64)), none, some (.int (nI 31))] [.int (nI 31), .int (nI 31)] (n, I, J, R) 0 0
    refine q_one rfl rfl ?_
    show ((nI 31) ≤ (nI 31) → q_W L d 77 q_m77 Q 52 [some (.int b), some (.int e), some (.long ((g_pit b e 31).1.toInt64)), none, some (.long ((g_pit b e 31).2.toInt64)), none, some (.int (nI 31))] [] (n, I, J, R) 0 0) ∧ (¬ (nI 31) ≤ (nI 31) → q_W L d 77 q_m77 Q 16 [some (.int b), some (.int e), some (.long ((g_pit b e 31).1.toInt64)), none, some (.long ((g_pit b e 31).2.toInt64)), none, some (.int (nI 31))] [] (n, I, J, R) 0 0)
    refine ⟨fun _ => ?_, fun z => absurd (nI_le (Nat.le_refl 31) (by decide)) z⟩
    refine q_k 2 ?_
    show q_W L d 77 q_m77 Q 54 [some (.int b), some (.int e), some (.long ((g_pit b e 31).1.toInt64)), none, some (.long ((g_pit b e 31).2.toInt64)), none, some (.int (nI 31))] [.int (((g_pit b e 31).1.toInt64).toInt32)] (n, I, J, R) 0 0
    refine q_top (w := (g_pit b e 31).1) (Int32.toInt32_toInt64 _) ?_
    refine q_one rfl rfl ?_
    show Q (some (.int ((g_pit b e 31).1))) (n, I, J, R)
    exact hQ
  | succ j ih =>
    intro k hk
    refine q_k 2 ?_
    show q_W L d 77 q_m77 Q 13 [some (.int b), some (.int e), some (.long ((g_pit b e k).1.toInt64)), none, some (.long ((g_pit b e k).2.toInt64)), none, some (.int (nI k))] [.int (nI 31), .int (nI k)] (n, I, J, R) 0 0
    refine q_one rfl rfl ?_
    show ((nI 31) ≤ (nI k) → q_W L d 77 q_m77 Q 52 [some (.int b), some (.int e), some (.long ((g_pit b e k).1.toInt64)), none, some (.long ((g_pit b e k).2.toInt64)), none, some (.int (nI k))] [] (n, I, J, R) 0 0) ∧ (¬ (nI 31) ≤ (nI k) → q_W L d 77 q_m77 Q 16 [some (.int b), some (.int e), some (.long ((g_pit b e k).1.toInt64)), none, some (.long ((g_pit b e k).2.toInt64)), none, some (.int (nI k))] [] (n, I, J, R) 0 0)
    refine ⟨fun z => absurd z (nI_ge (by omega) (by decide)), fun _ => ?_⟩
    refine q_k 5 ?_
    show q_W L d 77 q_m77 Q 22 [some (.int b), some (.int e), some (.long ((g_pit b e k).1.toInt64)), none, some (.long ((g_pit b e k).2.toInt64)), none, some (.int (nI k))] [.int ((((e).toUInt32 >>> (((nI k)).toUInt32 &&& Int32.toUInt32 31)).toInt32) &&& (nI 1))] (n, I, J, R) 0 0
    refine q_top (w := g_bk e k) (g_bit e (by omega)) ?_
    refine q_k 1 ?_
    show q_W L d 77 q_m77 Q 23 [some (.int b), some (.int e), some (.long ((g_pit b e k).1.toInt64)), none, some (.long ((g_pit b e k).2.toInt64)), none, some (.int (nI k))] [.int (nI 1), .int (g_bk e k)] (n, I, J, R) 0 0
    refine q_one rfl rfl ?_
    show (¬ (g_bk e k) = (nI 1) → q_W L d 77 q_m77 Q 35 [some (.int b), some (.int e), some (.long ((g_pit b e k).1.toInt64)), none, some (.long ((g_pit b e k).2.toInt64)), none, some (.int (nI k))] [] (n, I, J, R) 0 0) ∧ ((g_bk e k) = (nI 1) → q_W L d 77 q_m77 Q 26 [some (.int b), some (.int e), some (.long ((g_pit b e k).1.toInt64)), none, some (.long ((g_pit b e k).2.toInt64)), none, some (.int (nI k))] [] (n, I, J, R) 0 0)
    refine ⟨fun h23 => ?_, fun h23 => ?_⟩
    · skip
      refine q_k 4 ?_
      show q_W L d 77 q_m77 Q 43 [some (.int b), some (.int e), some (.long ((g_pit b e k).1.toInt64)), none, some (.long ((g_pit b e k).2.toInt64)), none, some (.int (nI k))] [.long (lN 2147483647), .long (((g_pit b e k).2.toInt64) * ((g_pit b e k).2.toInt64))] (n, I, J, R) 0 0
      refine q_one rfl rfl ?_
      show ¬ (lN 2147483647) = 0 ∧ q_W L d 77 q_m77 Q 44 [some (.int b), some (.int e), some (.long ((g_pit b e k).1.toInt64)), none, some (.long ((g_pit b e k).2.toInt64)), none, some (.int (nI k))] [.long ((((g_pit b e k).2.toInt64) * ((g_pit b e k).2.toInt64)) - (((g_pit b e k).2.toInt64) * ((g_pit b e k).2.toInt64)) / (lN 2147483647) * (lN 2147483647))] (n, I, J, R) 0 0
      refine ⟨by decide +kernel, ?_⟩
      refine q_topL (w := (g_times (g_pit b e k).2 (g_pit b e k).2).toInt64) (g_timesL _ _) ?_
      refine q_k 2 ?_
      show q_W L d 77 q_m77 Q 49 [some (.int b), some (.int e), some (.long ((g_pit b e k).1.toInt64)), none, some (.long ((g_times (g_pit b e k).2 (g_pit b e k).2).toInt64)), none, some (.int ((nI k) + nI 1))] [] (n, I, J, R) 0 0
      rw [show (nI k) + nI 1 = nI (k + 1) from nI_add _ _]
      refine q_k 1 ?_
      show q_W L d 77 q_m77 Q 9 [some (.int b), some (.int e), some (.long ((g_pit b e k).1.toInt64)), none, some (.long ((g_times (g_pit b e k).2 (g_pit b e k).2).toInt64)), none, some (.int (nI (k + 1)))] [] (n, I, J, R) 0 0
      have hk2 := ih (k + 1) (by omega)
      simp only [g_pit, g_pst, if_neg h23] at hk2
      exact hk2
    · skip
      refine q_k 4 ?_
      show q_W L d 77 q_m77 Q 33 [some (.int b), some (.int e), some (.long ((g_pit b e k).1.toInt64)), none, some (.long ((g_pit b e k).2.toInt64)), none, some (.int (nI k))] [.long (lN 2147483647), .long (((g_pit b e k).1.toInt64) * ((g_pit b e k).2.toInt64))] (n, I, J, R) 0 0
      refine q_one rfl rfl ?_
      show ¬ (lN 2147483647) = 0 ∧ q_W L d 77 q_m77 Q 34 [some (.int b), some (.int e), some (.long ((g_pit b e k).1.toInt64)), none, some (.long ((g_pit b e k).2.toInt64)), none, some (.int (nI k))] [.long ((((g_pit b e k).1.toInt64) * ((g_pit b e k).2.toInt64)) - (((g_pit b e k).1.toInt64) * ((g_pit b e k).2.toInt64)) / (lN 2147483647) * (lN 2147483647))] (n, I, J, R) 0 0
      refine ⟨by decide +kernel, ?_⟩
      refine q_topL (w := (g_times (g_pit b e k).1 (g_pit b e k).2).toInt64) (g_timesL _ _) ?_
      refine q_k 5 ?_
      show q_W L d 77 q_m77 Q 43 [some (.int b), some (.int e), some (.long ((g_times (g_pit b e k).1 (g_pit b e k).2).toInt64)), none, some (.long ((g_pit b e k).2.toInt64)), none, some (.int (nI k))] [.long (lN 2147483647), .long (((g_pit b e k).2.toInt64) * ((g_pit b e k).2.toInt64))] (n, I, J, R) 0 0
      refine q_one rfl rfl ?_
      show ¬ (lN 2147483647) = 0 ∧ q_W L d 77 q_m77 Q 44 [some (.int b), some (.int e), some (.long ((g_times (g_pit b e k).1 (g_pit b e k).2).toInt64)), none, some (.long ((g_pit b e k).2.toInt64)), none, some (.int (nI k))] [.long ((((g_pit b e k).2.toInt64) * ((g_pit b e k).2.toInt64)) - (((g_pit b e k).2.toInt64) * ((g_pit b e k).2.toInt64)) / (lN 2147483647) * (lN 2147483647))] (n, I, J, R) 0 0
      refine ⟨by decide +kernel, ?_⟩
      refine q_topL (w := (g_times (g_pit b e k).2 (g_pit b e k).2).toInt64) (g_timesL _ _) ?_
      refine q_k 2 ?_
      show q_W L d 77 q_m77 Q 49 [some (.int b), some (.int e), some (.long ((g_times (g_pit b e k).1 (g_pit b e k).2).toInt64)), none, some (.long ((g_times (g_pit b e k).2 (g_pit b e k).2).toInt64)), none, some (.int ((nI k) + nI 1))] [] (n, I, J, R) 0 0
      rw [show (nI k) + nI 1 = nI (k + 1) from nI_add _ _]
      refine q_k 1 ?_
      show q_W L d 77 q_m77 Q 9 [some (.int b), some (.int e), some (.long ((g_times (g_pit b e k).1 (g_pit b e k).2).toInt64)), none, some (.long ((g_times (g_pit b e k).2 (g_pit b e k).2).toInt64)), none, some (.int (nI (k + 1)))] [] (n, I, J, R) 0 0
      have hk2 := ih (k + 1) (by omega)
      simp only [g_pit, g_pst, if_pos h23] at hk2
      exact hk2
theorem c_raised {L d n : Nat} {I : q_I} {J : q_L} {R : q_R} {Q : q_Q} {b e : Int32} (hQ : Q (some (.int (g_pow b e))) (n, I, J, R)) : q_Ex L (d + 1) 77 [.int b, .int e] (n, I, J, R) Q := by
  refine q_in (x := q_m77) rfl rfl ?_
  show q_W L d 77 q_m77 Q 0 [some (.int b), some (.int e), none, none, none, none, none] [] (n, I, J, R) 0 0
  refine q_k 7 ?_
  show q_W L d 77 q_m77 Q 9 [some (.int b), some (.int e), some (.long (lN 1)), none, some (.long ((b).toInt64)), none, some (.int (nI 0))] [] (n, I, J, R) 0 0
  exact c_raised_loop hQ 31 0 rfl
end
section
/-! loops, rows -/
theorem q_loop {σ : Type} (N : Nat) (P : Nat → σ → Prop) (Wk : Nat → σ → Prop) (hx : ∀ s, P N s → Wk N s) (hs : ∀ k s, k < N → P k s → (∀ s', P (k + 1) s' → Wk (k + 1) s') → Wk k s) (k0 : Nat) (s0 : σ) (h0 : k0 ≤ N) (hp : P k0 s0) : Wk k0 s0 := by
  obtain ⟨j, hj⟩ : ∃ j, k0 + j = N := ⟨N - k0, by omega⟩
  clear h0
  induction j generalizing k0 s0 with
  | zero => obtain rfl : k0 = N := by omega
            exact hx s0 hp
  | succ j ih => exact hs k0 s0 (by omega) hp (fun s' hp' => ih (k0 + 1) s' hp' (by omega))
/-- downwards -/
theorem q_loopD {σ : Type} (P : Nat → σ → Prop) (Wk : Nat → σ → Prop) (hx : ∀ s, P 0 s → Wk 0 s) (hs : ∀ k s, P (k + 1) s → (∀ s', P k s' → Wk k s') → Wk (k + 1) s) (k0 : Nat) (s0 : σ) (hp : P k0 s0) : Wk k0 s0 := by
  induction k0 generalizing s0 with
  | zero => exact hx s0 hp
  | succ k ih => exact hs k s0 hp (fun s' hp' => ih s' hp')
theorem q_un {α : Type} {f : Nat → Nat → α} {a k b : Nat} {v : α} (h : b ≠ a) : q_up f a k v b = f b := va_up_ne _ _ h
theorem q_us {α : Type} {f : Nat → Nat → α} {a k : Nat} {v : α} : q_up f a k v a = va_up (f a) k v := va_up_self _ _ _
theorem q_usk {α : Type} {f : Nat → Nat → α} {a k : Nat} {v : α} : q_up f a k v a k = v := by rw [q_us, va_up_self]
theorem q_usn {α : Type} {f : Nat → Nat → α} {a k j : Nat} {v : α} (h : j ≠ k) : q_up f a k v a j = f a j := by rw [q_us, va_up_ne _ _ h]
/-- the references that stand once all is made -/
def q_fx (a k : Nat) : Option Nat :=
  bif Nat.beq a 3 then (bif Nat.beq k 0 then some 4 else bif Nat.beq k 1 then some 8 else bif Nat.beq k 2 then some 9 else bif Nat.beq k 3 then some 10 else bif Nat.beq k 7 then some 81 else bif Nat.beq k 8 then some 82 else bif Nat.beq k 9 then some 83 else none) else
  bif Nat.beq a 4 then (bif Nat.beq k 0 then some 5 else bif Nat.beq k 1 then some 6 else bif Nat.beq k 2 then some 7 else none) else
  bif Nat.beq a 8 then (bif Nat.blt k 4 then some (84 + 19 * k) else none) else
  bif Nat.beq a 9 then (bif Nat.blt k 16 then some (160 + 2 * k) else none) else
  bif Nat.beq a 10 then (bif Nat.blt k 60 then some (11 + k) else none) else
  bif Nat.blt a 84 then none else
  bif Nat.blt a 160 then (bif Nat.beq ((a - 84) % 19) 0 then (bif Nat.beq k 2 then some (a + 1) else bif Nat.beq k 3 then some (a + 2) else bif Nat.beq k 4 then some (a + 3) else bif Nat.beq k 6 then some (a + 4) else bif Nat.beq k 8 then some (a + 5) else bif Nat.beq k 9 then some (a + 7) else bif Nat.beq k 10 then some (a + 8) else none) else
    bif Nat.beq ((a - 84) % 19) 5 then (bif Nat.beq k 4 then some (a + 1) else none) else none) else
  bif Nat.blt a 192 then (bif Nat.beq (a % 2) 0 then (bif Nat.beq k 0 then some (a + 1) else none) else none) else
  bif Nat.beq a 192 then (bif Nat.blt k 16 then some (193 + k) else bif Nat.blt k 18 then none else bif Nat.blt k 23 then some (191 + k) else none) else none
def q_K0 (n : Nat) (I : q_I) (R : q_R) : Prop := 214 ≤ n ∧ (∀ a k b, q_fx a k = some b → R a k = some b) ∧ (∀ j, j < 8 → I 0 j = 0) ∧ (I 1 0 = nI 1634760805 ∧ I 1 1 = nI 857760878 ∧ I 1 2 = nI 2036477234 ∧ I 1 3 = nI 1797285236)
theorem q_K0_to {n : Nat} {I I' : q_I} {R : q_R} (h : q_K0 n I R) (h0 : I' 0 = I 0) (h1 : I' 1 = I 1) : q_K0 n I' R := by
  obtain ⟨a, b, c, d⟩ := h
  exact ⟨a, b, by rw [h0]; exact c, by rw [h1]; exact d⟩
/-! the mixing -/
def g_hd (i : Nat) : Int32 := match i with
  | 0 => nI 1634760805
  | 1 => nI 857760878
  | 2 => nI 2036477234
  | _ => nI 1797285236
def g_st (key : Nat → Int32) (a b c d : Int32) (i : Nat) : Int32 := if i < 4 then g_hd i else if i < 12 then key (i - 4) else if i = 12 then a else if i = 13 then b else if i = 14 then c else d
def g_rd (f : Nat → Int32) : Nat → Int32 := g_turn 3 4 9 14 (g_turn 2 7 8 13 (g_turn 1 6 11 12 (g_turn 0 5 10 15 (g_turn 3 7 11 15 (g_turn 2 6 10 14 (g_turn 1 5 9 13 (g_turn 0 4 8 12 f)))))))
def g_rds : Nat → (Nat → Int32) → Nat → Int32
  | 0, f => f
  | k + 1, f => g_rd (g_rds k f)
/-- word i of the mix -/
def g_mix (key : Nat → Int32) (a b c d : Int32) (i : Nat) : Int32 := g_rds 10 (g_st key a b c d) i + g_st key a b c d i
def g_e16 (f g : Nat → Int32) : Prop := ∀ i, i < 16 → f i = g i
theorem g_turn_c {f g : Nat → Int32} {p q r s : Nat} (h : g_e16 f g) (hp : p < 16) (hq : q < 16) (hr : r < 16) (hs : s < 16) : g_e16 (g_turn p q r s f) (g_turn p q r s g) := by
  intro i hi
  unfold g_turn
  rw [h p hp, h q hq, h r hr, h s hs]
  unfold va_up
  split
  · rfl
  · split
    · rfl
    · split
      · rfl
      · split
        · rfl
        · exact h i hi
theorem g_rd_c {f g : Nat → Int32} (h : g_e16 f g) : g_e16 (g_rd f) (g_rd g) := by
  unfold g_rd
  exact g_turn_c (g_turn_c (g_turn_c (g_turn_c (g_turn_c (g_turn_c (g_turn_c (g_turn_c h (by decide) (by decide) (by decide) (by decide)) (by decide) (by decide) (by decide) (by decide)) (by decide) (by decide) (by decide) (by decide)) (by decide) (by decide) (by decide) (by decide)) (by decide) (by decide) (by decide) (by decide)) (by decide) (by decide) (by decide) (by decide)) (by decide) (by decide) (by decide) (by decide)) (by decide) (by decide) (by decide) (by decide)
theorem g_rds_c {f g : Nat → Int32} (h : g_e16 f g) : ∀ k, g_e16 (g_rds k f) (g_rds k g)
  | 0 => h
  | k + 1 => g_rd_c (g_rds_c h k)
theorem g_st_c {f g : Nat → Int32} (h : ∀ i, i < 8 → f i = g i) (a b c d : Int32) : g_e16 (g_st f a b c d) (g_st g a b c d) := by
  intro i hi
  unfold g_st
  split
  · rfl
  · split
    · exact h _ (by omega)
    · rfl
/-- the mix reads eight words of its key -/
theorem g_mix_c {f g : Nat → Int32} (h : ∀ i, i < 8 → f i = g i) (a b c d : Int32) {i : Nat} (hi : i < 16) : g_mix f a b c d i = g_mix g a b c d i := by
  unfold g_mix
  rw [g_rds_c (g_st_c h a b c d) 10 i hi, g_st_c h a b c d i hi]
end
section
theorem c_turn {L d n : Nat} {I : q_I} {J : q_L} {R : q_R} {Q : q_Q} {p q r s : Nat} (hK : q_K0 n I R) (hp : p < 16) (hq : q < 16) (hr : r < 16) (hs : s < 16) (hQ : ∀ I', I' 6 = g_turn p q r s (I 6) → (∀ x, x ≠ 6 → I' x = I x) → Q none (n, I', J, R)) : q_Ex L (d + 1) 5 [.ref 4, .int (nI p), .int (nI q), .int (nI r), .int (nI s)] (n, I, J, R) Q :=
  c_Mixer_turn hK.1 (hK.2.1 4 1 6 rfl) hp hq hr hs (hQ _ (va_up_self _ _ _) (fun _ hx => va_up_ne _ _ hx))
set_option maxHeartbeats 1000000 in
theorem c_blend {L d n : Nat} {I : q_I} {J : q_L} {R : q_R} {Q : q_Q} {res key : Nat} {a b c e : Int32} (hK : q_K0 n I R) (hr : q_ar n res 0 8) (hr5 : res ≠ 5) (hr6 : res ≠ 6) (hk : q_ac0 n key 8) (hk5 : key ≠ 5) (hQ : ∀ I', (∀ i, i < 8 → I' res i = g_mix (I key) a b c e i) → (∀ x, x ≠ 5 → x ≠ 6 → x ≠ res → I' x = I x) → Q none (n, I', J, R)) : q_Ex L (d + 2) 1 [.ref 4, .ref res, .ref key, .int a, .int b, .int c, .int e] (n, I, J, R) Q := by
  refine q_in (x := q_m1) rfl rfl ?_
  show q_W L (d + 1) 1 q_m1 Q 0 [some (.ref 4), some (.ref res), some (.ref key), some (.int a), some (.int b), some (.int c), some (.int e), none] [] (n, I, J, R) 0 0
  refine q_k 3 ?_
  show q_W L (d + 1) 1 q_m1 Q 5 [some (.ref 4), some (.ref res), some (.ref key), some (.int a), some (.int b), some (.int c), some (.int e), none] [.ref 4, .int (nI 0), .ref 1] (n, I, J, R) 0 0
  refine q_gR (b := 5) rfl rfl (⟨Nat.lt_of_lt_of_le (by decide) hK.1, rfl⟩) (hK.2.1 4 0 5 rfl) ?_
  refine q_k 2 ?_
  show q_W L (d + 1) 1 q_m1 Q 10 [some (.ref 4), some (.ref res), some (.ref key), some (.int a), some (.int b), some (.int c), some (.int e), none] [.int (nI 4), .int (nI 0), .ref 5, .int (nI 0), .ref 1] (n, I, J, R) 0 0
  refine q_ac (sp := 0) (dp := 0) (c := 4) rfl rfl rfl (Or.inr (Or.inr ⟨rfl, rfl⟩)) (⟨by decide, Nat.lt_of_lt_of_le (by decide) hK.1, rfl⟩) (by decide) (by decide) ⟨rfl, rfl⟩ ?_
  refine q_k 3 ?_
  show q_W L (d + 1) 1 q_m1 Q 16 [some (.ref 4), some (.ref res), some (.ref key), some (.int a), some (.int b), some (.int c), some (.int e), none] [.ref 4, .int (nI 0), .ref key] (n, va_up I 5 (va_cpy (I 1) (I 5) 0 0 4), J, R) 0 0
  refine q_gR (b := 5) rfl rfl (⟨Nat.lt_of_lt_of_le (by decide) hK.1, rfl⟩) (hK.2.1 4 0 5 rfl) ?_
  refine q_k 2 ?_
  show q_W L (d + 1) 1 q_m1 Q 22 [some (.ref 4), some (.ref res), some (.ref key), some (.int a), some (.int b), some (.int c), some (.int e), none] [.int (nI 8), .int (nI 4), .ref 5, .int (nI 0), .ref key] (n, va_up I 5 (va_cpy (I 1) (I 5) 0 0 4), J, R) 0 0
  refine q_ac (sp := 0) (dp := 4) (c := 8) rfl rfl rfl (hk) (⟨by decide, Nat.lt_of_lt_of_le (by decide) hK.1, rfl⟩) (by decide) (by decide) ⟨rfl, rfl⟩ ?_
  refine q_k 1 ?_
  show q_W L (d + 1) 1 q_m1 Q 26 [some (.ref 4), some (.ref res), some (.ref key), some (.int a), some (.int b), some (.int c), some (.int e), none] [.ref 4] (n, va_up (va_up I 5 (va_cpy (I 1) (I 5) 0 0 4)) 5 (va_cpy ((va_up I 5 (va_cpy (I 1) (I 5) 0 0 4)) key) ((va_up I 5 (va_cpy (I 1) (I 5) 0 0 4)) 5) 0 4 8), J, R) 0 0
  refine q_gR (b := 5) rfl rfl (⟨Nat.lt_of_lt_of_le (by decide) hK.1, rfl⟩) (hK.2.1 4 0 5 rfl) ?_
  refine q_k 2 ?_
  show q_W L (d + 1) 1 q_m1 Q 32 [some (.ref 4), some (.ref res), some (.ref key), some (.int a), some (.int b), some (.int c), some (.int e), none] [.int a, .int (nI 12), .ref 5] (n, va_up (va_up I 5 (va_cpy (I 1) (I 5) 0 0 4)) 5 (va_cpy ((va_up I 5 (va_cpy (I 1) (I 5) 0 0 4)) key) ((va_up I 5 (va_cpy (I 1) (I 5) 0 0 4)) 5) 0 4 8), J, R) 0 0
  refine q_ias (m := 12) rfl (⟨by decide, Nat.lt_of_lt_of_le (by decide) hK.1, rfl⟩) (by decide) rfl ?_
  refine q_k 1 ?_
  show q_W L (d + 1) 1 q_m1 Q 34 [some (.ref 4), some (.ref res), some (.ref key), some (.int a), some (.int b), some (.int c), some (.int e), none] [.ref 4] (n, q_up (va_up (va_up I 5 (va_cpy (I 1) (I 5) 0 0 4)) 5 (va_cpy ((va_up I 5 (va_cpy (I 1) (I 5) 0 0 4)) key) ((va_up I 5 (va_cpy (I 1) (I 5) 0 0 4)) 5) 0 4 8)) 5 12 a, J, R) 0 0
  refine q_gR (b := 5) rfl rfl (⟨Nat.lt_of_lt_of_le (by decide) hK.1, rfl⟩) (hK.2.1 4 0 5 rfl) ?_
  refine q_k 2 ?_
  show q_W L (d + 1) 1 q_m1 Q 41 [some (.ref 4), some (.ref res), some (.ref key), some (.int a), some (.int b), some (.int c), some (.int e), none] [.int b, .int (nI 13), .ref 5] (n, q_up (va_up (va_up I 5 (va_cpy (I 1) (I 5) 0 0 4)) 5 (va_cpy ((va_up I 5 (va_cpy (I 1) (I 5) 0 0 4)) key) ((va_up I 5 (va_cpy (I 1) (I 5) 0 0 4)) 5) 0 4 8)) 5 12 a, J, R) 0 0
  refine q_ias (m := 13) rfl (⟨by decide, Nat.lt_of_lt_of_le (by decide) hK.1, rfl⟩) (by decide) rfl ?_
  refine q_k 1 ?_
  show q_W L (d + 1) 1 q_m1 Q 43 [some (.ref 4), some (.ref res), some (.ref key), some (.int a), some (.int b), some (.int c), some (.int e), none] [.ref 4] (n, q_up (q_up (va_up (va_up I 5 (va_cpy (I 1) (I 5) 0 0 4)) 5 (va_cpy ((va_up I 5 (va_cpy (I 1) (I 5) 0 0 4)) key) ((va_up I 5 (va_cpy (I 1) (I 5) 0 0 4)) 5) 0 4 8)) 5 12 a) 5 13 b, J, R) 0 0
  refine q_gR (b := 5) rfl rfl (⟨Nat.lt_of_lt_of_le (by decide) hK.1, rfl⟩) (hK.2.1 4 0 5 rfl) ?_
  refine q_k 2 ?_
  show q_W L (d + 1) 1 q_m1 Q 50 [some (.ref 4), some (.ref res), some (.ref key), some (.int a), some (.int b), some (.int c), some (.int e), none] [.int c, .int (nI 14), .ref 5] (n, q_up (q_up (va_up (va_up I 5 (va_cpy (I 1) (I 5) 0 0 4)) 5 (va_cpy ((va_up I 5 (va_cpy (I 1) (I 5) 0 0 4)) key) ((va_up I 5 (va_cpy (I 1) (I 5) 0 0 4)) 5) 0 4 8)) 5 12 a) 5 13 b, J, R) 0 0
  refine q_ias (m := 14) rfl (⟨by decide, Nat.lt_of_lt_of_le (by decide) hK.1, rfl⟩) (by decide) rfl ?_
  refine q_k 1 ?_
  show q_W L (d + 1) 1 q_m1 Q 52 [some (.ref 4), some (.ref res), some (.ref key), some (.int a), some (.int b), some (.int c), some (.int e), none] [.ref 4] (n, q_up (q_up (q_up (va_up (va_up I 5 (va_cpy (I 1) (I 5) 0 0 4)) 5 (va_cpy ((va_up I 5 (va_cpy (I 1) (I 5) 0 0 4)) key) ((va_up I 5 (va_cpy (I 1) (I 5) 0 0 4)) 5) 0 4 8)) 5 12 a) 5 13 b) 5 14 c, J, R) 0 0
  refine q_gR (b := 5) rfl rfl (⟨Nat.lt_of_lt_of_le (by decide) hK.1, rfl⟩) (hK.2.1 4 0 5 rfl) ?_
  refine q_k 2 ?_
  show q_W L (d + 1) 1 q_m1 Q 59 [some (.ref 4), some (.ref res), some (.ref key), some (.int a), some (.int b), some (.int c), some (.int e), none] [.int e, .int (nI 15), .ref 5] (n, q_up (q_up (q_up (va_up (va_up I 5 (va_cpy (I 1) (I 5) 0 0 4)) 5 (va_cpy ((va_up I 5 (va_cpy (I 1) (I 5) 0 0 4)) key) ((va_up I 5 (va_cpy (I 1) (I 5) 0 0 4)) 5) 0 4 8)) 5 12 a) 5 13 b) 5 14 c, J, R) 0 0
  refine q_ias (m := 15) rfl (⟨by decide, Nat.lt_of_lt_of_le (by decide) hK.1, rfl⟩) (by decide) rfl ?_
  obtain ⟨I1, eI1⟩ : ∃ z, z = q_up (q_up (q_up (q_up (va_up (va_up I 5 (va_cpy (I 1) (I 5) 0 0 4)) 5 (va_cpy ((va_up I 5 (va_cpy (I 1) (I 5) 0 0 4)) key) ((va_up I 5 (va_cpy (I 1) (I 5) 0 0 4)) 5) 0 4 8)) 5 12 a) 5 13 b) 5 14 c) 5 15 e := ⟨_, rfl⟩
  rw [← eI1]
  refine q_k 1 ?_
  show q_W L (d + 1) 1 q_m1 Q 61 [some (.ref 4), some (.ref res), some (.ref key), some (.int a), some (.int b), some (.int c), some (.int e), none] [.ref 4] (n, I1, J, R) 0 0
  refine q_gR (b := 5) rfl rfl (⟨Nat.lt_of_lt_of_le (by decide) hK.1, rfl⟩) (hK.2.1 4 0 5 rfl) ?_
  refine q_k 2 ?_
  show q_W L (d + 1) 1 q_m1 Q 66 [some (.ref 4), some (.ref res), some (.ref key), some (.int a), some (.int b), some (.int c), some (.int e), none] [.ref 4, .int (nI 0), .ref 5] (n, I1, J, R) 0 0
  refine q_gR (b := 6) rfl rfl (⟨Nat.lt_of_lt_of_le (by decide) hK.1, rfl⟩) (hK.2.1 4 1 6 rfl) ?_
  refine q_k 2 ?_
  show q_W L (d + 1) 1 q_m1 Q 72 [some (.ref 4), some (.ref res), some (.ref key), some (.int a), some (.int b), some (.int c), some (.int e), none] [.int (nI 16), .int (nI 0), .ref 6, .int (nI 0), .ref 5] (n, I1, J, R) 0 0
  refine q_ac (sp := 0) (dp := 0) (c := 16) rfl rfl rfl (Or.inl (⟨by decide, Nat.lt_of_lt_of_le (by decide) hK.1, rfl⟩)) (⟨by decide, Nat.lt_of_lt_of_le (by decide) hK.1, rfl⟩) (by decide) (by decide) ⟨rfl, rfl⟩ ?_
  obtain ⟨I0, eI0⟩ : ∃ z, z = va_up I1 6 (va_cpy (I1 5) (I1 6) 0 0 16) := ⟨_, rfl⟩
  rw [← eI0]
  refine q_k 2 ?_
  show q_W L (d + 1) 1 q_m1 Q 78 [some (.ref 4), some (.ref res), some (.ref key), some (.int a), some (.int b), some (.int c), some (.int e), some (.int (nI 0))] [] (n, I0, J, R) 0 0
  have h5r : g_e16 (I1 5) (g_st (I key) a b c e) := by
    intro i hi
    rw [eI1]
    rcases hK with ⟨-, -, -, k0, k1, k2, k3⟩
    unfold g_st
    by_cases e15 : i = 15
    · subst e15; rw [q_usk]; rfl
    · rw [q_usn e15]
      by_cases e14 : i = 14
      · subst e14; rw [q_usk]; rfl
      · rw [q_usn e14]
        by_cases e13 : i = 13
        · subst e13; rw [q_usk]; rfl
        · rw [q_usn e13]
          by_cases e12 : i = 12
          · subst e12; rw [q_usk]; rfl
          · rw [q_usn e12, va_up_self]
            by_cases hlt : i < 4
            · rw [pk_cpy_out (Or.inl hlt), va_up_self, pk_cpy_in (Nat.zero_le _) (by omega), if_pos hlt]
              have e4 : i = 0 ∨ i = 1 ∨ i = 2 ∨ i = 3 := by omega
              rcases e4 with rfl | rfl | rfl | rfl
              · exact k0
              · exact k1
              · exact k2
              · exact k3
            · rw [pk_cpy_in (by omega) (by omega), if_neg hlt, if_pos (by omega), va_up_ne _ _ hk5, Nat.zero_add]
  have hoth : ∀ x, x ≠ 5 → I1 x = I x := by
    intro x hx
    rw [eI1, q_un hx, q_un hx, q_un hx, q_un hx, va_up_ne _ _ hx, va_up_ne _ _ hx]
  have h01 : g_e16 (I0 6) (g_rds 0 (g_st (I key) a b c e)) := by
    intro i hi
    rw [eI0, va_up_self, pk_cpy_in (Nat.zero_le _) (by omega)]
    simp only [Nat.zero_add, Nat.sub_zero]
    exact h5r i hi
  have h02 : g_e16 (I0 5) (g_st (I key) a b c e) := by
    rw [eI0, va_up_ne _ _ (by decide)]
    exact h5r
  have h03 : ∀ x, x ≠ 5 → x ≠ 6 → I0 x = I x := fun x h5 h6 => by rw [eI0, va_up_ne _ _ h6]; exact hoth x h5
  refine q_loop (σ := q_I) 10 (fun k I2 => g_e16 (I2 6) (g_rds k (g_st (I key) a b c e)) ∧ g_e16 (I2 5) (g_st (I key) a b c e) ∧ ∀ x, x ≠ 5 → x ≠ 6 → I2 x = I x) (fun k I2 => q_W L (d + 1) 1 q_m1 Q 78 [some (.ref 4), some (.ref res), some (.ref key), some (.int a), some (.int b), some (.int c), some (.int e), some (.int (nI k))] [] (n, I2, J, R) 0 0) ?_ ?_ 0 I0 (Nat.zero_le _) ?_
  · intro I2 hI2
    show q_W L (d + 1) 1 q_m1 Q 78 [some (.ref 4), some (.ref res), some (.ref key), some (.int a), some (.int b), some (.int c), some (.int e), some (.int (nI 10))] [] (n, I2, J, R) 0 0
    have h6 := hI2
    refine q_k 2 ?_
    show q_W L (d + 1) 1 q_m1 Q 82 [some (.ref 4), some (.ref res), some (.ref key), some (.int a), some (.int b), some (.int c), some (.int e), some (.int (nI 10))] [.int (nI 10), .int (nI 10)] (n, I2, J, R) 0 0
    refine q_one rfl rfl ?_
    show ((nI 10) ≤ (nI 10) → q_W L (d + 1) 1 q_m1 Q 175 [some (.ref 4), some (.ref res), some (.ref key), some (.int a), some (.int b), some (.int c), some (.int e), some (.int (nI 10))] [] (n, I2, J, R) 0 0) ∧ (¬ (nI 10) ≤ (nI 10) → q_W L (d + 1) 1 q_m1 Q 85 [some (.ref 4), some (.ref res), some (.ref key), some (.int a), some (.int b), some (.int c), some (.int e), some (.int (nI 10))] [] (n, I2, J, R) 0 0)
    refine ⟨fun _ => ?_, fun z => absurd (nI_le (Nat.le_refl _) (by decide)) z⟩
    refine q_k 2 ?_
    show q_W L (d + 1) 1 q_m1 Q 178 [some (.ref 4), some (.ref res), some (.ref key), some (.int a), some (.int b), some (.int c), some (.int e), some (.int (nI 0))] [] (n, I2, J, R) 0 0
    refine q_loop (σ := q_I) 8 (fun k I3 => (∀ i, i < k → I3 res i = g_mix (I key) a b c e i) ∧ g_e16 (I3 6) (g_rds 10 (g_st (I key) a b c e)) ∧ g_e16 (I3 5) (g_st (I key) a b c e) ∧ ∀ x, x ≠ 5 → x ≠ 6 → x ≠ res → I3 x = I x) (fun k I3 => q_W L (d + 1) 1 q_m1 Q 178 [some (.ref 4), some (.ref res), some (.ref key), some (.int a), some (.int b), some (.int c), some (.int e), some (.int (nI k))] [] (n, I3, J, R) 0 0) ?_ ?_ 0 I2 (Nat.zero_le _) ?_
    · intro I3 hI3
      show q_W L (d + 1) 1 q_m1 Q 178 [some (.ref 4), some (.ref res), some (.ref key), some (.int a), some (.int b), some (.int c), some (.int e), some (.int (nI 8))] [] (n, I3, J, R) 0 0
      refine q_k 2 ?_
      show q_W L (d + 1) 1 q_m1 Q 182 [some (.ref 4), some (.ref res), some (.ref key), some (.int a), some (.int b), some (.int c), some (.int e), some (.int (nI 8))] [.int (nI 8), .int (nI 8)] (n, I3, J, R) 0 0
      refine q_one rfl rfl ?_
      show ((nI 8) ≤ (nI 8) → q_W L (d + 1) 1 q_m1 Q 210 [some (.ref 4), some (.ref res), some (.ref key), some (.int a), some (.int b), some (.int c), some (.int e), some (.int (nI 8))] [] (n, I3, J, R) 0 0) ∧ (¬ (nI 8) ≤ (nI 8) → q_W L (d + 1) 1 q_m1 Q 185 [some (.ref 4), some (.ref res), some (.ref key), some (.int a), some (.int b), some (.int c), some (.int e), some (.int (nI 8))] [] (n, I3, J, R) 0 0)
      refine ⟨fun _ => ?_, fun z => absurd (nI_le (Nat.le_refl _) (by decide)) z⟩
      refine q_one rfl rfl ?_
      show Q (none) (n, I3, J, R)
      exact hQ I3 (fun i hi => hI3.1 i hi) hI3.2.2.2
    · intro k I3 hk hI3 ih
      show q_W L (d + 1) 1 q_m1 Q 178 [some (.ref 4), some (.ref res), some (.ref key), some (.int a), some (.int b), some (.int c), some (.int e), some (.int (nI k))] [] (n, I3, J, R) 0 0
      refine q_k 2 ?_
      show q_W L (d + 1) 1 q_m1 Q 182 [some (.ref 4), some (.ref res), some (.ref key), some (.int a), some (.int b), some (.int c), some (.int e), some (.int (nI k))] [.int (nI 8), .int (nI k)] (n, I3, J, R) 0 0
      refine q_one rfl rfl ?_
      show ((nI 8) ≤ (nI k) → q_W L (d + 1) 1 q_m1 Q 210 [some (.ref 4), some (.ref res), some (.ref key), some (.int a), some (.int b), some (.int c), some (.int e), some (.int (nI k))] [] (n, I3, J, R) 0 0) ∧ (¬ (nI 8) ≤ (nI k) → q_W L (d + 1) 1 q_m1 Q 185 [some (.ref 4), some (.ref res), some (.ref key), some (.int a), some (.int b), some (.int c), some (.int e), some (.int (nI k))] [] (n, I3, J, R) 0 0)
      refine ⟨fun z => absurd z (nI_ge hk (by decide)), fun _ => ?_⟩
      refine q_k 3 ?_
      show q_W L (d + 1) 1 q_m1 Q 189 [some (.ref 4), some (.ref res), some (.ref key), some (.int a), some (.int b), some (.int c), some (.int e), some (.int (nI k))] [.ref 4, .int (nI k), .ref res] (n, I3, J, R) 0 0
      refine q_gR (b := 6) rfl rfl (⟨Nat.lt_of_lt_of_le (by decide) hK.1, rfl⟩) (hK.2.1 4 1 6 rfl) ?_
      refine q_k 1 ?_
      show q_W L (d + 1) 1 q_m1 Q 194 [some (.ref 4), some (.ref res), some (.ref key), some (.int a), some (.int b), some (.int c), some (.int e), some (.int (nI k))] [.int (nI k), .ref 6, .int (nI k), .ref res] (n, I3, J, R) 0 0
      refine q_ial (m := k) rfl (⟨by decide, Nat.lt_of_lt_of_le (by decide) hK.1, rfl⟩) (by omega) rfl ?_
      refine q_k 1 ?_
      show q_W L (d + 1) 1 q_m1 Q 196 [some (.ref 4), some (.ref res), some (.ref key), some (.int a), some (.int b), some (.int c), some (.int e), some (.int (nI k))] [.ref 4, .int (I3 6 k), .int (nI k), .ref res] (n, I3, J, R) 0 0
      refine q_gR (b := 5) rfl rfl (⟨Nat.lt_of_lt_of_le (by decide) hK.1, rfl⟩) (hK.2.1 4 0 5 rfl) ?_
      refine q_k 1 ?_
      show q_W L (d + 1) 1 q_m1 Q 201 [some (.ref 4), some (.ref res), some (.ref key), some (.int a), some (.int b), some (.int c), some (.int e), some (.int (nI k))] [.int (nI k), .ref 5, .int (I3 6 k), .int (nI k), .ref res] (n, I3, J, R) 0 0
      refine q_ial (m := k) rfl (⟨by decide, Nat.lt_of_lt_of_le (by decide) hK.1, rfl⟩) (by omega) rfl ?_
      refine q_k 1 ?_
      show q_W L (d + 1) 1 q_m1 Q 203 [some (.ref 4), some (.ref res), some (.ref key), some (.int a), some (.int b), some (.int c), some (.int e), some (.int (nI k))] [.int ((I3 6 k) + (I3 5 k)), .int (nI k), .ref res] (n, I3, J, R) 0 0
      refine q_ias (m := k) rfl (hr) (by omega) rfl ?_
      refine q_k 1 ?_
      show q_W L (d + 1) 1 q_m1 Q 207 [some (.ref 4), some (.ref res), some (.ref key), some (.int a), some (.int b), some (.int c), some (.int e), some (.int ((nI k) + nI 1))] [] (n, q_up I3 res k ((I3 6 k) + (I3 5 k)), J, R) 0 0
      rw [show (nI k) + nI 1 = nI (k + 1) from nI_add _ _]
      refine q_k 1 ?_
      show q_W L (d + 1) 1 q_m1 Q 178 [some (.ref 4), some (.ref res), some (.ref key), some (.int a), some (.int b), some (.int c), some (.int e), some (.int (nI (k + 1)))] [] (n, q_up I3 res k ((I3 6 k) + (I3 5 k)), J, R) 0 0
      refine ih _ ⟨fun i hi => ?_, ?_, ?_, fun x h5 h6 hx => ?_⟩
      · by_cases e : i = k
        · subst e
          rw [q_usk, hI3.2.1 i (by omega), hI3.2.2.1 i (by omega)]
          rfl
        · rw [q_usn e]; exact hI3.1 i (by omega)
      · rw [q_un (Ne.symm hr6)]; exact hI3.2.1
      · rw [q_un (Ne.symm hr5)]; exact hI3.2.2.1
      · rw [q_un hx]; exact hI3.2.2.2 x h5 h6 hx
    · exact ⟨fun i hi => absurd hi (Nat.not_lt_zero _), h6.1, h6.2.1, fun x h5 h6' _ => h6.2.2 x h5 h6'⟩
  · intro k I2 hk h6 ih
    show q_W L (d + 1) 1 q_m1 Q 78 [some (.ref 4), some (.ref res), some (.ref key), some (.int a), some (.int b), some (.int c), some (.int e), some (.int (nI k))] [] (n, I2, J, R) 0 0
    refine q_k 2 ?_
    show q_W L (d + 1) 1 q_m1 Q 82 [some (.ref 4), some (.ref res), some (.ref key), some (.int a), some (.int b), some (.int c), some (.int e), some (.int (nI k))] [.int (nI 10), .int (nI k)] (n, I2, J, R) 0 0
    refine q_one rfl rfl ?_
    show ((nI 10) ≤ (nI k) → q_W L (d + 1) 1 q_m1 Q 175 [some (.ref 4), some (.ref res), some (.ref key), some (.int a), some (.int b), some (.int c), some (.int e), some (.int (nI k))] [] (n, I2, J, R) 0 0) ∧ (¬ (nI 10) ≤ (nI k) → q_W L (d + 1) 1 q_m1 Q 85 [some (.ref 4), some (.ref res), some (.ref key), some (.int a), some (.int b), some (.int c), some (.int e), some (.int (nI k))] [] (n, I2, J, R) 0 0)
    refine ⟨fun z => absurd z (nI_ge hk (by decide)), fun _ => ?_⟩
    refine q_k 5 ?_
    show q_W L (d + 1) 1 q_m1 Q 92 [some (.ref 4), some (.ref res), some (.ref key), some (.int a), some (.int b), some (.int c), some (.int e), some (.int (nI k))] [.int (nI 12), .int (nI 8), .int (nI 4), .int (nI 0), .ref 4] (n, I2, J, R) 0 0
    refine q_cv (as := [.int (nI 0), .int (nI 4), .int (nI 8), .int (nI 12)]) (rs := []) rfl rfl rfl (⟨Nat.lt_of_lt_of_le (by decide) hK.1, rfl⟩) rfl rfl ?_
    refine c_turn (q_K0_to hK (h6.2.2 0 (by decide) (by decide)) (h6.2.2 1 (by decide) (by decide))) (by decide) (by decide) (by decide) (by decide) (fun T1 t1 u1 => ?_)
    show q_W L (d + 1) 1 q_m1 Q 95 [some (.ref 4), some (.ref res), some (.ref key), some (.int a), some (.int b), some (.int c), some (.int e), some (.int (nI k))] [] (n, T1, J, R) 0 0
    refine q_k 5 ?_
    show q_W L (d + 1) 1 q_m1 Q 102 [some (.ref 4), some (.ref res), some (.ref key), some (.int a), some (.int b), some (.int c), some (.int e), some (.int (nI k))] [.int (nI 13), .int (nI 9), .int (nI 5), .int (nI 1), .ref 4] (n, T1, J, R) 0 0
    refine q_cv (as := [.int (nI 1), .int (nI 5), .int (nI 9), .int (nI 13)]) (rs := []) rfl rfl rfl (⟨Nat.lt_of_lt_of_le (by decide) hK.1, rfl⟩) rfl rfl ?_
    refine c_turn (q_K0_to hK (by rw [u1 0 (by decide)]; exact h6.2.2 0 (by decide) (by decide)) (by rw [u1 1 (by decide)]; exact h6.2.2 1 (by decide) (by decide))) (by decide) (by decide) (by decide) (by decide) (fun T2 t2 u2 => ?_)
    show q_W L (d + 1) 1 q_m1 Q 105 [some (.ref 4), some (.ref res), some (.ref key), some (.int a), some (.int b), some (.int c), some (.int e), some (.int (nI k))] [] (n, T2, J, R) 0 0
    refine q_k 5 ?_
    show q_W L (d + 1) 1 q_m1 Q 113 [some (.ref 4), some (.ref res), some (.ref key), some (.int a), some (.int b), some (.int c), some (.int e), some (.int (nI k))] [.int (nI 14), .int (nI 10), .int (nI 6), .int (nI 2), .ref 4] (n, T2, J, R) 0 0
    refine q_cv (as := [.int (nI 2), .int (nI 6), .int (nI 10), .int (nI 14)]) (rs := []) rfl rfl rfl (⟨Nat.lt_of_lt_of_le (by decide) hK.1, rfl⟩) rfl rfl ?_
    refine c_turn (q_K0_to hK (by rw [u2 0 (by decide), u1 0 (by decide)]; exact h6.2.2 0 (by decide) (by decide)) (by rw [u2 1 (by decide), u1 1 (by decide)]; exact h6.2.2 1 (by decide) (by decide))) (by decide) (by decide) (by decide) (by decide) (fun T3 t3 u3 => ?_)
    show q_W L (d + 1) 1 q_m1 Q 116 [some (.ref 4), some (.ref res), some (.ref key), some (.int a), some (.int b), some (.int c), some (.int e), some (.int (nI k))] [] (n, T3, J, R) 0 0
    refine q_k 5 ?_
    show q_W L (d + 1) 1 q_m1 Q 124 [some (.ref 4), some (.ref res), some (.ref key), some (.int a), some (.int b), some (.int c), some (.int e), some (.int (nI k))] [.int (nI 15), .int (nI 11), .int (nI 7), .int (nI 3), .ref 4] (n, T3, J, R) 0 0
    refine q_cv (as := [.int (nI 3), .int (nI 7), .int (nI 11), .int (nI 15)]) (rs := []) rfl rfl rfl (⟨Nat.lt_of_lt_of_le (by decide) hK.1, rfl⟩) rfl rfl ?_
    refine c_turn (q_K0_to hK (by rw [u3 0 (by decide), u2 0 (by decide), u1 0 (by decide)]; exact h6.2.2 0 (by decide) (by decide)) (by rw [u3 1 (by decide), u2 1 (by decide), u1 1 (by decide)]; exact h6.2.2 1 (by decide) (by decide))) (by decide) (by decide) (by decide) (by decide) (fun T4 t4 u4 => ?_)
    show q_W L (d + 1) 1 q_m1 Q 127 [some (.ref 4), some (.ref res), some (.ref key), some (.int a), some (.int b), some (.int c), some (.int e), some (.int (nI k))] [] (n, T4, J, R) 0 0
    refine q_k 5 ?_
    show q_W L (d + 1) 1 q_m1 Q 134 [some (.ref 4), some (.ref res), some (.ref key), some (.int a), some (.int b), some (.int c), some (.int e), some (.int (nI k))] [.int (nI 15), .int (nI 10), .int (nI 5), .int (nI 0), .ref 4] (n, T4, J, R) 0 0
    refine q_cv (as := [.int (nI 0), .int (nI 5), .int (nI 10), .int (nI 15)]) (rs := []) rfl rfl rfl (⟨Nat.lt_of_lt_of_le (by decide) hK.1, rfl⟩) rfl rfl ?_
    refine c_turn (q_K0_to hK (by rw [u4 0 (by decide), u3 0 (by decide), u2 0 (by decide), u1 0 (by decide)]; exact h6.2.2 0 (by decide) (by decide)) (by rw [u4 1 (by decide), u3 1 (by decide), u2 1 (by decide), u1 1 (by decide)]; exact h6.2.2 1 (by decide) (by decide))) (by decide) (by decide) (by decide) (by decide) (fun T5 t5 u5 => ?_)
    show q_W L (d + 1) 1 q_m1 Q 137 [some (.ref 4), some (.ref res), some (.ref key), some (.int a), some (.int b), some (.int c), some (.int e), some (.int (nI k))] [] (n, T5, J, R) 0 0
    refine q_k 5 ?_
    show q_W L (d + 1) 1 q_m1 Q 145 [some (.ref 4), some (.ref res), some (.ref key), some (.int a), some (.int b), some (.int c), some (.int e), some (.int (nI k))] [.int (nI 12), .int (nI 11), .int (nI 6), .int (nI 1), .ref 4] (n, T5, J, R) 0 0
    refine q_cv (as := [.int (nI 1), .int (nI 6), .int (nI 11), .int (nI 12)]) (rs := []) rfl rfl rfl (⟨Nat.lt_of_lt_of_le (by decide) hK.1, rfl⟩) rfl rfl ?_
    refine c_turn (q_K0_to hK (by rw [u5 0 (by decide), u4 0 (by decide), u3 0 (by decide), u2 0 (by decide), u1 0 (by decide)]; exact h6.2.2 0 (by decide) (by decide)) (by rw [u5 1 (by decide), u4 1 (by decide), u3 1 (by decide), u2 1 (by decide), u1 1 (by decide)]; exact h6.2.2 1 (by decide) (by decide))) (by decide) (by decide) (by decide) (by decide) (fun T6 t6 u6 => ?_)
    show q_W L (d + 1) 1 q_m1 Q 148 [some (.ref 4), some (.ref res), some (.ref key), some (.int a), some (.int b), some (.int c), some (.int e), some (.int (nI k))] [] (n, T6, J, R) 0 0
    refine q_k 5 ?_
    show q_W L (d + 1) 1 q_m1 Q 156 [some (.ref 4), some (.ref res), some (.ref key), some (.int a), some (.int b), some (.int c), some (.int e), some (.int (nI k))] [.int (nI 13), .int (nI 8), .int (nI 7), .int (nI 2), .ref 4] (n, T6, J, R) 0 0
    refine q_cv (as := [.int (nI 2), .int (nI 7), .int (nI 8), .int (nI 13)]) (rs := []) rfl rfl rfl (⟨Nat.lt_of_lt_of_le (by decide) hK.1, rfl⟩) rfl rfl ?_
    refine c_turn (q_K0_to hK (by rw [u6 0 (by decide), u5 0 (by decide), u4 0 (by decide), u3 0 (by decide), u2 0 (by decide), u1 0 (by decide)]; exact h6.2.2 0 (by decide) (by decide)) (by rw [u6 1 (by decide), u5 1 (by decide), u4 1 (by decide), u3 1 (by decide), u2 1 (by decide), u1 1 (by decide)]; exact h6.2.2 1 (by decide) (by decide))) (by decide) (by decide) (by decide) (by decide) (fun T7 t7 u7 => ?_)
    show q_W L (d + 1) 1 q_m1 Q 159 [some (.ref 4), some (.ref res), some (.ref key), some (.int a), some (.int b), some (.int c), some (.int e), some (.int (nI k))] [] (n, T7, J, R) 0 0
    refine q_k 5 ?_
    show q_W L (d + 1) 1 q_m1 Q 166 [some (.ref 4), some (.ref res), some (.ref key), some (.int a), some (.int b), some (.int c), some (.int e), some (.int (nI k))] [.int (nI 14), .int (nI 9), .int (nI 4), .int (nI 3), .ref 4] (n, T7, J, R) 0 0
    refine q_cv (as := [.int (nI 3), .int (nI 4), .int (nI 9), .int (nI 14)]) (rs := []) rfl rfl rfl (⟨Nat.lt_of_lt_of_le (by decide) hK.1, rfl⟩) rfl rfl ?_
    refine c_turn (q_K0_to hK (by rw [u7 0 (by decide), u6 0 (by decide), u5 0 (by decide), u4 0 (by decide), u3 0 (by decide), u2 0 (by decide), u1 0 (by decide)]; exact h6.2.2 0 (by decide) (by decide)) (by rw [u7 1 (by decide), u6 1 (by decide), u5 1 (by decide), u4 1 (by decide), u3 1 (by decide), u2 1 (by decide), u1 1 (by decide)]; exact h6.2.2 1 (by decide) (by decide))) (by decide) (by decide) (by decide) (by decide) (fun T8 t8 u8 => ?_)
    show q_W L (d + 1) 1 q_m1 Q 169 [some (.ref 4), some (.ref res), some (.ref key), some (.int a), some (.int b), some (.int c), some (.int e), some (.int (nI k))] [] (n, T8, J, R) 0 0
    refine q_k 1 ?_
    show q_W L (d + 1) 1 q_m1 Q 172 [some (.ref 4), some (.ref res), some (.ref key), some (.int a), some (.int b), some (.int c), some (.int e), some (.int ((nI k) + nI 1))] [] (n, T8, J, R) 0 0
    rw [show (nI k) + nI 1 = nI (k + 1) from nI_add _ _]
    refine q_k 1 ?_
    show q_W L (d + 1) 1 q_m1 Q 78 [some (.ref 4), some (.ref res), some (.ref key), some (.int a), some (.int b), some (.int c), some (.int e), some (.int (nI (k + 1)))] [] (n, T8, J, R) 0 0
    refine ih _ ⟨?_, ?_, fun x h5 h6' => ?_⟩
    · rw [t8, t7, t6, t5, t4, t3, t2, t1]; exact g_rd_c h6.1
    · rw [u8 5 (by decide), u7 5 (by decide), u6 5 (by decide), u5 5 (by decide), u4 5 (by decide), u3 5 (by decide), u2 5 (by decide), u1 5 (by decide)]; exact h6.2.1
    · rw [u8 x h6', u7 x h6', u6 x h6', u5 x h6', u4 x h6', u3 x h6', u2 x h6', u1 x h6']; exact h6.2.2 x h5 h6'
  · exact ⟨fun i hi => h01 i hi, fun i hi => h02 i hi, h03⟩
end
