section
-- ===== PART A: goes FIRST, ahead of the names: the tables' words, and 'selects' of the private methods out of them =====
/-- a private method of a class that the tables say can be made, by its rows of tables_1 -/
def lw_okq (q : MethodName × Nat) : Prop := (q.1.cls ≠ "java/lang/invoke/MethodHandle" ∧ q.1.cls ≠ "java/lang/invoke/VarHandle") ∧ Cond.instantiable q.1.cls q.2 ∈ tables_1 ∧ Cond.privateMethod q.1 ∈ tables_1 ∧ Cond.instanceMethod q.1 ∈ tables_1
theorem lw_p0 : lw_okq (⟨"CopierJobs$Plan", "untell", "()V"⟩, 9) := ⟨⟨by decide +kernel, by decide +kernel⟩, List.mem_of_getElem? (i := 140) (by decide +kernel), List.mem_of_getElem? (i := 185) (by decide +kernel), List.mem_of_getElem? (i := 186) (by decide +kernel)⟩
theorem lw_p1 : lw_okq (⟨"CopierJobs$Text", "readLetters", "()V"⟩, 6) := ⟨⟨by decide +kernel, by decide +kernel⟩, List.mem_of_getElem? (i := 21) (by decide +kernel), List.mem_of_getElem? (i := 310) (by decide +kernel), List.mem_of_getElem? (i := 311) (by decide +kernel)⟩
theorem lw_p2 : lw_okq (⟨"CopierJobs$Text", "readNumber", "()V"⟩, 6) := ⟨⟨by decide +kernel, by decide +kernel⟩, List.mem_of_getElem? (i := 21) (by decide +kernel), List.mem_of_getElem? (i := 317) (by decide +kernel), List.mem_of_getElem? (i := 318) (by decide +kernel)⟩
theorem lw_p3 : lw_okq (⟨"CopierJobs$Plan", "readItem", "(LCopierJobs$Text;)Z"⟩, 9) := ⟨⟨by decide +kernel, by decide +kernel⟩, List.mem_of_getElem? (i := 140) (by decide +kernel), List.mem_of_getElem? (i := 324) (by decide +kernel), List.mem_of_getElem? (i := 325) (by decide +kernel)⟩
theorem lw_p4 : lw_okq (⟨"CopierJobs$Plan", "readNumbers", "(LCopierJobs$Text;[I[I)Z"⟩, 9) := ⟨⟨by decide +kernel, by decide +kernel⟩, List.mem_of_getElem? (i := 140) (by decide +kernel), List.mem_of_getElem? (i := 332) (by decide +kernel), List.mem_of_getElem? (i := 333) (by decide +kernel)⟩
theorem lw_p5 : lw_okq (⟨"CopierJobs$Plan", "tellTrays", "()Z"⟩, 9) := ⟨⟨by decide +kernel, by decide +kernel⟩, List.mem_of_getElem? (i := 140) (by decide +kernel), List.mem_of_getElem? (i := 338) (by decide +kernel), List.mem_of_getElem? (i := 339) (by decide +kernel)⟩
theorem lw_p6 : lw_okq (⟨"CopierJobs$Plan", "tellToner", "()Z"⟩, 9) := ⟨⟨by decide +kernel, by decide +kernel⟩, List.mem_of_getElem? (i := 140) (by decide +kernel), List.mem_of_getElem? (i := 347) (by decide +kernel), List.mem_of_getElem? (i := 348) (by decide +kernel)⟩
theorem lw_p7 : lw_okq (⟨"CopierJobs$Plan", "tellBins", "()Z"⟩, 9) := ⟨⟨by decide +kernel, by decide +kernel⟩, List.mem_of_getElem? (i := 140) (by decide +kernel), List.mem_of_getElem? (i := 355) (by decide +kernel), List.mem_of_getElem? (i := 356) (by decide +kernel)⟩
theorem lw_p8 : lw_okq (⟨"CopierJobs$Plan", "tellJob", "()Z"⟩, 9) := ⟨⟨by decide +kernel, by decide +kernel⟩, List.mem_of_getElem? (i := 140) (by decide +kernel), List.mem_of_getElem? (i := 361) (by decide +kernel), List.mem_of_getElem? (i := 362) (by decide +kernel)⟩
theorem lw_p9 : lw_okq (⟨"CopierJobs", "endsIn", "(I)I"⟩, 9) := ⟨⟨by decide +kernel, by decide +kernel⟩, List.mem_of_getElem? (i := 13) (by decide +kernel), List.mem_of_getElem? (i := 400) (by decide +kernel), List.mem_of_getElem? (i := 401) (by decide +kernel)⟩
theorem lw_p10 : lw_okq (⟨"CopierJobs$Now", "bringSheet", "(LCopierJobs$Plan;LCopierJobs$Job;I)V"⟩, 9) := ⟨⟨by decide +kernel, by decide +kernel⟩, List.mem_of_getElem? (i := 57) (by decide +kernel), List.mem_of_getElem? (i := 444) (by decide +kernel), List.mem_of_getElem? (i := 445) (by decide +kernel)⟩
theorem lw_p11 : lw_okq (⟨"CopierJobs$Course", "knownAt", "(I)LCopierJobs$Now;"⟩, 4) := ⟨⟨by decide +kernel, by decide +kernel⟩, List.mem_of_getElem? (i := 51) (by decide +kernel), List.mem_of_getElem? (i := 518) (by decide +kernel), List.mem_of_getElem? (i := 519) (by decide +kernel)⟩
theorem lw_p12 : lw_okq (⟨"CopierJobs", "shortestBut", "(I)I"⟩, 9) := ⟨⟨by decide +kernel, by decide +kernel⟩, List.mem_of_getElem? (i := 13) (by decide +kernel), List.mem_of_getElem? (i := 576) (by decide +kernel), List.mem_of_getElem? (i := 577) (by decide +kernel)⟩
theorem lw_p13 : lw_okq (⟨"CopierJobs", "worthAs", "(ILCopierJobs$Job;II)I"⟩, 9) := ⟨⟨by decide +kernel, by decide +kernel⟩, List.mem_of_getElem? (i := 13) (by decide +kernel), List.mem_of_getElem? (i := 642) (by decide +kernel), List.mem_of_getElem? (i := 643) (by decide +kernel)⟩
theorem lw_p14 : lw_okq (⟨"CopierJobs", "imageAt", "(I)LCopierJobs$Course;"⟩, 9) := ⟨⟨by decide +kernel, by decide +kernel⟩, List.mem_of_getElem? (i := 13) (by decide +kernel), List.mem_of_getElem? (i := 652) (by decide +kernel), List.mem_of_getElem? (i := 653) (by decide +kernel)⟩
theorem lw_p15 : lw_okq (⟨"CopierJobsModel", "begin", "()V"⟩, 28) := ⟨⟨by decide +kernel, by decide +kernel⟩, List.mem_of_getElem? (i := 672) (by decide +kernel), List.mem_of_getElem? (i := 678) (by decide +kernel), List.mem_of_getElem? (i := 679) (by decide +kernel)⟩
def lw_privs_1 : List (MethodName × Nat) := [(⟨"CopierJobs$Plan", "untell", "()V"⟩, 9), (⟨"CopierJobs$Text", "readLetters", "()V"⟩, 6), (⟨"CopierJobs$Text", "readNumber", "()V"⟩, 6), (⟨"CopierJobs$Plan", "readItem", "(LCopierJobs$Text;)Z"⟩, 9), (⟨"CopierJobs$Plan", "readNumbers", "(LCopierJobs$Text;[I[I)Z"⟩, 9), (⟨"CopierJobs$Plan", "tellTrays", "()Z"⟩, 9), (⟨"CopierJobs$Plan", "tellToner", "()Z"⟩, 9), (⟨"CopierJobs$Plan", "tellBins", "()Z"⟩, 9), (⟨"CopierJobs$Plan", "tellJob", "()Z"⟩, 9), (⟨"CopierJobs", "endsIn", "(I)I"⟩, 9), (⟨"CopierJobs$Now", "bringSheet", "(LCopierJobs$Plan;LCopierJobs$Job;I)V"⟩, 9), (⟨"CopierJobs$Course", "knownAt", "(I)LCopierJobs$Now;"⟩, 4), (⟨"CopierJobs", "shortestBut", "(I)I"⟩, 9), (⟨"CopierJobs", "worthAs", "(ILCopierJobs$Job;II)I"⟩, 9), (⟨"CopierJobs", "imageAt", "(I)LCopierJobs$Course;"⟩, 9), (⟨"CopierJobsModel", "begin", "()V"⟩, 28)]
theorem lw_r1 : ∀ q ∈ lw_privs_1, lw_okq q := List.forall_mem_cons.mpr ⟨lw_p0, List.forall_mem_cons.mpr ⟨lw_p1, List.forall_mem_cons.mpr ⟨lw_p2, List.forall_mem_cons.mpr ⟨lw_p3, List.forall_mem_cons.mpr ⟨lw_p4, List.forall_mem_cons.mpr ⟨lw_p5, List.forall_mem_cons.mpr ⟨lw_p6, List.forall_mem_cons.mpr ⟨lw_p7, List.forall_mem_cons.mpr ⟨lw_p8, List.forall_mem_cons.mpr ⟨lw_p9, List.forall_mem_cons.mpr ⟨lw_p10, List.forall_mem_cons.mpr ⟨lw_p11, List.forall_mem_cons.mpr ⟨lw_p12, List.forall_mem_cons.mpr ⟨lw_p13, List.forall_mem_cons.mpr ⟨lw_p14, List.forall_mem_cons.mpr ⟨lw_p15, fun _ h => absurd h List.not_mem_nil⟩⟩⟩⟩⟩⟩⟩⟩⟩⟩⟩⟩⟩⟩⟩⟩
theorem lw_p16 : lw_okq (⟨"CopierJobsModel", "next", "()V"⟩, 28) := ⟨⟨by decide +kernel, by decide +kernel⟩, List.mem_of_getElem? (i := 672) (by decide +kernel), List.mem_of_getElem? (i := 783) (by decide +kernel), List.mem_of_getElem? (i := 784) (by decide +kernel)⟩
theorem lw_p17 : lw_okq (⟨"CopierJobsModel", "letter", "()I"⟩, 28) := ⟨⟨by decide +kernel, by decide +kernel⟩, List.mem_of_getElem? (i := 672) (by decide +kernel), List.mem_of_getElem? (i := 787) (by decide +kernel), List.mem_of_getElem? (i := 788) (by decide +kernel)⟩
theorem lw_p18 : lw_okq (⟨"CopierJobsModel", "readNumber", "()V"⟩, 28) := ⟨⟨by decide +kernel, by decide +kernel⟩, List.mem_of_getElem? (i := 672) (by decide +kernel), List.mem_of_getElem? (i := 793) (by decide +kernel), List.mem_of_getElem? (i := 794) (by decide +kernel)⟩
theorem lw_p19 : lw_okq (⟨"CopierJobsModel", "readLetters", "()V"⟩, 28) := ⟨⟨by decide +kernel, by decide +kernel⟩, List.mem_of_getElem? (i := 672) (by decide +kernel), List.mem_of_getElem? (i := 799) (by decide +kernel), List.mem_of_getElem? (i := 800) (by decide +kernel)⟩
theorem lw_p20 : lw_okq (⟨"CopierJobsModel", "readItem", "()Z"⟩, 28) := ⟨⟨by decide +kernel, by decide +kernel⟩, List.mem_of_getElem? (i := 672) (by decide +kernel), List.mem_of_getElem? (i := 803) (by decide +kernel), List.mem_of_getElem? (i := 804) (by decide +kernel)⟩
theorem lw_p21 : lw_okq (⟨"CopierJobsModel", "readTrays", "()Z"⟩, 28) := ⟨⟨by decide +kernel, by decide +kernel⟩, List.mem_of_getElem? (i := 672) (by decide +kernel), List.mem_of_getElem? (i := 807) (by decide +kernel), List.mem_of_getElem? (i := 808) (by decide +kernel)⟩
theorem lw_p22 : lw_okq (⟨"CopierJobsModel", "takesNumber", "(II)Z"⟩, 28) := ⟨⟨by decide +kernel, by decide +kernel⟩, List.mem_of_getElem? (i := 672) (by decide +kernel), List.mem_of_getElem? (i := 811) (by decide +kernel), List.mem_of_getElem? (i := 812) (by decide +kernel)⟩
theorem lw_p23 : lw_okq (⟨"CopierJobsModel", "readJob", "()Z"⟩, 28) := ⟨⟨by decide +kernel, by decide +kernel⟩, List.mem_of_getElem? (i := 672) (by decide +kernel), List.mem_of_getElem? (i := 815) (by decide +kernel), List.mem_of_getElem? (i := 816) (by decide +kernel)⟩
theorem lw_p24 : lw_okq (⟨"CopierJobsModel", "ends", "()Z"⟩, 28) := ⟨⟨by decide +kernel, by decide +kernel⟩, List.mem_of_getElem? (i := 672) (by decide +kernel), List.mem_of_getElem? (i := 819) (by decide +kernel), List.mem_of_getElem? (i := 820) (by decide +kernel)⟩
theorem lw_p25 : lw_okq (⟨"CopierJobsModel", "isJob", "(I)Z"⟩, 28) := ⟨⟨by decide +kernel, by decide +kernel⟩, List.mem_of_getElem? (i := 672) (by decide +kernel), List.mem_of_getElem? (i := 827) (by decide +kernel), List.mem_of_getElem? (i := 828) (by decide +kernel)⟩
theorem lw_p26 : lw_okq (⟨"CopierJobsModel", "allOf", "(I)I"⟩, 28) := ⟨⟨by decide +kernel, by decide +kernel⟩, List.mem_of_getElem? (i := 672) (by decide +kernel), List.mem_of_getElem? (i := 831) (by decide +kernel), List.mem_of_getElem? (i := 832) (by decide +kernel)⟩
theorem lw_p27 : lw_okq (⟨"CopierJobsModel", "leaves", "(I)I"⟩, 28) := ⟨⟨by decide +kernel, by decide +kernel⟩, List.mem_of_getElem? (i := 672) (by decide +kernel), List.mem_of_getElem? (i := 835) (by decide +kernel), List.mem_of_getElem? (i := 836) (by decide +kernel)⟩
theorem lw_p28 : lw_okq (⟨"CopierJobsModel", "copyOf", "(II)I"⟩, 28) := ⟨⟨by decide +kernel, by decide +kernel⟩, List.mem_of_getElem? (i := 672) (by decide +kernel), List.mem_of_getElem? (i := 839) (by decide +kernel), List.mem_of_getElem? (i := 840) (by decide +kernel)⟩
theorem lw_p29 : lw_okq (⟨"CopierJobsModel", "frontOf", "(II)I"⟩, 28) := ⟨⟨by decide +kernel, by decide +kernel⟩, List.mem_of_getElem? (i := 672) (by decide +kernel), List.mem_of_getElem? (i := 843) (by decide +kernel), List.mem_of_getElem? (i := 844) (by decide +kernel)⟩
theorem lw_p30 : lw_okq (⟨"CopierJobsModel", "leafOf", "(II)I"⟩, 28) := ⟨⟨by decide +kernel, by decide +kernel⟩, List.mem_of_getElem? (i := 672) (by decide +kernel), List.mem_of_getElem? (i := 847) (by decide +kernel), List.mem_of_getElem? (i := 848) (by decide +kernel)⟩
theorem lw_p31 : lw_okq (⟨"CopierJobsModel", "backOf", "(II)I"⟩, 28) := ⟨⟨by decide +kernel, by decide +kernel⟩, List.mem_of_getElem? (i := 672) (by decide +kernel), List.mem_of_getElem? (i := 851) (by decide +kernel), List.mem_of_getElem? (i := 852) (by decide +kernel)⟩
def lw_privs_2 : List (MethodName × Nat) := [(⟨"CopierJobsModel", "next", "()V"⟩, 28), (⟨"CopierJobsModel", "letter", "()I"⟩, 28), (⟨"CopierJobsModel", "readNumber", "()V"⟩, 28), (⟨"CopierJobsModel", "readLetters", "()V"⟩, 28), (⟨"CopierJobsModel", "readItem", "()Z"⟩, 28), (⟨"CopierJobsModel", "readTrays", "()Z"⟩, 28), (⟨"CopierJobsModel", "takesNumber", "(II)Z"⟩, 28), (⟨"CopierJobsModel", "readJob", "()Z"⟩, 28), (⟨"CopierJobsModel", "ends", "()Z"⟩, 28), (⟨"CopierJobsModel", "isJob", "(I)Z"⟩, 28), (⟨"CopierJobsModel", "allOf", "(I)I"⟩, 28), (⟨"CopierJobsModel", "leaves", "(I)I"⟩, 28), (⟨"CopierJobsModel", "copyOf", "(II)I"⟩, 28), (⟨"CopierJobsModel", "frontOf", "(II)I"⟩, 28), (⟨"CopierJobsModel", "leafOf", "(II)I"⟩, 28), (⟨"CopierJobsModel", "backOf", "(II)I"⟩, 28)]
theorem lw_r2 : ∀ q ∈ lw_privs_2, lw_okq q := List.forall_mem_cons.mpr ⟨lw_p16, List.forall_mem_cons.mpr ⟨lw_p17, List.forall_mem_cons.mpr ⟨lw_p18, List.forall_mem_cons.mpr ⟨lw_p19, List.forall_mem_cons.mpr ⟨lw_p20, List.forall_mem_cons.mpr ⟨lw_p21, List.forall_mem_cons.mpr ⟨lw_p22, List.forall_mem_cons.mpr ⟨lw_p23, List.forall_mem_cons.mpr ⟨lw_p24, List.forall_mem_cons.mpr ⟨lw_p25, List.forall_mem_cons.mpr ⟨lw_p26, List.forall_mem_cons.mpr ⟨lw_p27, List.forall_mem_cons.mpr ⟨lw_p28, List.forall_mem_cons.mpr ⟨lw_p29, List.forall_mem_cons.mpr ⟨lw_p30, List.forall_mem_cons.mpr ⟨lw_p31, fun _ h => absurd h List.not_mem_nil⟩⟩⟩⟩⟩⟩⟩⟩⟩⟩⟩⟩⟩⟩⟩⟩
theorem lw_p32 : lw_okq (⟨"CopierJobsModel", "binOf", "(II)I"⟩, 28) := ⟨⟨by decide +kernel, by decide +kernel⟩, List.mem_of_getElem? (i := 672) (by decide +kernel), List.mem_of_getElem? (i := 855) (by decide +kernel), List.mem_of_getElem? (i := 856) (by decide +kernel)⟩
theorem lw_p33 : lw_okq (⟨"CopierJobsModel", "isPage", "(II)Z"⟩, 28) := ⟨⟨by decide +kernel, by decide +kernel⟩, List.mem_of_getElem? (i := 672) (by decide +kernel), List.mem_of_getElem? (i := 863) (by decide +kernel), List.mem_of_getElem? (i := 864) (by decide +kernel)⟩
theorem lw_p34 : lw_okq (⟨"CopierJobsModel", "note", "()V"⟩, 28) := ⟨⟨by decide +kernel, by decide +kernel⟩, List.mem_of_getElem? (i := 672) (by decide +kernel), List.mem_of_getElem? (i := 872) (by decide +kernel), List.mem_of_getElem? (i := 873) (by decide +kernel)⟩
theorem lw_p35 : lw_okq (⟨"CopierJobsModel", "oneTick", "()I"⟩, 28) := ⟨⟨by decide +kernel, by decide +kernel⟩, List.mem_of_getElem? (i := 672) (by decide +kernel), List.mem_of_getElem? (i := 876) (by decide +kernel), List.mem_of_getElem? (i := 877) (by decide +kernel)⟩
theorem lw_p36 : lw_okq (⟨"CopierJobsModel", "stands", "()I"⟩, 28) := ⟨⟨by decide +kernel, by decide +kernel⟩, List.mem_of_getElem? (i := 672) (by decide +kernel), List.mem_of_getElem? (i := 880) (by decide +kernel), List.mem_of_getElem? (i := 881) (by decide +kernel)⟩
theorem lw_p37 : lw_okq (⟨"CopierJobsModel", "sidesOf", "(II)I"⟩, 28) := ⟨⟨by decide +kernel, by decide +kernel⟩, List.mem_of_getElem? (i := 672) (by decide +kernel), List.mem_of_getElem? (i := 884) (by decide +kernel), List.mem_of_getElem? (i := 885) (by decide +kernel)⟩
theorem lw_p38 : lw_okq (⟨"CopierJobsModel", "leaveAt", "(I)V"⟩, 28) := ⟨⟨by decide +kernel, by decide +kernel⟩, List.mem_of_getElem? (i := 672) (by decide +kernel), List.mem_of_getElem? (i := 888) (by decide +kernel), List.mem_of_getElem? (i := 889) (by decide +kernel)⟩
theorem lw_p39 : lw_okq (⟨"CopierJobsModel", "placeOf", "(I)I"⟩, 28) := ⟨⟨by decide +kernel, by decide +kernel⟩, List.mem_of_getElem? (i := 672) (by decide +kernel), List.mem_of_getElem? (i := 896) (by decide +kernel), List.mem_of_getElem? (i := 897) (by decide +kernel)⟩
theorem lw_p40 : lw_okq (⟨"CopierJobsModel", "inTicks", "(I)I"⟩, 28) := ⟨⟨by decide +kernel, by decide +kernel⟩, List.mem_of_getElem? (i := 672) (by decide +kernel), List.mem_of_getElem? (i := 927) (by decide +kernel), List.mem_of_getElem? (i := 928) (by decide +kernel)⟩
theorem lw_p41 : lw_okq (⟨"CopierJobsModel", "leftOf", "(I)I"⟩, 28) := ⟨⟨by decide +kernel, by decide +kernel⟩, List.mem_of_getElem? (i := 672) (by decide +kernel), List.mem_of_getElem? (i := 931) (by decide +kernel), List.mem_of_getElem? (i := 932) (by decide +kernel)⟩
theorem lw_p42 : lw_okq (⟨"CopierJobsModel", "wantsOf", "(I)I"⟩, 28) := ⟨⟨by decide +kernel, by decide +kernel⟩, List.mem_of_getElem? (i := 672) (by decide +kernel), List.mem_of_getElem? (i := 942) (by decide +kernel), List.mem_of_getElem? (i := 943) (by decide +kernel)⟩
theorem lw_p43 : lw_okq (⟨"CopierJobsModel", "inBins", "()I"⟩, 28) := ⟨⟨by decide +kernel, by decide +kernel⟩, List.mem_of_getElem? (i := 672) (by decide +kernel), List.mem_of_getElem? (i := 954) (by decide +kernel), List.mem_of_getElem? (i := 955) (by decide +kernel)⟩
theorem lw_p44 : lw_okq (⟨"CopierJobsModel", "wantsInk", "()I"⟩, 28) := ⟨⟨by decide +kernel, by decide +kernel⟩, List.mem_of_getElem? (i := 672) (by decide +kernel), List.mem_of_getElem? (i := 958) (by decide +kernel), List.mem_of_getElem? (i := 959) (by decide +kernel)⟩
theorem lw_p45 : lw_okq (⟨"CopierJobsModel", "shortest", "(I)I"⟩, 28) := ⟨⟨by decide +kernel, by decide +kernel⟩, List.mem_of_getElem? (i := 672) (by decide +kernel), List.mem_of_getElem? (i := 966) (by decide +kernel), List.mem_of_getElem? (i := 967) (by decide +kernel)⟩
theorem lw_p46 : lw_okq (⟨"CopierJobsModel", "hasInFront", "(III)Z"⟩, 28) := ⟨⟨by decide +kernel, by decide +kernel⟩, List.mem_of_getElem? (i := 672) (by decide +kernel), List.mem_of_getElem? (i := 992) (by decide +kernel), List.mem_of_getElem? (i := 993) (by decide +kernel)⟩
theorem lw_p47 : lw_okq (⟨"CopierJobsModel", "asJob", "(I)I"⟩, 28) := ⟨⟨by decide +kernel, by decide +kernel⟩, List.mem_of_getElem? (i := 672) (by decide +kernel), List.mem_of_getElem? (i := 1007) (by decide +kernel), List.mem_of_getElem? (i := 1008) (by decide +kernel)⟩
def lw_privs_3 : List (MethodName × Nat) := [(⟨"CopierJobsModel", "binOf", "(II)I"⟩, 28), (⟨"CopierJobsModel", "isPage", "(II)Z"⟩, 28), (⟨"CopierJobsModel", "note", "()V"⟩, 28), (⟨"CopierJobsModel", "oneTick", "()I"⟩, 28), (⟨"CopierJobsModel", "stands", "()I"⟩, 28), (⟨"CopierJobsModel", "sidesOf", "(II)I"⟩, 28), (⟨"CopierJobsModel", "leaveAt", "(I)V"⟩, 28), (⟨"CopierJobsModel", "placeOf", "(I)I"⟩, 28), (⟨"CopierJobsModel", "inTicks", "(I)I"⟩, 28), (⟨"CopierJobsModel", "leftOf", "(I)I"⟩, 28), (⟨"CopierJobsModel", "wantsOf", "(I)I"⟩, 28), (⟨"CopierJobsModel", "inBins", "()I"⟩, 28), (⟨"CopierJobsModel", "wantsInk", "()I"⟩, 28), (⟨"CopierJobsModel", "shortest", "(I)I"⟩, 28), (⟨"CopierJobsModel", "hasInFront", "(III)Z"⟩, 28), (⟨"CopierJobsModel", "asJob", "(I)I"⟩, 28)]
theorem lw_r3 : ∀ q ∈ lw_privs_3, lw_okq q := List.forall_mem_cons.mpr ⟨lw_p32, List.forall_mem_cons.mpr ⟨lw_p33, List.forall_mem_cons.mpr ⟨lw_p34, List.forall_mem_cons.mpr ⟨lw_p35, List.forall_mem_cons.mpr ⟨lw_p36, List.forall_mem_cons.mpr ⟨lw_p37, List.forall_mem_cons.mpr ⟨lw_p38, List.forall_mem_cons.mpr ⟨lw_p39, List.forall_mem_cons.mpr ⟨lw_p40, List.forall_mem_cons.mpr ⟨lw_p41, List.forall_mem_cons.mpr ⟨lw_p42, List.forall_mem_cons.mpr ⟨lw_p43, List.forall_mem_cons.mpr ⟨lw_p44, List.forall_mem_cons.mpr ⟨lw_p45, List.forall_mem_cons.mpr ⟨lw_p46, List.forall_mem_cons.mpr ⟨lw_p47, fun _ h => absurd h List.not_mem_nil⟩⟩⟩⟩⟩⟩⟩⟩⟩⟩⟩⟩⟩⟩⟩⟩
theorem lw_p48 : lw_okq (⟨"CopierJobsModel", "asMemo", "(I)I"⟩, 28) := ⟨⟨by decide +kernel, by decide +kernel⟩, List.mem_of_getElem? (i := 672) (by decide +kernel), List.mem_of_getElem? (i := 1011) (by decide +kernel), List.mem_of_getElem? (i := 1012) (by decide +kernel)⟩
theorem lw_p49 : lw_okq (⟨"CopierJobsModel", "asReport", "(I)I"⟩, 28) := ⟨⟨by decide +kernel, by decide +kernel⟩, List.mem_of_getElem? (i := 672) (by decide +kernel), List.mem_of_getElem? (i := 1016) (by decide +kernel), List.mem_of_getElem? (i := 1017) (by decide +kernel)⟩
theorem lw_p50 : lw_okq (⟨"CopierJobsModel", "asNotice", "(I)I"⟩, 28) := ⟨⟨by decide +kernel, by decide +kernel⟩, List.mem_of_getElem? (i := 672) (by decide +kernel), List.mem_of_getElem? (i := 1021) (by decide +kernel), List.mem_of_getElem? (i := 1022) (by decide +kernel)⟩
theorem lw_p51 : lw_okq (⟨"CopierJobsModel", "asLedger", "(I)I"⟩, 28) := ⟨⟨by decide +kernel, by decide +kernel⟩, List.mem_of_getElem? (i := 672) (by decide +kernel), List.mem_of_getElem? (i := 1026) (by decide +kernel), List.mem_of_getElem? (i := 1027) (by decide +kernel)⟩
theorem lw_p52 : lw_okq (⟨"CopierJobsModel", "asFlyer", "(I)I"⟩, 28) := ⟨⟨by decide +kernel, by decide +kernel⟩, List.mem_of_getElem? (i := 672) (by decide +kernel), List.mem_of_getElem? (i := 1031) (by decide +kernel), List.mem_of_getElem? (i := 1032) (by decide +kernel)⟩
def lw_privs_4 : List (MethodName × Nat) := [(⟨"CopierJobsModel", "asMemo", "(I)I"⟩, 28), (⟨"CopierJobsModel", "asReport", "(I)I"⟩, 28), (⟨"CopierJobsModel", "asNotice", "(I)I"⟩, 28), (⟨"CopierJobsModel", "asLedger", "(I)I"⟩, 28), (⟨"CopierJobsModel", "asFlyer", "(I)I"⟩, 28)]
theorem lw_r4 : ∀ q ∈ lw_privs_4, lw_okq q := List.forall_mem_cons.mpr ⟨lw_p48, List.forall_mem_cons.mpr ⟨lw_p49, List.forall_mem_cons.mpr ⟨lw_p50, List.forall_mem_cons.mpr ⟨lw_p51, List.forall_mem_cons.mpr ⟨lw_p52, fun _ h => absurd h List.not_mem_nil⟩⟩⟩⟩⟩
def lw_privs : List (MethodName × Nat) := lw_privs_1 ++ (lw_privs_2 ++ (lw_privs_3 ++ (lw_privs_4)))
def lw_tbl : List Cond := k2_sels lw_privs ++ tables_1
theorem lw_privs_ok : ∀ q ∈ lw_privs, lw_okq q := by
  show ∀ q ∈ lw_privs_1 ++ (lw_privs_2 ++ (lw_privs_3 ++ (lw_privs_4))), lw_okq q
  exact List.forall_mem_append.mpr ⟨lw_r1, List.forall_mem_append.mpr ⟨lw_r2, List.forall_mem_append.mpr ⟨lw_r3, lw_r4⟩⟩⟩
def RX0 : String := "CopierJobs$Course"
def TX0 : u_T := fun k => match k with
  | 0 => ("CopierJobs$Course", "now", "LCopierJobs$Now;", true)
  | 1 => ("CopierJobs$Course", "known", "[LCopierJobs$Now;", true)
  | 2 => ("CopierJobs$Course", "oldest", "I", false)
  | _ => ("CopierJobs$Course", "knownCount", "I", false)
def tyX0 : Nat → FieldType := fun k => match k with
  | 0 => .object "CopierJobs$Now"
  | 1 => .array (.object "CopierJobs$Now")
  | 2 => .int
  | _ => .int
abbrev wsX00 : List Cond := u_ws RX0 TX0 4
theorem nmX0 : ∀ a, a < 4 → ∀ b, b < 4 → a ≠ b → (TX0 a).2.1 ≠ (TX0 b).2.1 := by decide +kernel
theorem tyX0_ok : ∀ k, k < 4 → parseFieldDescriptor (TX0 k).2.2.1 = some (tyX0 k) := by decide +kernel
abbrev cX0_init : ByteArray := prog_2_method_1_code
def yX0_init : MethodName := ⟨RX0, "<init>", "()V"⟩
abbrev cX0_begin : ByteArray := prog_2_method_2_code
def yX0_begin : MethodName := ⟨RX0, "begin", "(LCopierJobs$Plan;)V"⟩
abbrev cX0_knownAt : ByteArray := prog_2_method_3_code
def yX0_knownAt : MethodName := ⟨RX0, "knownAt", "(I)LCopierJobs$Now;"⟩
abbrev cX0_remember : ByteArray := prog_2_method_4_code
def yX0_remember : MethodName := ⟨RX0, "remember", "()V"⟩
abbrev cX0_takeBack : ByteArray := prog_2_method_5_code
def yX0_takeBack : MethodName := ⟨RX0, "takeBack", "()V"⟩
abbrev cX0_copyFrom : ByteArray := prog_2_method_6_code
def yX0_copyFrom : MethodName := ⟨RX0, "copyFrom", "(LCopierJobs$Course;)V"⟩
def RX1 : String := "CopierJobs$Job"
def TX1 : u_T := fun k => match k with
  | 0 => ("CopierJobs$Job", "pages", "I", false)
  | 1 => ("CopierJobs$Job", "copies", "I", false)
  | 2 => ("CopierJobs$Job", "both", "Z", false)
  | 3 => ("CopierJobs$Job", "sorted", "Z", false)
  | 4 => ("CopierJobs$Job", "tray", "I", false)
  | 5 => ("CopierJobs$Job", "leaves", "I", false)
  | _ => ("CopierJobs$Job", "run", "I", false)
def tyX1 : Nat → FieldType := fun k => match k with
  | 0 => .int
  | 1 => .int
  | 2 => .boolean
  | 3 => .boolean
  | 4 => .int
  | 5 => .int
  | _ => .int
abbrev wsX10 : List Cond := u_ws RX1 TX1 7
theorem nmX1 : ∀ a, a < 7 → ∀ b, b < 7 → a ≠ b → (TX1 a).2.1 ≠ (TX1 b).2.1 := by decide +kernel
theorem tyX1_ok : ∀ k, k < 7 → parseFieldDescriptor (TX1 k).2.2.1 = some (tyX1 k) := by decide +kernel
abbrev cX1_init : ByteArray := prog_3_method_1_code
def yX1_init : MethodName := ⟨RX1, "<init>", "()V"⟩
abbrev cX1_tell : ByteArray := prog_3_method_2_code
def yX1_tell : MethodName := ⟨RX1, "tell", "([I)V"⟩
abbrev cX1_all : ByteArray := prog_3_method_3_code
def yX1_all : MethodName := ⟨RX1, "all", "()I"⟩
abbrev cX1_hasSheet : ByteArray := prog_3_method_4_code
def yX1_hasSheet : MethodName := ⟨RX1, "hasSheet", "(I)Z"⟩
abbrev cX1_hasPage : ByteArray := prog_3_method_5_code
def yX1_hasPage : MethodName := ⟨RX1, "hasPage", "(I)Z"⟩
abbrev cX1_copyOf : ByteArray := prog_3_method_6_code
def yX1_copyOf : MethodName := ⟨RX1, "copyOf", "(I)I"⟩
abbrev cX1_leafOf : ByteArray := prog_3_method_7_code
def yX1_leafOf : MethodName := ⟨RX1, "leafOf", "(I)I"⟩
abbrev cX1_frontOf : ByteArray := prog_3_method_8_code
def yX1_frontOf : MethodName := ⟨RX1, "frontOf", "(I)I"⟩
abbrev cX1_backOf : ByteArray := prog_3_method_9_code
def yX1_backOf : MethodName := ⟨RX1, "backOf", "(I)I"⟩
abbrev cX1_sidesOf : ByteArray := prog_3_method_10_code
def yX1_sidesOf : MethodName := ⟨RX1, "sidesOf", "(I)I"⟩
abbrev cX1_sheetWith : ByteArray := prog_3_method_11_code
def yX1_sheetWith : MethodName := ⟨RX1, "sheetWith", "(II)I"⟩
def RX2 : String := "CopierJobs$Now"
def TX2 : u_T := fun k => match k with
  | 0 => ("CopierJobs$Now", "tick", "I", false)
  | 1 => ("CopierJobs$Now", "toner", "I", false)
  | 2 => ("CopierJobs$Now", "half", "Z", false)
  | 3 => ("CopierJobs$Now", "queued", "I", false)
  | 4 => ("CopierJobs$Now", "queue", "[I", true)
  | 5 => ("CopierJobs$Now", "made", "[I", true)
  | 6 => ("CopierJobs$Now", "ends", "[I", true)
  | 7 => ("CopierJobs$Now", "trays", "[I", true)
  | _ => ("CopierJobs$Now", "bins", "[I", true)
def tyX2 : Nat → FieldType := fun k => match k with
  | 0 => .int
  | 1 => .int
  | 2 => .boolean
  | 3 => .int
  | 4 => .array .int
  | 5 => .array .int
  | 6 => .array .int
  | 7 => .array .int
  | _ => .array .int
abbrev wsX20 : List Cond := u_ws RX2 TX2 9
theorem nmX2 : ∀ a, a < 9 → ∀ b, b < 9 → a ≠ b → (TX2 a).2.1 ≠ (TX2 b).2.1 := by decide +kernel
theorem tyX2_ok : ∀ k, k < 9 → parseFieldDescriptor (TX2 k).2.2.1 = some (tyX2 k) := by decide +kernel
abbrev cX2_init : ByteArray := prog_4_method_1_code
def yX2_init : MethodName := ⟨RX2, "<init>", "()V"⟩
abbrev cX2_begin : ByteArray := prog_4_method_2_code
def yX2_begin : MethodName := ⟨RX2, "begin", "(LCopierJobs$Plan;)V"⟩
abbrev cX2_copyFrom : ByteArray := prog_4_method_3_code
def yX2_copyFrom : MethodName := ⟨RX2, "copyFrom", "(LCopierJobs$Now;)V"⟩
abbrev cX2_madeOf : ByteArray := prog_4_method_4_code
def yX2_madeOf : MethodName := ⟨RX2, "madeOf", "(I)I"⟩
abbrev cX2_endOf : ByteArray := prog_4_method_5_code
def yX2_endOf : MethodName := ⟨RX2, "endOf", "(I)I"⟩
abbrev cX2_firstJob : ByteArray := prog_4_method_6_code
def yX2_firstJob : MethodName := ⟨RX2, "firstJob", "()I"⟩
abbrev cX2_placeOf : ByteArray := prog_4_method_7_code
def yX2_placeOf : MethodName := ⟨RX2, "placeOf", "(I)I"⟩
abbrev cX2_comeToHead : ByteArray := prog_4_method_8_code
def yX2_comeToHead : MethodName := ⟨RX2, "comeToHead", "(I)V"⟩
abbrev cX2_leaveQueue : ByteArray := prog_4_method_9_code
def yX2_leaveQueue : MethodName := ⟨RX2, "leaveQueue", "(I)V"⟩
abbrev cX2_whyStands : ByteArray := prog_4_method_10_code
def yX2_whyStands : MethodName := ⟨RX2, "whyStands", "(LCopierJobs$Plan;)I"⟩
abbrev cX2_passTick : ByteArray := prog_4_method_11_code
def yX2_passTick : MethodName := ⟨RX2, "passTick", "(LCopierJobs$Plan;)Z"⟩
abbrev cX2_bringSheet : ByteArray := prog_4_method_12_code
def yX2_bringSheet : MethodName := ⟨RX2, "bringSheet", "(LCopierJobs$Plan;LCopierJobs$Job;I)V"⟩
abbrev cX2_leftOf : ByteArray := prog_4_method_13_code
def yX2_leftOf : MethodName := ⟨RX2, "leftOf", "(LCopierJobs$Plan;I)I"⟩
abbrev cX2_sheetsInBins : ByteArray := prog_4_method_14_code
def yX2_sheetsInBins : MethodName := ⟨RX2, "sheetsInBins", "()I"⟩
abbrev cX2_trayWants : ByteArray := prog_4_method_15_code
def yX2_trayWants : MethodName := ⟨RX2, "trayWants", "(LCopierJobs$Plan;I)I"⟩
abbrev cX2_tonerWants : ByteArray := prog_4_method_16_code
def yX2_tonerWants : MethodName := ⟨RX2, "tonerWants", "(LCopierJobs$Plan;)I"⟩
def RX3 : String := "CopierJobs$Plan"
def TX3 : u_T := fun k => match k with
  | 0 => ("CopierJobs$Plan", "trays", "[I", true)
  | 1 => ("CopierJobs$Plan", "toner", "I", false)
  | 2 => ("CopierJobs$Plan", "bins", "I", false)
  | 3 => ("CopierJobs$Plan", "jobs", "[LCopierJobs$Job;", true)
  | 4 => ("CopierJobs$Plan", "jobCount", "I", false)
  | 5 => ("CopierJobs$Plan", "numbers", "[I", true)
  | 6 => ("CopierJobs$Plan", "traysTold", "Z", false)
  | 7 => ("CopierJobs$Plan", "tonerTold", "Z", false)
  | _ => ("CopierJobs$Plan", "binsTold", "Z", false)
def tyX3 : Nat → FieldType := fun k => match k with
  | 0 => .array .int
  | 1 => .int
  | 2 => .int
  | 3 => .array (.object "CopierJobs$Job")
  | 4 => .int
  | 5 => .array .int
  | 6 => .boolean
  | 7 => .boolean
  | _ => .boolean
abbrev wsX30 : List Cond := u_ws RX3 TX3 9
theorem nmX3 : ∀ a, a < 9 → ∀ b, b < 9 → a ≠ b → (TX3 a).2.1 ≠ (TX3 b).2.1 := by decide +kernel
theorem tyX3_ok : ∀ k, k < 9 → parseFieldDescriptor (TX3 k).2.2.1 = some (tyX3 k) := by decide +kernel
abbrev cX3_init : ByteArray := prog_5_method_1_code
def yX3_init : MethodName := ⟨RX3, "<init>", "()V"⟩
abbrev cX3_untell : ByteArray := prog_5_method_2_code
def yX3_untell : MethodName := ⟨RX3, "untell", "()V"⟩
abbrev cX3_jobAt : ByteArray := prog_5_method_3_code
def yX3_jobAt : MethodName := ⟨RX3, "jobAt", "(I)LCopierJobs$Job;"⟩
abbrev cX3_hasBin : ByteArray := prog_5_method_4_code
def yX3_hasBin : MethodName := ⟨RX3, "hasBin", "(I)Z"⟩
abbrev cX3_binOf : ByteArray := prog_5_method_5_code
def yX3_binOf : MethodName := ⟨RX3, "binOf", "(LCopierJobs$Job;I)I"⟩
abbrev cX3_readFrom : ByteArray := prog_5_method_6_code
def yX3_readFrom : MethodName := ⟨RX3, "readFrom", "(LCopierJobs$Text;)I"⟩
abbrev cX3_readItem : ByteArray := prog_5_method_7_code
def yX3_readItem : MethodName := ⟨RX3, "readItem", "(LCopierJobs$Text;)Z"⟩
abbrev cX3_readNumbers : ByteArray := prog_5_method_8_code
def yX3_readNumbers : MethodName := ⟨RX3, "readNumbers", "(LCopierJobs$Text;[I[I)Z"⟩
abbrev cX3_tellTrays : ByteArray := prog_5_method_9_code
def yX3_tellTrays : MethodName := ⟨RX3, "tellTrays", "()Z"⟩
abbrev cX3_tellToner : ByteArray := prog_5_method_10_code
def yX3_tellToner : MethodName := ⟨RX3, "tellToner", "()Z"⟩
abbrev cX3_tellBins : ByteArray := prog_5_method_11_code
def yX3_tellBins : MethodName := ⟨RX3, "tellBins", "()Z"⟩
abbrev cX3_tellJob : ByteArray := prog_5_method_12_code
def yX3_tellJob : MethodName := ⟨RX3, "tellJob", "()Z"⟩
def RX4 : String := "CopierJobs$Seen"
def TX4 : u_T := fun k => match k with
  | 0 => ("CopierJobs$Seen", "sheets", "[I", true)
  | 1 => ("CopierJobs$Seen", "pages", "[I", true)
  | 2 => ("CopierJobs$Seen", "there", "[I", true)
  | 3 => ("CopierJobs$Seen", "size", "I", false)
  | _ => ("CopierJobs$Seen", "withFront", "[I", true)
def tyX4 : Nat → FieldType := fun k => match k with
  | 0 => .array .int
  | 1 => .array .int
  | 2 => .array .int
  | 3 => .int
  | _ => .array .int
abbrev wsX40 : List Cond := u_ws RX4 TX4 5
theorem nmX4 : ∀ a, a < 5 → ∀ b, b < 5 → a ≠ b → (TX4 a).2.1 ≠ (TX4 b).2.1 := by decide +kernel
theorem tyX4_ok : ∀ k, k < 5 → parseFieldDescriptor (TX4 k).2.2.1 = some (tyX4 k) := by decide +kernel
abbrev cX4_init : ByteArray := prog_6_method_1_code
def yX4_init : MethodName := ⟨RX4, "<init>", "()V"⟩
abbrev cX4_add : ByteArray := prog_6_method_2_code
def yX4_add : MethodName := ⟨RX4, "add", "(III)I"⟩
abbrev cX4_forgetAll : ByteArray := prog_6_method_3_code
def yX4_forgetAll : MethodName := ⟨RX4, "forgetAll", "()I"⟩
abbrev cX4_fits : ByteArray := prog_6_method_4_code
def yX4_fits : MethodName := ⟨RX4, "fits", "(LCopierJobs$Job;)Z"⟩
abbrev cX4_countFronts : ByteArray := prog_6_method_5_code
def yX4_countFronts : MethodName := ⟨RX4, "countFronts", "(LCopierJobs$Plan;II)V"⟩
def RX5 : String := "CopierJobs$Text"
def TX5 : u_T := fun k => match k with
  | 0 => ("CopierJobs$Text", "bytes", "[I", true)
  | 1 => ("CopierJobs$Text", "length", "I", false)
  | 2 => ("CopierJobs$Text", "place", "I", false)
  | 3 => ("CopierJobs$Text", "token", "I", false)
  | 4 => ("CopierJobs$Text", "start", "I", false)
  | _ => ("CopierJobs$Text", "value", "I", false)
def tyX5 : Nat → FieldType := fun k => match k with
  | 0 => .array .int
  | 1 => .int
  | 2 => .int
  | 3 => .int
  | 4 => .int
  | _ => .int
abbrev wsX50 : List Cond := u_ws RX5 TX5 6
theorem nmX5 : ∀ a, a < 6 → ∀ b, b < 6 → a ≠ b → (TX5 a).2.1 ≠ (TX5 b).2.1 := by decide +kernel
theorem tyX5_ok : ∀ k, k < 6 → parseFieldDescriptor (TX5 k).2.2.1 = some (tyX5 k) := by decide +kernel
abbrev cX5_init : ByteArray := prog_7_method_1_code
def yX5_init : MethodName := ⟨RX5, "<init>", "()V"⟩
abbrev cX5_isFull : ByteArray := prog_7_method_2_code
def yX5_isFull : MethodName := ⟨RX5, "isFull", "()Z"⟩
abbrev cX5_add : ByteArray := prog_7_method_3_code
def yX5_add : MethodName := ⟨RX5, "add", "(I)I"⟩
abbrev cX5_wipe : ByteArray := prog_7_method_4_code
def yX5_wipe : MethodName := ⟨RX5, "wipe", "()I"⟩
abbrev cX5_rewind : ByteArray := prog_7_method_5_code
def yX5_rewind : MethodName := ⟨RX5, "rewind", "()V"⟩
abbrev cX5_readToken : ByteArray := prog_7_method_6_code
def yX5_readToken : MethodName := ⟨RX5, "readToken", "()V"⟩
abbrev cX5_readLetters : ByteArray := prog_7_method_7_code
def yX5_readLetters : MethodName := ⟨RX5, "readLetters", "()V"⟩
abbrev cX5_readNumber : ByteArray := prog_7_method_8_code
def yX5_readNumber : MethodName := ⟨RX5, "readNumber", "()V"⟩
abbrev cX5_isLetter : ByteArray := prog_7_method_9_code
def yX5_isLetter : MethodName := ⟨RX5, "isLetter", "(I)Z"⟩
abbrev cX5_isDigit : ByteArray := prog_7_method_10_code
def yX5_isDigit : MethodName := ⟨RX5, "isDigit", "(I)Z"⟩
def RX6 : String := "CopierJobs"
def TX6 : u_T := fun k => match k with
  | 0 => ("CopierJobs", "text", "LCopierJobs$Text;", true)
  | 1 => ("CopierJobs", "course", "LCopierJobs$Course;", true)
  | 2 => ("CopierJobs", "trial", "LCopierJobs$Now;", true)
  | 3 => ("CopierJobs", "seen", "LCopierJobs$Seen;", true)
  | 4 => ("CopierJobs", "images", "[LCopierJobs$Course;", true)
  | 5 => ("CopierJobs", "kept", "[Z", true)
  | 6 => ("CopierJobs", "plan", "LCopierJobs$Plan;", false)
  | 7 => ("CopierJobs", "nextPlan", "LCopierJobs$Plan;", false)
  | _ => ("CopierJobs", "traced", "J", false)
def tyX6 : Nat → FieldType := fun k => match k with
  | 0 => .object "CopierJobs$Text"
  | 1 => .object "CopierJobs$Course"
  | 2 => .object "CopierJobs$Now"
  | 3 => .object "CopierJobs$Seen"
  | 4 => .array (.object "CopierJobs$Course")
  | 5 => .array .boolean
  | 6 => .object "CopierJobs$Plan"
  | 7 => .object "CopierJobs$Plan"
  | _ => .long
abbrev wsX60 : List Cond := u_ws RX6 TX6 9
theorem nmX6 : ∀ a, a < 9 → ∀ b, b < 9 → a ≠ b → (TX6 a).2.1 ≠ (TX6 b).2.1 := by decide +kernel
theorem tyX6_ok : ∀ k, k < 9 → parseFieldDescriptor (TX6 k).2.2.1 = some (tyX6 k) := by decide +kernel
abbrev cX6_init : ByteArray := prog_1_method_1_code
def yX6_init : MethodName := ⟨RX6, "<init>", "()V"⟩
abbrev cX6_type : ByteArray := prog_1_method_2_code
def yX6_type : MethodName := ⟨RX6, "type", "(I)I"⟩
abbrev cX6_clear : ByteArray := prog_1_method_3_code
def yX6_clear : MethodName := ⟨RX6, "clear", "()I"⟩
abbrev cX6_office : ByteArray := prog_1_method_4_code
def yX6_office : MethodName := ⟨RX6, "office", "()I"⟩
abbrev cX6_job : ByteArray := prog_1_method_5_code
def yX6_job : MethodName := ⟨RX6, "job", "(II)I"⟩
abbrev cX6_sheet : ByteArray := prog_1_method_6_code
def yX6_sheet : MethodName := ⟨RX6, "sheet", "(III)I"⟩
abbrev cX6_where : ByteArray := prog_1_method_7_code
def yX6_where : MethodName := ⟨RX6, "where", "(III)I"⟩
abbrev cX6_tray : ByteArray := prog_1_method_8_code
def yX6_tray : MethodName := ⟨RX6, "tray", "(II)I"⟩
abbrev cX6_bin : ByteArray := prog_1_method_9_code
def yX6_bin : MethodName := ⟨RX6, "bin", "(I)I"⟩
abbrev cX6_ticks : ByteArray := prog_1_method_10_code
def yX6_ticks : MethodName := ⟨RX6, "ticks", "(I)I"⟩
abbrev cX6_ahead : ByteArray := prog_1_method_11_code
def yX6_ahead : MethodName := ⟨RX6, "ahead", "(I)I"⟩
abbrev cX6_breaks : ByteArray := prog_1_method_12_code
def yX6_breaks : MethodName := ⟨RX6, "breaks", "(I)I"⟩
abbrev cX6_fills : ByteArray := prog_1_method_13_code
def yX6_fills : MethodName := ⟨RX6, "fills", "(II)I"⟩
abbrev cX6_toner : ByteArray := prog_1_method_14_code
def yX6_toner : MethodName := ⟨RX6, "toner", "(I)I"⟩
abbrev cX6_empties : ByteArray := prog_1_method_15_code
def yX6_empties : MethodName := ⟨RX6, "empties", "(I)I"⟩
abbrev cX6_undo : ByteArray := prog_1_method_16_code
def yX6_undo : MethodName := ⟨RX6, "undo", "()I"⟩
abbrev cX6_now : ByteArray := prog_1_method_17_code
def yX6_now : MethodName := ⟨RX6, "now", "(I)I"⟩
abbrev cX6_soon : ByteArray := prog_1_method_18_code
def yX6_soon : MethodName := ⟨RX6, "soon", "(I)I"⟩
abbrev cX6_odds : ByteArray := prog_1_method_19_code
def yX6_odds : MethodName := ⟨RX6, "odds", "(IIII)I"⟩
abbrev cX6_sees : ByteArray := prog_1_method_20_code
def yX6_sees : MethodName := ⟨RX6, "sees", "(III)I"⟩
abbrev cX6_forget : ByteArray := prog_1_method_21_code
def yX6_forget : MethodName := ⟨RX6, "forget", "()I"⟩
abbrev cX6_whose : ByteArray := prog_1_method_22_code
def yX6_whose : MethodName := ⟨RX6, "whose", "()I"⟩
abbrev cX6_look : ByteArray := prog_1_method_23_code
def yX6_look : MethodName := ⟨RX6, "look", "()I"⟩
abbrev cX6_mark : ByteArray := prog_1_method_24_code
def yX6_mark : MethodName := ⟨RX6, "mark", "(II)I"⟩
abbrev cX6_keep : ByteArray := prog_1_method_25_code
def yX6_keep : MethodName := ⟨RX6, "keep", "(I)I"⟩
abbrev cX6_back : ByteArray := prog_1_method_26_code
def yX6_back : MethodName := ⟨RX6, "back", "(I)I"⟩
abbrev cX6_count : ByteArray := prog_1_method_27_code
def yX6_count : MethodName := ⟨RX6, "count", "(I)I"⟩
abbrev cX6_trace : ByteArray := prog_1_method_28_code
def yX6_trace : MethodName := ⟨RX6, "trace", "()J"⟩
abbrev cX6_endsIn : ByteArray := prog_1_method_29_code
def yX6_endsIn : MethodName := ⟨RX6, "endsIn", "(I)I"⟩
abbrev cX6_shortestBut : ByteArray := prog_1_method_30_code
def yX6_shortestBut : MethodName := ⟨RX6, "shortestBut", "(I)I"⟩
abbrev cX6_worthAs : ByteArray := prog_1_method_31_code
def yX6_worthAs : MethodName := ⟨RX6, "worthAs", "(ILCopierJobs$Job;II)I"⟩
abbrev cX6_imageAt : ByteArray := prog_1_method_32_code
def yX6_imageAt : MethodName := ⟨RX6, "imageAt", "(I)LCopierJobs$Course;"⟩
abbrev cX6_at : ByteArray := prog_1_method_33_code
def yX6_at : MethodName := ⟨RX6, "at", "([II)I"⟩
abbrev cX6_put : ByteArray := prog_1_method_34_code
def yX6_put : MethodName := ⟨RX6, "put", "([III)V"⟩
abbrev cX6_copyRow : ByteArray := prog_1_method_35_code
def yX6_copyRow : MethodName := ⟨RX6, "copyRow", "([I[I)V"⟩
abbrev cX6_choose : ByteArray := prog_1_method_36_code
def yX6_choose : MethodName := ⟨RX6, "choose", "(II)I"⟩
abbrev cX6_commonDivisor : ByteArray := prog_1_method_37_code
def yX6_commonDivisor : MethodName := ⟨RX6, "commonDivisor", "(II)I"⟩
def RX7 : String := "CopierJobsModel"
def TX7 : u_T := fun k => match k with
  | 0 => ("CopierJobsModel", "pages", "[I", true)
  | 1 => ("CopierJobsModel", "copies", "[I", true)
  | 2 => ("CopierJobsModel", "both", "[I", true)
  | 3 => ("CopierJobsModel", "sorted", "[I", true)
  | 4 => ("CopierJobsModel", "trays", "[I", true)
  | 5 => ("CopierJobsModel", "jobs", "I", false)
  | 6 => ("CopierJobsModel", "bins", "I", false)
  | 7 => ("CopierJobsModel", "st", "[I", true)
  | 8 => ("CopierJobsModel", "past", "[I", true)
  | 9 => ("CopierJobsModel", "undoMany", "I", false)
  | 10 => ("CopierJobsModel", "seen", "[I", true)
  | 11 => ("CopierJobsModel", "seenMany", "I", false)
  | 12 => ("CopierJobsModel", "trace", "J", false)
  | 13 => ("CopierJobsModel", "text", "[I", true)
  | 14 => ("CopierJobsModel", "length", "I", false)
  | 15 => ("CopierJobsModel", "place", "I", false)
  | 16 => ("CopierJobsModel", "from", "I", false)
  | 17 => ("CopierJobsModel", "sort", "I", false)
  | 18 => ("CopierJobsModel", "value", "I", false)
  | 19 => ("CopierJobsModel", "newTrays", "[I", true)
  | 20 => ("CopierJobsModel", "newInk", "I", false)
  | 21 => ("CopierJobsModel", "newBins", "I", false)
  | 22 => ("CopierJobsModel", "newJobs", "[I", true)
  | 23 => ("CopierJobsModel", "newMany", "I", false)
  | 24 => ("CopierJobsModel", "told", "I", false)
  | 25 => ("CopierJobsModel", "aside", "[I", true)
  | 26 => ("CopierJobsModel", "images", "[I", true)
  | _ => ("CopierJobsModel", "isKept", "[I", true)
def tyX7 : Nat → FieldType := fun k => match k with
  | 0 => .array .int
  | 1 => .array .int
  | 2 => .array .int
  | 3 => .array .int
  | 4 => .array .int
  | 5 => .int
  | 6 => .int
  | 7 => .array .int
  | 8 => .array .int
  | 9 => .int
  | 10 => .array .int
  | 11 => .int
  | 12 => .long
  | 13 => .array .int
  | 14 => .int
  | 15 => .int
  | 16 => .int
  | 17 => .int
  | 18 => .int
  | 19 => .array .int
  | 20 => .int
  | 21 => .int
  | 22 => .array .int
  | 23 => .int
  | 24 => .int
  | 25 => .array .int
  | 26 => .array .int
  | _ => .array .int
abbrev wsX70 : List Cond := u_ws RX7 TX7 28
theorem nmX7 : ∀ a, a < 28 → ∀ b, b < 28 → a ≠ b → (TX7 a).2.1 ≠ (TX7 b).2.1 := by decide +kernel
theorem tyX7_ok : ∀ k, k < 28 → parseFieldDescriptor (TX7 k).2.2.1 = some (tyX7 k) := by decide +kernel
abbrev cX7_init : ByteArray := prog_9_method_1_code
def yX7_init : MethodName := ⟨RX7, "<init>", "()V"⟩
abbrev cX7_in : ByteArray := prog_9_method_2_code
def yX7_in : MethodName := ⟨RX7, "in", "(JJJ)Z"⟩
abbrev cX7_isPart : ByteArray := prog_9_method_3_code
def yX7_isPart : MethodName := ⟨RX7, "isPart", "(I)Z"⟩
abbrev cX7_isJob : ByteArray := prog_9_method_4_code
def yX7_isJob : MethodName := ⟨RX7, "isJob", "(I)Z"⟩
abbrev cX7_type : ByteArray := prog_9_method_5_code
def yX7_type : MethodName := ⟨RX7, "type", "(I)I"⟩
abbrev cX7_clear : ByteArray := prog_9_method_6_code
def yX7_clear : MethodName := ⟨RX7, "clear", "()I"⟩
abbrev cX7_letter : ByteArray := prog_9_method_7_code
def yX7_letter : MethodName := ⟨RX7, "letter", "()I"⟩
abbrev cX7_readNumber : ByteArray := prog_9_method_8_code
def yX7_readNumber : MethodName := ⟨RX7, "readNumber", "()V"⟩
abbrev cX7_readLetters : ByteArray := prog_9_method_9_code
def yX7_readLetters : MethodName := ⟨RX7, "readLetters", "()V"⟩
abbrev cX7_next : ByteArray := prog_9_method_10_code
def yX7_next : MethodName := ⟨RX7, "next", "()V"⟩
abbrev cX7_takesNumber : ByteArray := prog_9_method_11_code
def yX7_takesNumber : MethodName := ⟨RX7, "takesNumber", "(II)Z"⟩
abbrev cX7_ends : ByteArray := prog_9_method_12_code
def yX7_ends : MethodName := ⟨RX7, "ends", "()Z"⟩
abbrev cX7_readTrays : ByteArray := prog_9_method_13_code
def yX7_readTrays : MethodName := ⟨RX7, "readTrays", "()Z"⟩
abbrev cX7_readJob : ByteArray := prog_9_method_14_code
def yX7_readJob : MethodName := ⟨RX7, "readJob", "()Z"⟩
abbrev cX7_readItem : ByteArray := prog_9_method_15_code
def yX7_readItem : MethodName := ⟨RX7, "readItem", "()Z"⟩
abbrev cX7_office : ByteArray := prog_9_method_16_code
def yX7_office : MethodName := ⟨RX7, "office", "()I"⟩
abbrev cX7_begin : ByteArray := prog_9_method_17_code
def yX7_begin : MethodName := ⟨RX7, "begin", "()V"⟩
abbrev cX7_leaves : ByteArray := prog_9_method_18_code
def yX7_leaves : MethodName := ⟨RX7, "leaves", "(I)I"⟩
abbrev cX7_allOf : ByteArray := prog_9_method_19_code
def yX7_allOf : MethodName := ⟨RX7, "allOf", "(I)I"⟩
abbrev cX7_copyOf : ByteArray := prog_9_method_20_code
def yX7_copyOf : MethodName := ⟨RX7, "copyOf", "(II)I"⟩
abbrev cX7_leafOf : ByteArray := prog_9_method_21_code
def yX7_leafOf : MethodName := ⟨RX7, "leafOf", "(II)I"⟩
abbrev cX7_frontOf : ByteArray := prog_9_method_22_code
def yX7_frontOf : MethodName := ⟨RX7, "frontOf", "(II)I"⟩
abbrev cX7_backOf : ByteArray := prog_9_method_23_code
def yX7_backOf : MethodName := ⟨RX7, "backOf", "(II)I"⟩
abbrev cX7_binOf : ByteArray := prog_9_method_24_code
def yX7_binOf : MethodName := ⟨RX7, "binOf", "(II)I"⟩
abbrev cX7_sidesOf : ByteArray := prog_9_method_25_code
def yX7_sidesOf : MethodName := ⟨RX7, "sidesOf", "(II)I"⟩
abbrev cX7_sheet : ByteArray := prog_9_method_26_code
def yX7_sheet : MethodName := ⟨RX7, "sheet", "(III)I"⟩
abbrev cX7_isPage : ByteArray := prog_9_method_27_code
def yX7_isPage : MethodName := ⟨RX7, "isPage", "(II)Z"⟩
abbrev cX7_where : ByteArray := prog_9_method_28_code
def yX7_where : MethodName := ⟨RX7, "where", "(III)I"⟩
abbrev cX7_placeOf : ByteArray := prog_9_method_29_code
def yX7_placeOf : MethodName := ⟨RX7, "placeOf", "(I)I"⟩
abbrev cX7_stands : ByteArray := prog_9_method_30_code
def yX7_stands : MethodName := ⟨RX7, "stands", "()I"⟩
abbrev cX7_leaveAt : ByteArray := prog_9_method_31_code
def yX7_leaveAt : MethodName := ⟨RX7, "leaveAt", "(I)V"⟩
abbrev cX7_oneTick : ByteArray := prog_9_method_32_code
def yX7_oneTick : MethodName := ⟨RX7, "oneTick", "()I"⟩
abbrev cX7_note : ByteArray := prog_9_method_33_code
def yX7_note : MethodName := ⟨RX7, "note", "()V"⟩
abbrev cX7_ticks : ByteArray := prog_9_method_34_code
def yX7_ticks : MethodName := ⟨RX7, "ticks", "(I)I"⟩
abbrev cX7_ahead : ByteArray := prog_9_method_35_code
def yX7_ahead : MethodName := ⟨RX7, "ahead", "(I)I"⟩
abbrev cX7_breaks : ByteArray := prog_9_method_36_code
def yX7_breaks : MethodName := ⟨RX7, "breaks", "(I)I"⟩
abbrev cX7_fills : ByteArray := prog_9_method_37_code
def yX7_fills : MethodName := ⟨RX7, "fills", "(II)I"⟩
abbrev cX7_toner : ByteArray := prog_9_method_38_code
def yX7_toner : MethodName := ⟨RX7, "toner", "(I)I"⟩
abbrev cX7_empties : ByteArray := prog_9_method_39_code
def yX7_empties : MethodName := ⟨RX7, "empties", "(I)I"⟩
abbrev cX7_undo : ByteArray := prog_9_method_40_code
def yX7_undo : MethodName := ⟨RX7, "undo", "()I"⟩
abbrev cX7_inTicks : ByteArray := prog_9_method_41_code
def yX7_inTicks : MethodName := ⟨RX7, "inTicks", "(I)I"⟩
abbrev cX7_leftOf : ByteArray := prog_9_method_42_code
def yX7_leftOf : MethodName := ⟨RX7, "leftOf", "(I)I"⟩
abbrev cX7_job : ByteArray := prog_9_method_43_code
def yX7_job : MethodName := ⟨RX7, "job", "(II)I"⟩
abbrev cX7_wantsOf : ByteArray := prog_9_method_44_code
def yX7_wantsOf : MethodName := ⟨RX7, "wantsOf", "(I)I"⟩
abbrev cX7_wantsInk : ByteArray := prog_9_method_45_code
def yX7_wantsInk : MethodName := ⟨RX7, "wantsInk", "()I"⟩
abbrev cX7_tray : ByteArray := prog_9_method_46_code
def yX7_tray : MethodName := ⟨RX7, "tray", "(II)I"⟩
abbrev cX7_bin : ByteArray := prog_9_method_47_code
def yX7_bin : MethodName := ⟨RX7, "bin", "(I)I"⟩
abbrev cX7_inBins : ByteArray := prog_9_method_48_code
def yX7_inBins : MethodName := ⟨RX7, "inBins", "()I"⟩
abbrev cX7_now : ByteArray := prog_9_method_49_code
def yX7_now : MethodName := ⟨RX7, "now", "(I)I"⟩
abbrev cX7_shortest : ByteArray := prog_9_method_50_code
def yX7_shortest : MethodName := ⟨RX7, "shortest", "(I)I"⟩
abbrev cX7_soon : ByteArray := prog_9_method_51_code
def yX7_soon : MethodName := ⟨RX7, "soon", "(I)I"⟩
abbrev cX7_choose : ByteArray := prog_9_method_52_code
def yX7_choose : MethodName := ⟨RX7, "choose", "(II)J"⟩
abbrev cX7_odds : ByteArray := prog_9_method_53_code
def yX7_odds : MethodName := ⟨RX7, "odds", "(IIII)I"⟩
abbrev cX7_sees : ByteArray := prog_9_method_54_code
def yX7_sees : MethodName := ⟨RX7, "sees", "(III)I"⟩
abbrev cX7_forget : ByteArray := prog_9_method_55_code
def yX7_forget : MethodName := ⟨RX7, "forget", "()I"⟩
abbrev cX7_hasInFront : ByteArray := prog_9_method_56_code
def yX7_hasInFront : MethodName := ⟨RX7, "hasInFront", "(III)Z"⟩
abbrev cX7_whose : ByteArray := prog_9_method_57_code
def yX7_whose : MethodName := ⟨RX7, "whose", "()I"⟩
abbrev cX7_look : ByteArray := prog_9_method_58_code
def yX7_look : MethodName := ⟨RX7, "look", "()I"⟩
abbrev cX7_asJob : ByteArray := prog_9_method_59_code
def yX7_asJob : MethodName := ⟨RX7, "asJob", "(I)I"⟩
abbrev cX7_asMemo : ByteArray := prog_9_method_60_code
def yX7_asMemo : MethodName := ⟨RX7, "asMemo", "(I)I"⟩
abbrev cX7_asReport : ByteArray := prog_9_method_61_code
def yX7_asReport : MethodName := ⟨RX7, "asReport", "(I)I"⟩
abbrev cX7_asNotice : ByteArray := prog_9_method_62_code
def yX7_asNotice : MethodName := ⟨RX7, "asNotice", "(I)I"⟩
abbrev cX7_asLedger : ByteArray := prog_9_method_63_code
def yX7_asLedger : MethodName := ⟨RX7, "asLedger", "(I)I"⟩
abbrev cX7_asFlyer : ByteArray := prog_9_method_64_code
def yX7_asFlyer : MethodName := ⟨RX7, "asFlyer", "(I)I"⟩
abbrev cX7_mark : ByteArray := prog_9_method_65_code
def yX7_mark : MethodName := ⟨RX7, "mark", "(II)I"⟩
abbrev cX7_keep : ByteArray := prog_9_method_66_code
def yX7_keep : MethodName := ⟨RX7, "keep", "(I)I"⟩
abbrev cX7_back : ByteArray := prog_9_method_67_code
def yX7_back : MethodName := ⟨RX7, "back", "(I)I"⟩
abbrev cX7_count : ByteArray := prog_9_method_68_code
def yX7_count : MethodName := ⟨RX7, "count", "(I)I"⟩
abbrev cX7_trace : ByteArray := prog_9_method_69_code
def yX7_trace : MethodName := ⟨RX7, "trace", "()J"⟩
def RJ6 : String := "java/lang/Integer"
def TJ6 : u_T := fun k => match k with
  | _ => ("", "", "", false)
def tyJ6 : Nat → FieldType := fun k => match k with
  | _ => .int
abbrev cJ6_bitCount_0f7a4 : ByteArray := prog_10_method_49_code
def yJ6_bitCount_0f7a4 : MethodName := ⟨RJ6, "bitCount", "(I)I"⟩
def RJ9 : String := "java/lang/Math"
def TJ9 : u_T := fun k => match k with
  | _ => ("", "", "", false)
def tyJ9 : Nat → FieldType := fun k => match k with
  | _ => .int
abbrev cJ9_floorMod_7cf53 : ByteArray := prog_11_method_50_code
def yJ9_floorMod_7cf53 : MethodName := ⟨RJ9, "floorMod", "(II)I"⟩
abbrev cJ9_abs_0f7a4 : ByteArray := prog_11_method_59_code
def yJ9_abs_0f7a4 : MethodName := ⟨RJ9, "abs", "(I)I"⟩
abbrev cJ9_max_7cf53 : ByteArray := prog_11_method_65_code
def yJ9_max_7cf53 : MethodName := ⟨RJ9, "max", "(II)I"⟩
abbrev cJ9_min_7cf53 : ByteArray := prog_11_method_69_code
def yJ9_min_7cf53 : MethodName := ⟨RJ9, "min", "(II)I"⟩
def RJ7 : String := "java/util/Arrays"
def TJ7 : u_T := fun k => match k with
  | _ => ("", "", "", false)
def tyJ7 : Nat → FieldType := fun k => match k with
  | _ => .int
abbrev cJ7_fill_53178 : ByteArray := prog_12_method_103_code
def yJ7_fill_53178 : MethodName := ⟨RJ7, "fill", "([II)V"⟩
def RL : String := "CopierJobsLaw"
abbrev cL_law : ByteArray := code
def yL_law : MethodName := ⟨RL, "law", "([I)Z"⟩
abbrev vwCl : List vw_C := [(RX0, TX0, 4), (RX1, TX1, 7), (RX2, TX2, 9), (RX3, TX3, 9), (RX4, TX4, 5), (RX5, TX5, 6), (RX6, TX6, 9), (RX7, TX7, 28)]
end
section
/-- the words that hold of every later state too -/
def lw_gt : List Cond := lw_tbl.filter goodWord
theorem in_g {w : Cond} (h : w ∈ lw_tbl) (hg : goodWord w = true) : w ∈ lw_gt := List.mem_filter.mpr ⟨h, hg⟩
theorem gt_tbl {w : Cond} (h : w ∈ lw_gt) : w ∈ lw_tbl := (List.mem_filter.mp h).1
theorem gt_good {c : Cond} (h : c ∈ lw_gt) {d : Cond} : GoodIn (d :: lw_gt) (c :: lw_gt) := fun w hw => (List.mem_cons.mp hw).elim (fun e => e ▸ ⟨List.mem_cons_of_mem _ h, good_of_word (List.mem_filter.mp h).2⟩) (fun hw => ⟨List.mem_cons_of_mem _ hw, good_of_word (List.mem_filter.mp hw).2⟩)
/-- the words of nest mates: they hold of every later state, but by rows of their own -/
def lw_isN : Cond → Bool
  | .fieldLinkNest .. => true
  | .methodLinkNest .. => true
  | _ => false
def lw_nt : List Cond := lw_tbl.filter lw_isN
theorem in_n {w : Cond} (h : w ∈ lw_tbl) (hg : lw_isN w = true) : w ∈ lw_nt := List.mem_filter.mpr ⟨h, hg⟩
theorem in_t0 {w : Cond} (h : w ∈ k2_sels lw_privs) : w ∈ lw_tbl := List.mem_append_left _ h
theorem in_t1 {w : Cond} (h : w ∈ tables_1_1) : w ∈ lw_tbl := List.mem_append_right _ (List.mem_append_left _ h)
theorem in_t2 {w : Cond} (h : w ∈ tables_1_2) : w ∈ lw_tbl := List.mem_append_right _ (List.mem_append_right _ (List.mem_append_left _ h))
theorem in_t3 {w : Cond} (h : w ∈ tables_1_3) : w ∈ lw_tbl := List.mem_append_right _ (List.mem_append_right _ (List.mem_append_right _ (List.mem_append_left _ h)))
theorem in_t4 {w : Cond} (h : w ∈ tables_1_4) : w ∈ lw_tbl := List.mem_append_right _ (List.mem_append_right _ (List.mem_append_right _ (List.mem_append_right _ (List.mem_append_left _ h))))
theorem in_t5 {w : Cond} (h : w ∈ tables_1_5) : w ∈ lw_tbl := List.mem_append_right _ (List.mem_append_right _ (List.mem_append_right _ (List.mem_append_right _ (List.mem_append_right _ h))))
theorem wS_X3_untell : Cond.selects RX3 yX3_untell yX3_untell ∈ lw_gt := in_g (in_t0 (List.mem_of_getElem? (i := 0) rfl)) rfl
theorem wS_X5_readLetters : Cond.selects RX5 yX5_readLetters yX5_readLetters ∈ lw_gt := in_g (in_t0 (List.mem_of_getElem? (i := 1) rfl)) rfl
theorem wS_X5_readNumber : Cond.selects RX5 yX5_readNumber yX5_readNumber ∈ lw_gt := in_g (in_t0 (List.mem_of_getElem? (i := 2) rfl)) rfl
theorem wS_X3_readItem : Cond.selects RX3 yX3_readItem yX3_readItem ∈ lw_gt := in_g (in_t0 (List.mem_of_getElem? (i := 3) rfl)) rfl
theorem wS_X3_readNumbers : Cond.selects RX3 yX3_readNumbers yX3_readNumbers ∈ lw_gt := in_g (in_t0 (List.mem_of_getElem? (i := 4) rfl)) rfl
theorem wS_X3_tellTrays : Cond.selects RX3 yX3_tellTrays yX3_tellTrays ∈ lw_gt := in_g (in_t0 (List.mem_of_getElem? (i := 5) rfl)) rfl
theorem wS_X3_tellToner : Cond.selects RX3 yX3_tellToner yX3_tellToner ∈ lw_gt := in_g (in_t0 (List.mem_of_getElem? (i := 6) rfl)) rfl
theorem wS_X3_tellBins : Cond.selects RX3 yX3_tellBins yX3_tellBins ∈ lw_gt := in_g (in_t0 (List.mem_of_getElem? (i := 7) rfl)) rfl
theorem wS_X3_tellJob : Cond.selects RX3 yX3_tellJob yX3_tellJob ∈ lw_gt := in_g (in_t0 (List.mem_of_getElem? (i := 8) rfl)) rfl
theorem wS_X6_endsIn : Cond.selects RX6 yX6_endsIn yX6_endsIn ∈ lw_gt := in_g (in_t0 (List.mem_of_getElem? (i := 9) rfl)) rfl
theorem wS_X2_bringSheet : Cond.selects RX2 yX2_bringSheet yX2_bringSheet ∈ lw_gt := in_g (in_t0 (List.mem_of_getElem? (i := 10) rfl)) rfl
theorem wS_X0_knownAt : Cond.selects RX0 yX0_knownAt yX0_knownAt ∈ lw_gt := in_g (in_t0 (List.mem_of_getElem? (i := 11) rfl)) rfl
theorem wS_X6_shortestBut : Cond.selects RX6 yX6_shortestBut yX6_shortestBut ∈ lw_gt := in_g (in_t0 (List.mem_of_getElem? (i := 12) rfl)) rfl
theorem wS_X6_worthAs : Cond.selects RX6 yX6_worthAs yX6_worthAs ∈ lw_gt := in_g (in_t0 (List.mem_of_getElem? (i := 13) rfl)) rfl
theorem wS_X6_imageAt : Cond.selects RX6 yX6_imageAt yX6_imageAt ∈ lw_gt := in_g (in_t0 (List.mem_of_getElem? (i := 14) rfl)) rfl
theorem wS_X7_begin : Cond.selects RX7 yX7_begin yX7_begin ∈ lw_gt := in_g (in_t0 (List.mem_of_getElem? (i := 15) rfl)) rfl
theorem wS_X7_next : Cond.selects RX7 yX7_next yX7_next ∈ lw_gt := in_g (in_t0 (List.mem_of_getElem? (i := 16) rfl)) rfl
theorem wS_X7_letter : Cond.selects RX7 yX7_letter yX7_letter ∈ lw_gt := in_g (in_t0 (List.mem_of_getElem? (i := 17) rfl)) rfl
theorem wS_X7_readNumber : Cond.selects RX7 yX7_readNumber yX7_readNumber ∈ lw_gt := in_g (in_t0 (List.mem_of_getElem? (i := 18) rfl)) rfl
theorem wS_X7_readLetters : Cond.selects RX7 yX7_readLetters yX7_readLetters ∈ lw_gt := in_g (in_t0 (List.mem_of_getElem? (i := 19) rfl)) rfl
theorem wS_X7_readItem : Cond.selects RX7 yX7_readItem yX7_readItem ∈ lw_gt := in_g (in_t0 (List.mem_of_getElem? (i := 20) rfl)) rfl
theorem wS_X7_readTrays : Cond.selects RX7 yX7_readTrays yX7_readTrays ∈ lw_gt := in_g (in_t0 (List.mem_of_getElem? (i := 21) rfl)) rfl
theorem wS_X7_takesNumber : Cond.selects RX7 yX7_takesNumber yX7_takesNumber ∈ lw_gt := in_g (in_t0 (List.mem_of_getElem? (i := 22) rfl)) rfl
theorem wS_X7_readJob : Cond.selects RX7 yX7_readJob yX7_readJob ∈ lw_gt := in_g (in_t0 (List.mem_of_getElem? (i := 23) rfl)) rfl
theorem wS_X7_ends : Cond.selects RX7 yX7_ends yX7_ends ∈ lw_gt := in_g (in_t0 (List.mem_of_getElem? (i := 24) rfl)) rfl
theorem wS_X7_isJob : Cond.selects RX7 yX7_isJob yX7_isJob ∈ lw_gt := in_g (in_t0 (List.mem_of_getElem? (i := 25) rfl)) rfl
theorem wS_X7_allOf : Cond.selects RX7 yX7_allOf yX7_allOf ∈ lw_gt := in_g (in_t0 (List.mem_of_getElem? (i := 26) rfl)) rfl
theorem wS_X7_leaves : Cond.selects RX7 yX7_leaves yX7_leaves ∈ lw_gt := in_g (in_t0 (List.mem_of_getElem? (i := 27) rfl)) rfl
theorem wS_X7_copyOf : Cond.selects RX7 yX7_copyOf yX7_copyOf ∈ lw_gt := in_g (in_t0 (List.mem_of_getElem? (i := 28) rfl)) rfl
theorem wS_X7_frontOf : Cond.selects RX7 yX7_frontOf yX7_frontOf ∈ lw_gt := in_g (in_t0 (List.mem_of_getElem? (i := 29) rfl)) rfl
theorem wS_X7_leafOf : Cond.selects RX7 yX7_leafOf yX7_leafOf ∈ lw_gt := in_g (in_t0 (List.mem_of_getElem? (i := 30) rfl)) rfl
theorem wS_X7_backOf : Cond.selects RX7 yX7_backOf yX7_backOf ∈ lw_gt := in_g (in_t0 (List.mem_of_getElem? (i := 31) rfl)) rfl
theorem wS_X7_binOf : Cond.selects RX7 yX7_binOf yX7_binOf ∈ lw_gt := in_g (in_t0 (List.mem_of_getElem? (i := 32) rfl)) rfl
theorem wS_X7_isPage : Cond.selects RX7 yX7_isPage yX7_isPage ∈ lw_gt := in_g (in_t0 (List.mem_of_getElem? (i := 33) rfl)) rfl
theorem wS_X7_note : Cond.selects RX7 yX7_note yX7_note ∈ lw_gt := in_g (in_t0 (List.mem_of_getElem? (i := 34) rfl)) rfl
theorem wS_X7_oneTick : Cond.selects RX7 yX7_oneTick yX7_oneTick ∈ lw_gt := in_g (in_t0 (List.mem_of_getElem? (i := 35) rfl)) rfl
theorem wS_X7_stands : Cond.selects RX7 yX7_stands yX7_stands ∈ lw_gt := in_g (in_t0 (List.mem_of_getElem? (i := 36) rfl)) rfl
theorem wS_X7_sidesOf : Cond.selects RX7 yX7_sidesOf yX7_sidesOf ∈ lw_gt := in_g (in_t0 (List.mem_of_getElem? (i := 37) rfl)) rfl
theorem wS_X7_leaveAt : Cond.selects RX7 yX7_leaveAt yX7_leaveAt ∈ lw_gt := in_g (in_t0 (List.mem_of_getElem? (i := 38) rfl)) rfl
theorem wS_X7_placeOf : Cond.selects RX7 yX7_placeOf yX7_placeOf ∈ lw_gt := in_g (in_t0 (List.mem_of_getElem? (i := 39) rfl)) rfl
theorem wS_X7_inTicks : Cond.selects RX7 yX7_inTicks yX7_inTicks ∈ lw_gt := in_g (in_t0 (List.mem_of_getElem? (i := 40) rfl)) rfl
theorem wS_X7_leftOf : Cond.selects RX7 yX7_leftOf yX7_leftOf ∈ lw_gt := in_g (in_t0 (List.mem_of_getElem? (i := 41) rfl)) rfl
theorem wS_X7_wantsOf : Cond.selects RX7 yX7_wantsOf yX7_wantsOf ∈ lw_gt := in_g (in_t0 (List.mem_of_getElem? (i := 42) rfl)) rfl
theorem wS_X7_inBins : Cond.selects RX7 yX7_inBins yX7_inBins ∈ lw_gt := in_g (in_t0 (List.mem_of_getElem? (i := 43) rfl)) rfl
theorem wS_X7_wantsInk : Cond.selects RX7 yX7_wantsInk yX7_wantsInk ∈ lw_gt := in_g (in_t0 (List.mem_of_getElem? (i := 44) rfl)) rfl
theorem wS_X7_shortest : Cond.selects RX7 yX7_shortest yX7_shortest ∈ lw_gt := in_g (in_t0 (List.mem_of_getElem? (i := 45) rfl)) rfl
theorem wS_X7_hasInFront : Cond.selects RX7 yX7_hasInFront yX7_hasInFront ∈ lw_gt := in_g (in_t0 (List.mem_of_getElem? (i := 46) rfl)) rfl
theorem wS_X7_asJob : Cond.selects RX7 yX7_asJob yX7_asJob ∈ lw_gt := in_g (in_t0 (List.mem_of_getElem? (i := 47) rfl)) rfl
theorem wS_X7_asMemo : Cond.selects RX7 yX7_asMemo yX7_asMemo ∈ lw_gt := in_g (in_t0 (List.mem_of_getElem? (i := 48) rfl)) rfl
theorem wS_X7_asReport : Cond.selects RX7 yX7_asReport yX7_asReport ∈ lw_gt := in_g (in_t0 (List.mem_of_getElem? (i := 49) rfl)) rfl
theorem wS_X7_asNotice : Cond.selects RX7 yX7_asNotice yX7_asNotice ∈ lw_gt := in_g (in_t0 (List.mem_of_getElem? (i := 50) rfl)) rfl
theorem wS_X7_asLedger : Cond.selects RX7 yX7_asLedger yX7_asLedger ∈ lw_gt := in_g (in_t0 (List.mem_of_getElem? (i := 51) rfl)) rfl
theorem wS_X7_asFlyer : Cond.selects RX7 yX7_asFlyer yX7_asFlyer ∈ lw_gt := in_g (in_t0 (List.mem_of_getElem? (i := 52) rfl)) rfl
theorem wZ_L : Cond.initialized RL ∈ lw_gt := in_g (in_t1 (List.mem_of_getElem? (i := 0) rfl)) rfl
theorem wZ_X6 : Cond.initialized RX6 ∈ lw_gt := in_g (in_t1 (List.mem_of_getElem? (i := 1) rfl)) rfl
theorem wZ_X5 : Cond.initialized RX5 ∈ lw_gt := in_g (in_t1 (List.mem_of_getElem? (i := 2) rfl)) rfl
theorem wZ_X0 : Cond.initialized RX0 ∈ lw_gt := in_g (in_t1 (List.mem_of_getElem? (i := 3) rfl)) rfl
theorem wZ_X2 : Cond.initialized RX2 ∈ lw_gt := in_g (in_t1 (List.mem_of_getElem? (i := 4) rfl)) rfl
theorem wZ_X4 : Cond.initialized RX4 ∈ lw_gt := in_g (in_t1 (List.mem_of_getElem? (i := 5) rfl)) rfl
theorem wZ_X3 : Cond.initialized RX3 ∈ lw_gt := in_g (in_t1 (List.mem_of_getElem? (i := 6) rfl)) rfl
theorem wZ_X1 : Cond.initialized RX1 ∈ lw_gt := in_g (in_t1 (List.mem_of_getElem? (i := 7) rfl)) rfl
theorem wZ_J7 : Cond.initialized RJ7 ∈ lw_gt := in_g (in_t1 (List.mem_of_getElem? (i := 8) rfl)) rfl
theorem wZ_X7 : Cond.initialized RX7 ∈ lw_gt := in_g (in_t1 (List.mem_of_getElem? (i := 9) rfl)) rfl
theorem wZ_J9 : Cond.initialized RJ9 ∈ lw_gt := in_g (in_t1 (List.mem_of_getElem? (i := 10) rfl)) rfl
theorem wZ_J6 : Cond.initialized RJ6 ∈ lw_gt := in_g (in_t1 (List.mem_of_getElem? (i := 11) rfl)) rfl
theorem wK_L_7 : Cond.classLink RL 7 RX6 ∈ lw_gt := in_g (in_t1 (List.mem_of_getElem? (i := 12) rfl)) rfl
theorem wU_X6 : Cond.instantiable RX6 9 ∈ lw_gt := in_g (in_t1 (List.mem_of_getElem? (i := 13) rfl)) rfl
theorem wM_L_9 : Cond.methodLink RL 9 yX6_init ∈ lw_gt := in_g (in_t1 (List.mem_of_getElem? (i := 14) rfl)) rfl
theorem wI_X6_init : Cond.instanceMethod yX6_init ∈ lw_gt := in_g (in_t1 (List.mem_of_getElem? (i := 15) rfl)) rfl
theorem wC_X6_init : Cond.code yX6_init prog_1_method_1_code 2 (Option.none : Option FieldType) ∈ lw_gt := in_g (in_t1 (List.mem_of_getElem? (i := 16) rfl)) rfl
theorem wM_X6_1 : Cond.methodLink RX6 1 objectInit ∈ lw_gt := in_g (in_t1 (List.mem_of_getElem? (i := 17) rfl)) rfl
theorem wI_bjectInit : Cond.instanceMethod objectInit ∈ lw_gt := in_g (in_t1 (List.mem_of_getElem? (i := 18) rfl)) rfl
theorem wC_bjectInit : Cond.code objectInit object_method_1_code 1 (Option.none : Option FieldType) ∈ lw_gt := in_g (in_t1 (List.mem_of_getElem? (i := 19) rfl)) rfl
theorem wK_X6_7 : Cond.classLink RX6 7 RX5 ∈ lw_gt := in_g (in_t1 (List.mem_of_getElem? (i := 20) rfl)) rfl
theorem wU_X5 : Cond.instantiable RX5 6 ∈ lw_gt := in_g (in_t1 (List.mem_of_getElem? (i := 21) rfl)) rfl
theorem wO_X6_9 : Cond.methodLinkNest RX6 9 yX5_init "CopierJobs" ∈ lw_nt := in_n (in_t1 (List.mem_of_getElem? (i := 22) rfl)) rfl
theorem wI_X5_init : Cond.instanceMethod yX5_init ∈ lw_gt := in_g (in_t1 (List.mem_of_getElem? (i := 23) rfl)) rfl
theorem wC_X5_init : Cond.code yX5_init prog_7_method_1_code 1 (Option.none : Option FieldType) ∈ lw_gt := in_g (in_t1 (List.mem_of_getElem? (i := 24) rfl)) rfl
theorem wM_X5_3 : Cond.methodLink RX5 3 objectInit ∈ lw_gt := in_g (in_t1 (List.mem_of_getElem? (i := 25) rfl)) rfl
theorem wF_X5_9 : Cond.fieldLink RX5 9 "CopierJobs$Text" "bytes" "[I" ∈ lw_gt := in_g (in_t1 (List.mem_of_getElem? (i := 26) rfl)) rfl
theorem wF_X5_15 : Cond.fieldLink RX5 15 "CopierJobs$Text" "length" "I" ∈ lw_gt := in_g (in_t1 (List.mem_of_getElem? (i := 27) rfl)) rfl
theorem wG_X6_276 : Cond.fieldLinkNest RX6 276 "CopierJobs$Text" "length" "I" "CopierJobs" ∈ lw_nt := in_n (in_t1 (List.mem_of_getElem? (i := 28) rfl)) rfl
theorem wF_X5_23 : Cond.fieldLink RX5 23 "CopierJobs$Text" "place" "I" ∈ lw_gt := in_g (in_t1 (List.mem_of_getElem? (i := 29) rfl)) rfl
theorem wG_X3_75 : Cond.fieldLinkNest RX3 75 "CopierJobs$Text" "token" "I" "CopierJobs" ∈ lw_nt := in_n (in_t1 (List.mem_of_getElem? (i := 30) rfl)) rfl
theorem wF_X5_36 : Cond.fieldLink RX5 36 "CopierJobs$Text" "token" "I" ∈ lw_gt := in_g (in_t1 (List.mem_of_getElem? (i := 31) rfl)) rfl
theorem wF_X5_30 : Cond.fieldLink RX5 30 "CopierJobs$Text" "start" "I" ∈ lw_gt := in_g (in_t1 (List.mem_of_getElem? (i := 32) rfl)) rfl
theorem wG_X3_82 : Cond.fieldLinkNest RX3 82 "CopierJobs$Text" "start" "I" "CopierJobs" ∈ lw_nt := in_n (in_t1 (List.mem_of_getElem? (i := 33) rfl)) rfl
theorem wF_X5_33 : Cond.fieldLink RX5 33 "CopierJobs$Text" "value" "I" ∈ lw_gt := in_g (in_t1 (List.mem_of_getElem? (i := 34) rfl)) rfl
theorem wG_X3_85 : Cond.fieldLinkNest RX3 85 "CopierJobs$Text" "value" "I" "CopierJobs" ∈ lw_nt := in_n (in_t1 (List.mem_of_getElem? (i := 35) rfl)) rfl
theorem wL_X5_bytes : Cond.laysFinal RX5 "CopierJobs$Text" "bytes" "[I" ∈ lw_gt := in_g (in_t1 (List.mem_of_getElem? (i := 36) rfl)) rfl
theorem wL_X5_length : Cond.lays RX5 "CopierJobs$Text" "length" "I" ∈ lw_gt := in_g (in_t1 (List.mem_of_getElem? (i := 38) rfl)) rfl
theorem wL_X5_place : Cond.lays RX5 "CopierJobs$Text" "place" "I" ∈ lw_gt := in_g (in_t1 (List.mem_of_getElem? (i := 40) rfl)) rfl
theorem wL_X5_token : Cond.lays RX5 "CopierJobs$Text" "token" "I" ∈ lw_gt := in_g (in_t1 (List.mem_of_getElem? (i := 42) rfl)) rfl
theorem wL_X5_start : Cond.lays RX5 "CopierJobs$Text" "start" "I" ∈ lw_gt := in_g (in_t1 (List.mem_of_getElem? (i := 44) rfl)) rfl
theorem wL_X5_value : Cond.lays RX5 "CopierJobs$Text" "value" "I" ∈ lw_gt := in_g (in_t1 (List.mem_of_getElem? (i := 46) rfl)) rfl
theorem wK_X6_16 : Cond.classLink RX6 16 RX0 ∈ lw_gt := in_g (in_t1 (List.mem_of_getElem? (i := 50) rfl)) rfl
theorem wU_X0 : Cond.instantiable RX0 4 ∈ lw_gt := in_g (in_t1 (List.mem_of_getElem? (i := 51) rfl)) rfl
theorem wM_X6_18 : Cond.methodLink RX6 18 yX0_init ∈ lw_gt := in_g (in_t1 (List.mem_of_getElem? (i := 52) rfl)) rfl
theorem wI_X0_init : Cond.instanceMethod yX0_init ∈ lw_gt := in_g (in_t1 (List.mem_of_getElem? (i := 53) rfl)) rfl
theorem wC_X0_init : Cond.code yX0_init prog_2_method_1_code 2 (Option.none : Option FieldType) ∈ lw_gt := in_g (in_t1 (List.mem_of_getElem? (i := 54) rfl)) rfl
theorem wM_X0_3 : Cond.methodLink RX0 3 objectInit ∈ lw_gt := in_g (in_t1 (List.mem_of_getElem? (i := 55) rfl)) rfl
theorem wK_X0_9 : Cond.classLink RX0 9 RX2 ∈ lw_gt := in_g (in_t1 (List.mem_of_getElem? (i := 56) rfl)) rfl
theorem wU_X2 : Cond.instantiable RX2 9 ∈ lw_gt := in_g (in_t1 (List.mem_of_getElem? (i := 57) rfl)) rfl
theorem wO_X0_11 : Cond.methodLinkNest RX0 11 yX2_init "CopierJobs" ∈ lw_nt := in_n (in_t1 (List.mem_of_getElem? (i := 58) rfl)) rfl
theorem wI_X2_init : Cond.instanceMethod yX2_init ∈ lw_gt := in_g (in_t1 (List.mem_of_getElem? (i := 59) rfl)) rfl
theorem wC_X2_init : Cond.code yX2_init prog_4_method_1_code 1 (Option.none : Option FieldType) ∈ lw_gt := in_g (in_t1 (List.mem_of_getElem? (i := 60) rfl)) rfl
theorem wM_X2_3 : Cond.methodLink RX2 3 objectInit ∈ lw_gt := in_g (in_t1 (List.mem_of_getElem? (i := 61) rfl)) rfl
theorem wF_X2_27 : Cond.fieldLink RX2 27 "CopierJobs$Now" "tick" "I" ∈ lw_gt := in_g (in_t1 (List.mem_of_getElem? (i := 62) rfl)) rfl
theorem wG_X6_164 : Cond.fieldLinkNest RX6 164 "CopierJobs$Now" "tick" "I" "CopierJobs" ∈ lw_nt := in_n (in_t1 (List.mem_of_getElem? (i := 63) rfl)) rfl
theorem wF_X2_36 : Cond.fieldLink RX2 36 "CopierJobs$Now" "toner" "I" ∈ lw_gt := in_g (in_t1 (List.mem_of_getElem? (i := 64) rfl)) rfl
theorem wG_X6_196 : Cond.fieldLinkNest RX6 196 "CopierJobs$Now" "toner" "I" "CopierJobs" ∈ lw_nt := in_n (in_t1 (List.mem_of_getElem? (i := 65) rfl)) rfl
theorem wF_X2_37 : Cond.fieldLink RX2 37 "CopierJobs$Now" "half" "Z" ∈ lw_gt := in_g (in_t1 (List.mem_of_getElem? (i := 66) rfl)) rfl
theorem wG_X6_209 : Cond.fieldLinkNest RX6 209 "CopierJobs$Now" "half" "Z" "CopierJobs" ∈ lw_nt := in_n (in_t1 (List.mem_of_getElem? (i := 67) rfl)) rfl
theorem wF_X2_44 : Cond.fieldLink RX2 44 "CopierJobs$Now" "queued" "I" ∈ lw_gt := in_g (in_t1 (List.mem_of_getElem? (i := 68) rfl)) rfl
theorem wG_X6_184 : Cond.fieldLinkNest RX6 184 "CopierJobs$Now" "queued" "I" "CopierJobs" ∈ lw_nt := in_n (in_t1 (List.mem_of_getElem? (i := 69) rfl)) rfl
theorem wF_X2_9 : Cond.fieldLink RX2 9 "CopierJobs$Now" "queue" "[I" ∈ lw_gt := in_g (in_t1 (List.mem_of_getElem? (i := 70) rfl)) rfl
theorem wF_X2_15 : Cond.fieldLink RX2 15 "CopierJobs$Now" "made" "[I" ∈ lw_gt := in_g (in_t1 (List.mem_of_getElem? (i := 71) rfl)) rfl
theorem wF_X2_18 : Cond.fieldLink RX2 18 "CopierJobs$Now" "ends" "[I" ∈ lw_gt := in_g (in_t1 (List.mem_of_getElem? (i := 72) rfl)) rfl
theorem wF_X2_21 : Cond.fieldLink RX2 21 "CopierJobs$Now" "trays" "[I" ∈ lw_gt := in_g (in_t1 (List.mem_of_getElem? (i := 73) rfl)) rfl
theorem wG_X6_147 : Cond.fieldLinkNest RX6 147 "CopierJobs$Now" "trays" "[I" "CopierJobs" ∈ lw_nt := in_n (in_t1 (List.mem_of_getElem? (i := 74) rfl)) rfl
theorem wF_X2_24 : Cond.fieldLink RX2 24 "CopierJobs$Now" "bins" "[I" ∈ lw_gt := in_g (in_t1 (List.mem_of_getElem? (i := 75) rfl)) rfl
theorem wG_X6_161 : Cond.fieldLinkNest RX6 161 "CopierJobs$Now" "bins" "[I" "CopierJobs" ∈ lw_nt := in_n (in_t1 (List.mem_of_getElem? (i := 76) rfl)) rfl
theorem wL_X2_tick : Cond.lays RX2 "CopierJobs$Now" "tick" "I" ∈ lw_gt := in_g (in_t1 (List.mem_of_getElem? (i := 77) rfl)) rfl
theorem wL_X2_toner : Cond.lays RX2 "CopierJobs$Now" "toner" "I" ∈ lw_gt := in_g (in_t1 (List.mem_of_getElem? (i := 79) rfl)) rfl
theorem wL_X2_half : Cond.lays RX2 "CopierJobs$Now" "half" "Z" ∈ lw_gt := in_g (in_t1 (List.mem_of_getElem? (i := 81) rfl)) rfl
theorem wL_X2_queued : Cond.lays RX2 "CopierJobs$Now" "queued" "I" ∈ lw_gt := in_g (in_t1 (List.mem_of_getElem? (i := 83) rfl)) rfl
theorem wL_X2_queue : Cond.laysFinal RX2 "CopierJobs$Now" "queue" "[I" ∈ lw_gt := in_g (in_t1 (List.mem_of_getElem? (i := 85) rfl)) rfl
theorem wL_X2_made : Cond.laysFinal RX2 "CopierJobs$Now" "made" "[I" ∈ lw_gt := in_g (in_t1 (List.mem_of_getElem? (i := 87) rfl)) rfl
theorem wL_X2_ends : Cond.laysFinal RX2 "CopierJobs$Now" "ends" "[I" ∈ lw_gt := in_g (in_t1 (List.mem_of_getElem? (i := 89) rfl)) rfl
theorem wL_X2_trays : Cond.laysFinal RX2 "CopierJobs$Now" "trays" "[I" ∈ lw_gt := in_g (in_t1 (List.mem_of_getElem? (i := 91) rfl)) rfl
theorem wL_X2_bins : Cond.laysFinal RX2 "CopierJobs$Now" "bins" "[I" ∈ lw_gt := in_g (in_t1 (List.mem_of_getElem? (i := 93) rfl)) rfl
theorem wF_X0_12 : Cond.fieldLink RX0 12 "CopierJobs$Course" "now" "LCopierJobs$Now;" ∈ lw_gt := in_g (in_t1 (List.mem_of_getElem? (i := 97) rfl)) rfl
theorem wG_X6_104 : Cond.fieldLinkNest RX6 104 "CopierJobs$Course" "now" "LCopierJobs$Now;" "CopierJobs" ∈ lw_nt := in_n (in_t1 (List.mem_of_getElem? (i := 98) rfl)) rfl
theorem wF_X0_18 : Cond.fieldLink RX0 18 "CopierJobs$Course" "known" "[LCopierJobs$Now;" ∈ lw_gt := in_g (in_t1 (List.mem_of_getElem? (i := 99) rfl)) rfl
theorem wF_X0_26 : Cond.fieldLink RX0 26 "CopierJobs$Course" "oldest" "I" ∈ lw_gt := in_g (in_t1 (List.mem_of_getElem? (i := 100) rfl)) rfl
theorem wF_X0_30 : Cond.fieldLink RX0 30 "CopierJobs$Course" "knownCount" "I" ∈ lw_gt := in_g (in_t1 (List.mem_of_getElem? (i := 101) rfl)) rfl
theorem wG_X6_199 : Cond.fieldLinkNest RX6 199 "CopierJobs$Course" "knownCount" "I" "CopierJobs" ∈ lw_nt := in_n (in_t1 (List.mem_of_getElem? (i := 102) rfl)) rfl
theorem wL_X0_now : Cond.laysFinal RX0 "CopierJobs$Course" "now" "LCopierJobs$Now;" ∈ lw_gt := in_g (in_t1 (List.mem_of_getElem? (i := 103) rfl)) rfl
theorem wL_X0_known : Cond.laysFinal RX0 "CopierJobs$Course" "known" "[LCopierJobs$Now;" ∈ lw_gt := in_g (in_t1 (List.mem_of_getElem? (i := 105) rfl)) rfl
theorem wL_X0_oldest : Cond.lays RX0 "CopierJobs$Course" "oldest" "I" ∈ lw_gt := in_g (in_t1 (List.mem_of_getElem? (i := 107) rfl)) rfl
theorem wL_X0_knownCount : Cond.lays RX0 "CopierJobs$Course" "knownCount" "I" ∈ lw_gt := in_g (in_t1 (List.mem_of_getElem? (i := 109) rfl)) rfl
theorem wK_X6_23 : Cond.classLink RX6 23 RX2 ∈ lw_gt := in_g (in_t1 (List.mem_of_getElem? (i := 112) rfl)) rfl
theorem wO_X6_25 : Cond.methodLinkNest RX6 25 yX2_init "CopierJobs" ∈ lw_nt := in_n (in_t1 (List.mem_of_getElem? (i := 113) rfl)) rfl
theorem wK_X6_30 : Cond.classLink RX6 30 RX4 ∈ lw_gt := in_g (in_t1 (List.mem_of_getElem? (i := 114) rfl)) rfl
theorem wU_X4 : Cond.instantiable RX4 5 ∈ lw_gt := in_g (in_t1 (List.mem_of_getElem? (i := 115) rfl)) rfl
theorem wO_X6_32 : Cond.methodLinkNest RX6 32 yX4_init "CopierJobs" ∈ lw_nt := in_n (in_t1 (List.mem_of_getElem? (i := 116) rfl)) rfl
theorem wI_X4_init : Cond.instanceMethod yX4_init ∈ lw_gt := in_g (in_t1 (List.mem_of_getElem? (i := 117) rfl)) rfl
theorem wC_X4_init : Cond.code yX4_init prog_6_method_1_code 1 (Option.none : Option FieldType) ∈ lw_gt := in_g (in_t1 (List.mem_of_getElem? (i := 118) rfl)) rfl
theorem wM_X4_3 : Cond.methodLink RX4 3 objectInit ∈ lw_gt := in_g (in_t1 (List.mem_of_getElem? (i := 119) rfl)) rfl
theorem wF_X4_9 : Cond.fieldLink RX4 9 "CopierJobs$Seen" "sheets" "[I" ∈ lw_gt := in_g (in_t1 (List.mem_of_getElem? (i := 120) rfl)) rfl
theorem wF_X4_15 : Cond.fieldLink RX4 15 "CopierJobs$Seen" "pages" "[I" ∈ lw_gt := in_g (in_t1 (List.mem_of_getElem? (i := 121) rfl)) rfl
theorem wF_X4_18 : Cond.fieldLink RX4 18 "CopierJobs$Seen" "there" "[I" ∈ lw_gt := in_g (in_t1 (List.mem_of_getElem? (i := 122) rfl)) rfl
theorem wF_X4_24 : Cond.fieldLink RX4 24 "CopierJobs$Seen" "size" "I" ∈ lw_gt := in_g (in_t1 (List.mem_of_getElem? (i := 123) rfl)) rfl
theorem wG_X6_227 : Cond.fieldLinkNest RX6 227 "CopierJobs$Seen" "size" "I" "CopierJobs" ∈ lw_nt := in_n (in_t1 (List.mem_of_getElem? (i := 124) rfl)) rfl
theorem wF_X4_21 : Cond.fieldLink RX4 21 "CopierJobs$Seen" "withFront" "[I" ∈ lw_gt := in_g (in_t1 (List.mem_of_getElem? (i := 125) rfl)) rfl
theorem wG_X6_252 : Cond.fieldLinkNest RX6 252 "CopierJobs$Seen" "withFront" "[I" "CopierJobs" ∈ lw_nt := in_n (in_t1 (List.mem_of_getElem? (i := 126) rfl)) rfl
theorem wL_X4_sheets : Cond.laysFinal RX4 "CopierJobs$Seen" "sheets" "[I" ∈ lw_gt := in_g (in_t1 (List.mem_of_getElem? (i := 127) rfl)) rfl
theorem wL_X4_pages : Cond.laysFinal RX4 "CopierJobs$Seen" "pages" "[I" ∈ lw_gt := in_g (in_t1 (List.mem_of_getElem? (i := 129) rfl)) rfl
theorem wL_X4_there : Cond.laysFinal RX4 "CopierJobs$Seen" "there" "[I" ∈ lw_gt := in_g (in_t1 (List.mem_of_getElem? (i := 131) rfl)) rfl
theorem wL_X4_size : Cond.lays RX4 "CopierJobs$Seen" "size" "I" ∈ lw_gt := in_g (in_t1 (List.mem_of_getElem? (i := 133) rfl)) rfl
theorem wL_X4_withFront : Cond.laysFinal RX4 "CopierJobs$Seen" "withFront" "[I" ∈ lw_gt := in_g (in_t1 (List.mem_of_getElem? (i := 135) rfl)) rfl
theorem wK_X6_45 : Cond.classLink RX6 45 RX3 ∈ lw_gt := in_g (in_t1 (List.mem_of_getElem? (i := 139) rfl)) rfl
theorem wU_X3 : Cond.instantiable RX3 9 ∈ lw_gt := in_g (in_t1 (List.mem_of_getElem? (i := 140) rfl)) rfl
theorem wM_X6_47 : Cond.methodLink RX6 47 yX3_init ∈ lw_gt := in_g (in_t1 (List.mem_of_getElem? (i := 141) rfl)) rfl
theorem wI_X3_init : Cond.instanceMethod yX3_init ∈ lw_gt := in_g (in_t1 (List.mem_of_getElem? (i := 142) rfl)) rfl
theorem wC_X3_init : Cond.code yX3_init prog_5_method_1_code 2 (Option.none : Option FieldType) ∈ lw_gt := in_g (in_t1 (List.mem_of_getElem? (i := 143) rfl)) rfl
theorem wM_X3_3 : Cond.methodLink RX3 3 objectInit ∈ lw_gt := in_g (in_t1 (List.mem_of_getElem? (i := 144) rfl)) rfl
theorem wK_X3_15 : Cond.classLink RX3 15 RX1 ∈ lw_gt := in_g (in_t1 (List.mem_of_getElem? (i := 145) rfl)) rfl
theorem wG_X3_21 : Cond.fieldLinkNest RX3 21 "CopierJobs" "JOB_LEAST" "[I" "CopierJobs" ∈ lw_nt := in_n (in_t1 (List.mem_of_getElem? (i := 147) rfl)) rfl
theorem wU_X1 : Cond.instantiable RX1 7 ∈ lw_gt := in_g (in_t1 (List.mem_of_getElem? (i := 149) rfl)) rfl
theorem wO_X3_27 : Cond.methodLinkNest RX3 27 yX1_init "CopierJobs" ∈ lw_nt := in_n (in_t1 (List.mem_of_getElem? (i := 150) rfl)) rfl
theorem wI_X1_init : Cond.instanceMethod yX1_init ∈ lw_gt := in_g (in_t1 (List.mem_of_getElem? (i := 151) rfl)) rfl
theorem wC_X1_init : Cond.code yX1_init prog_3_method_1_code 1 (Option.none : Option FieldType) ∈ lw_gt := in_g (in_t1 (List.mem_of_getElem? (i := 152) rfl)) rfl
theorem wM_X1_1 : Cond.methodLink RX1 1 objectInit ∈ lw_gt := in_g (in_t1 (List.mem_of_getElem? (i := 153) rfl)) rfl
theorem wF_X1_7 : Cond.fieldLink RX1 7 "CopierJobs$Job" "pages" "I" ∈ lw_gt := in_g (in_t1 (List.mem_of_getElem? (i := 154) rfl)) rfl
theorem wG_X6_82 : Cond.fieldLinkNest RX6 82 "CopierJobs$Job" "pages" "I" "CopierJobs" ∈ lw_nt := in_n (in_t1 (List.mem_of_getElem? (i := 155) rfl)) rfl
theorem wF_X1_13 : Cond.fieldLink RX1 13 "CopierJobs$Job" "copies" "I" ∈ lw_gt := in_g (in_t1 (List.mem_of_getElem? (i := 156) rfl)) rfl
theorem wG_X6_88 : Cond.fieldLinkNest RX6 88 "CopierJobs$Job" "copies" "I" "CopierJobs" ∈ lw_nt := in_n (in_t1 (List.mem_of_getElem? (i := 157) rfl)) rfl
theorem wF_X1_28 : Cond.fieldLink RX1 28 "CopierJobs$Job" "both" "Z" ∈ lw_gt := in_g (in_t1 (List.mem_of_getElem? (i := 158) rfl)) rfl
theorem wG_X6_91 : Cond.fieldLinkNest RX6 91 "CopierJobs$Job" "both" "Z" "CopierJobs" ∈ lw_nt := in_n (in_t1 (List.mem_of_getElem? (i := 159) rfl)) rfl
theorem wF_X1_32 : Cond.fieldLink RX1 32 "CopierJobs$Job" "sorted" "Z" ∈ lw_gt := in_g (in_t1 (List.mem_of_getElem? (i := 160) rfl)) rfl
theorem wG_X3_57 : Cond.fieldLinkNest RX3 57 "CopierJobs$Job" "sorted" "Z" "CopierJobs" ∈ lw_nt := in_n (in_t1 (List.mem_of_getElem? (i := 161) rfl)) rfl
theorem wG_X6_95 : Cond.fieldLinkNest RX6 95 "CopierJobs$Job" "sorted" "Z" "CopierJobs" ∈ lw_nt := in_n (in_t1 (List.mem_of_getElem? (i := 162) rfl)) rfl
theorem wF_X1_35 : Cond.fieldLink RX1 35 "CopierJobs$Job" "tray" "I" ∈ lw_gt := in_g (in_t1 (List.mem_of_getElem? (i := 163) rfl)) rfl
theorem wG_X6_98 : Cond.fieldLinkNest RX6 98 "CopierJobs$Job" "tray" "I" "CopierJobs" ∈ lw_nt := in_n (in_t1 (List.mem_of_getElem? (i := 164) rfl)) rfl
theorem wG_X2_81 : Cond.fieldLinkNest RX2 81 "CopierJobs$Job" "tray" "I" "CopierJobs" ∈ lw_nt := in_n (in_t1 (List.mem_of_getElem? (i := 165) rfl)) rfl
theorem wF_X1_16 : Cond.fieldLink RX1 16 "CopierJobs$Job" "leaves" "I" ∈ lw_gt := in_g (in_t1 (List.mem_of_getElem? (i := 166) rfl)) rfl
theorem wF_X1_19 : Cond.fieldLink RX1 19 "CopierJobs$Job" "run" "I" ∈ lw_gt := in_g (in_t1 (List.mem_of_getElem? (i := 167) rfl)) rfl
theorem wL_X1_pages : Cond.lays RX1 "CopierJobs$Job" "pages" "I" ∈ lw_gt := in_g (in_t1 (List.mem_of_getElem? (i := 168) rfl)) rfl
theorem wL_X1_copies : Cond.lays RX1 "CopierJobs$Job" "copies" "I" ∈ lw_gt := in_g (in_t1 (List.mem_of_getElem? (i := 170) rfl)) rfl
theorem wL_X1_both : Cond.lays RX1 "CopierJobs$Job" "both" "Z" ∈ lw_gt := in_g (in_t1 (List.mem_of_getElem? (i := 172) rfl)) rfl
theorem wL_X1_sorted : Cond.lays RX1 "CopierJobs$Job" "sorted" "Z" ∈ lw_gt := in_g (in_t1 (List.mem_of_getElem? (i := 174) rfl)) rfl
theorem wL_X1_tray : Cond.lays RX1 "CopierJobs$Job" "tray" "I" ∈ lw_gt := in_g (in_t1 (List.mem_of_getElem? (i := 176) rfl)) rfl
theorem wL_X1_leaves : Cond.lays RX1 "CopierJobs$Job" "leaves" "I" ∈ lw_gt := in_g (in_t1 (List.mem_of_getElem? (i := 178) rfl)) rfl
theorem wL_X1_run : Cond.lays RX1 "CopierJobs$Job" "run" "I" ∈ lw_gt := in_g (in_t1 (List.mem_of_getElem? (i := 180) rfl)) rfl
theorem wM_X3_28 : Cond.methodLink RX3 28 yX3_untell ∈ lw_gt := in_g (in_t1 (List.mem_of_getElem? (i := 184) rfl)) rfl
theorem wI_X3_untell : Cond.instanceMethod yX3_untell ∈ lw_gt := in_g (in_t1 (List.mem_of_getElem? (i := 186) rfl)) rfl
theorem wC_X3_untell : Cond.code yX3_untell prog_5_method_2_code 1 (Option.none : Option FieldType) ∈ lw_gt := in_g (in_t1 (List.mem_of_getElem? (i := 187) rfl)) rfl
theorem wM_X3_31 : Cond.methodLink RX3 31 yJ7_fill_53178 ∈ lw_gt := in_g (in_t1 (List.mem_of_getElem? (i := 188) rfl)) rfl
theorem wT_J7_fill_53178 : Cond.static yJ7_fill_53178 ∈ lw_gt := in_g (in_t1 (List.mem_of_getElem? (i := 189) rfl)) rfl
theorem wC_J7_fill_53178 : Cond.code yJ7_fill_53178 prog_12_method_103_code 4 (Option.none : Option FieldType) ∈ lw_gt := in_g (in_t1 (List.mem_of_getElem? (i := 190) rfl)) rfl
theorem wF_X3_9 : Cond.fieldLink RX3 9 "CopierJobs$Plan" "trays" "[I" ∈ lw_gt := in_g (in_t1 (List.mem_of_getElem? (i := 191) rfl)) rfl
theorem wG_X2_53 : Cond.fieldLinkNest RX2 53 "CopierJobs$Plan" "trays" "[I" "CopierJobs" ∈ lw_nt := in_n (in_t1 (List.mem_of_getElem? (i := 192) rfl)) rfl
theorem wG_X2_31 : Cond.fieldLinkNest RX2 31 "CopierJobs$Plan" "toner" "I" "CopierJobs" ∈ lw_nt := in_n (in_t1 (List.mem_of_getElem? (i := 193) rfl)) rfl
theorem wF_X3_37 : Cond.fieldLink RX3 37 "CopierJobs$Plan" "toner" "I" ∈ lw_gt := in_g (in_t1 (List.mem_of_getElem? (i := 194) rfl)) rfl
theorem wF_X3_41 : Cond.fieldLink RX3 41 "CopierJobs$Plan" "bins" "I" ∈ lw_gt := in_g (in_t1 (List.mem_of_getElem? (i := 195) rfl)) rfl
theorem wG_X6_274 : Cond.fieldLinkNest RX6 274 "CopierJobs$Plan" "bins" "I" "CopierJobs" ∈ lw_nt := in_n (in_t1 (List.mem_of_getElem? (i := 196) rfl)) rfl
theorem wF_X3_17 : Cond.fieldLink RX3 17 "CopierJobs$Plan" "jobs" "[LCopierJobs$Job;" ∈ lw_gt := in_g (in_t1 (List.mem_of_getElem? (i := 197) rfl)) rfl
theorem wG_X2_41 : Cond.fieldLinkNest RX2 41 "CopierJobs$Plan" "jobCount" "I" "CopierJobs" ∈ lw_nt := in_n (in_t1 (List.mem_of_getElem? (i := 198) rfl)) rfl
theorem wF_X3_44 : Cond.fieldLink RX3 44 "CopierJobs$Plan" "jobCount" "I" ∈ lw_gt := in_g (in_t1 (List.mem_of_getElem? (i := 199) rfl)) rfl
theorem wG_X6_233 : Cond.fieldLinkNest RX6 233 "CopierJobs$Plan" "jobCount" "I" "CopierJobs" ∈ lw_nt := in_n (in_t1 (List.mem_of_getElem? (i := 200) rfl)) rfl
theorem wF_X3_24 : Cond.fieldLink RX3 24 "CopierJobs$Plan" "numbers" "[I" ∈ lw_gt := in_g (in_t1 (List.mem_of_getElem? (i := 201) rfl)) rfl
theorem wF_X3_47 : Cond.fieldLink RX3 47 "CopierJobs$Plan" "traysTold" "Z" ∈ lw_gt := in_g (in_t1 (List.mem_of_getElem? (i := 202) rfl)) rfl
theorem wF_X3_51 : Cond.fieldLink RX3 51 "CopierJobs$Plan" "tonerTold" "Z" ∈ lw_gt := in_g (in_t1 (List.mem_of_getElem? (i := 203) rfl)) rfl
theorem wF_X3_54 : Cond.fieldLink RX3 54 "CopierJobs$Plan" "binsTold" "Z" ∈ lw_gt := in_g (in_t1 (List.mem_of_getElem? (i := 204) rfl)) rfl
theorem wL_X3_trays : Cond.laysFinal RX3 "CopierJobs$Plan" "trays" "[I" ∈ lw_gt := in_g (in_t1 (List.mem_of_getElem? (i := 205) rfl)) rfl
theorem wL_X3_toner : Cond.lays RX3 "CopierJobs$Plan" "toner" "I" ∈ lw_gt := in_g (in_t1 (List.mem_of_getElem? (i := 207) rfl)) rfl
theorem wL_X3_bins : Cond.lays RX3 "CopierJobs$Plan" "bins" "I" ∈ lw_gt := in_g (in_t1 (List.mem_of_getElem? (i := 209) rfl)) rfl
theorem wL_X3_jobs : Cond.laysFinal RX3 "CopierJobs$Plan" "jobs" "[LCopierJobs$Job;" ∈ lw_gt := in_g (in_t1 (List.mem_of_getElem? (i := 211) rfl)) rfl
theorem wL_X3_jobCount : Cond.lays RX3 "CopierJobs$Plan" "jobCount" "I" ∈ lw_gt := in_g (in_t1 (List.mem_of_getElem? (i := 213) rfl)) rfl
theorem wL_X3_numbers : Cond.laysFinal RX3 "CopierJobs$Plan" "numbers" "[I" ∈ lw_gt := in_g (in_t1 (List.mem_of_getElem? (i := 215) rfl)) rfl
theorem wL_X3_traysTold : Cond.lays RX3 "CopierJobs$Plan" "traysTold" "Z" ∈ lw_gt := in_g (in_t1 (List.mem_of_getElem? (i := 217) rfl)) rfl
theorem wL_X3_tonerTold : Cond.lays RX3 "CopierJobs$Plan" "tonerTold" "Z" ∈ lw_gt := in_g (in_t1 (List.mem_of_getElem? (i := 219) rfl)) rfl
theorem wL_X3_binsTold : Cond.lays RX3 "CopierJobs$Plan" "binsTold" "Z" ∈ lw_gt := in_g (in_t1 (List.mem_of_getElem? (i := 221) rfl)) rfl
theorem wM_X6_55 : Cond.methodLink RX6 55 yX0_begin ∈ lw_gt := in_g (in_t1 (List.mem_of_getElem? (i := 224) rfl)) rfl
theorem wI_X0_begin : Cond.instanceMethod yX0_begin ∈ lw_gt := in_g (in_t1 (List.mem_of_getElem? (i := 225) rfl)) rfl
theorem wS_X0_begin : Cond.selects RX0 yX0_begin yX0_begin ∈ lw_gt := in_g (in_t1 (List.mem_of_getElem? (i := 226) rfl)) rfl
theorem wC_X0_begin : Cond.code yX0_begin prog_2_method_2_code 2 (Option.none : Option FieldType) ∈ lw_gt := in_g (in_t1 (List.mem_of_getElem? (i := 227) rfl)) rfl
theorem wM_X0_22 : Cond.methodLink RX0 22 yX2_begin ∈ lw_gt := in_g (in_t1 (List.mem_of_getElem? (i := 228) rfl)) rfl
theorem wI_X2_begin : Cond.instanceMethod yX2_begin ∈ lw_gt := in_g (in_t1 (List.mem_of_getElem? (i := 229) rfl)) rfl
theorem wS_X2_begin : Cond.selects RX2 yX2_begin yX2_begin ∈ lw_gt := in_g (in_t1 (List.mem_of_getElem? (i := 230) rfl)) rfl
theorem wC_X2_begin : Cond.code yX2_begin prog_4_method_2_code 3 (Option.none : Option FieldType) ∈ lw_gt := in_g (in_t1 (List.mem_of_getElem? (i := 231) rfl)) rfl
theorem wM_X2_47 : Cond.methodLink RX2 47 yJ7_fill_53178 ∈ lw_gt := in_g (in_t1 (List.mem_of_getElem? (i := 232) rfl)) rfl
theorem wO_X2_54 : Cond.methodLinkNest RX2 54 yX6_copyRow "CopierJobs" ∈ lw_nt := in_n (in_t1 (List.mem_of_getElem? (i := 233) rfl)) rfl
theorem wT_X6_copyRow : Cond.static yX6_copyRow ∈ lw_gt := in_g (in_t1 (List.mem_of_getElem? (i := 234) rfl)) rfl
theorem wC_X6_copyRow : Cond.code yX6_copyRow prog_1_method_35_code 3 (Option.none : Option FieldType) ∈ lw_gt := in_g (in_t1 (List.mem_of_getElem? (i := 235) rfl)) rfl
theorem wF_X6_10 : Cond.fieldLink RX6 10 "CopierJobs" "text" "LCopierJobs$Text;" ∈ lw_gt := in_g (in_t1 (List.mem_of_getElem? (i := 236) rfl)) rfl
theorem wF_X6_19 : Cond.fieldLink RX6 19 "CopierJobs" "course" "LCopierJobs$Course;" ∈ lw_gt := in_g (in_t1 (List.mem_of_getElem? (i := 237) rfl)) rfl
theorem wF_X6_26 : Cond.fieldLink RX6 26 "CopierJobs" "trial" "LCopierJobs$Now;" ∈ lw_gt := in_g (in_t1 (List.mem_of_getElem? (i := 238) rfl)) rfl
theorem wF_X6_33 : Cond.fieldLink RX6 33 "CopierJobs" "seen" "LCopierJobs$Seen;" ∈ lw_gt := in_g (in_t1 (List.mem_of_getElem? (i := 239) rfl)) rfl
theorem wF_X6_37 : Cond.fieldLink RX6 37 "CopierJobs" "images" "[LCopierJobs$Course;" ∈ lw_gt := in_g (in_t2 (List.mem_of_getElem? (i := 0) rfl)) rfl
theorem wF_X6_41 : Cond.fieldLink RX6 41 "CopierJobs" "kept" "[Z" ∈ lw_gt := in_g (in_t2 (List.mem_of_getElem? (i := 1) rfl)) rfl
theorem wF_X6_48 : Cond.fieldLink RX6 48 "CopierJobs" "plan" "LCopierJobs$Plan;" ∈ lw_gt := in_g (in_t2 (List.mem_of_getElem? (i := 2) rfl)) rfl
theorem wF_X6_52 : Cond.fieldLink RX6 52 "CopierJobs" "nextPlan" "LCopierJobs$Plan;" ∈ lw_gt := in_g (in_t2 (List.mem_of_getElem? (i := 3) rfl)) rfl
theorem wF_X6_279 : Cond.fieldLink RX6 279 "CopierJobs" "traced" "J" ∈ lw_gt := in_g (in_t2 (List.mem_of_getElem? (i := 4) rfl)) rfl
theorem wL_X6_text : Cond.laysFinal RX6 "CopierJobs" "text" "LCopierJobs$Text;" ∈ lw_gt := in_g (in_t2 (List.mem_of_getElem? (i := 5) rfl)) rfl
theorem wL_X6_course : Cond.laysFinal RX6 "CopierJobs" "course" "LCopierJobs$Course;" ∈ lw_gt := in_g (in_t2 (List.mem_of_getElem? (i := 7) rfl)) rfl
theorem wL_X6_trial : Cond.laysFinal RX6 "CopierJobs" "trial" "LCopierJobs$Now;" ∈ lw_gt := in_g (in_t2 (List.mem_of_getElem? (i := 9) rfl)) rfl
theorem wL_X6_seen : Cond.laysFinal RX6 "CopierJobs" "seen" "LCopierJobs$Seen;" ∈ lw_gt := in_g (in_t2 (List.mem_of_getElem? (i := 11) rfl)) rfl
theorem wL_X6_images : Cond.laysFinal RX6 "CopierJobs" "images" "[LCopierJobs$Course;" ∈ lw_gt := in_g (in_t2 (List.mem_of_getElem? (i := 13) rfl)) rfl
theorem wL_X6_kept : Cond.laysFinal RX6 "CopierJobs" "kept" "[Z" ∈ lw_gt := in_g (in_t2 (List.mem_of_getElem? (i := 15) rfl)) rfl
theorem wL_X6_plan : Cond.lays RX6 "CopierJobs" "plan" "LCopierJobs$Plan;" ∈ lw_gt := in_g (in_t2 (List.mem_of_getElem? (i := 17) rfl)) rfl
theorem wL_X6_nextPlan : Cond.lays RX6 "CopierJobs" "nextPlan" "LCopierJobs$Plan;" ∈ lw_gt := in_g (in_t2 (List.mem_of_getElem? (i := 19) rfl)) rfl
theorem wL_X6_traced : Cond.lays RX6 "CopierJobs" "traced" "J" ∈ lw_gt := in_g (in_t2 (List.mem_of_getElem? (i := 21) rfl)) rfl
theorem wM_L_13 : Cond.methodLink RL 13 yX6_type ∈ lw_gt := in_g (in_t2 (List.mem_of_getElem? (i := 24) rfl)) rfl
theorem wI_X6_type : Cond.instanceMethod yX6_type ∈ lw_gt := in_g (in_t2 (List.mem_of_getElem? (i := 25) rfl)) rfl
theorem wS_X6_type : Cond.selects RX6 yX6_type yX6_type ∈ lw_gt := in_g (in_t2 (List.mem_of_getElem? (i := 26) rfl)) rfl
theorem wC_X6_type : Cond.code yX6_type prog_1_method_2_code 2 (Option.some FieldType.int) ∈ lw_gt := in_g (in_t2 (List.mem_of_getElem? (i := 27) rfl)) rfl
theorem wM_X6_59 : Cond.methodLink RX6 59 yX5_isFull ∈ lw_gt := in_g (in_t2 (List.mem_of_getElem? (i := 28) rfl)) rfl
theorem wI_X5_isFull : Cond.instanceMethod yX5_isFull ∈ lw_gt := in_g (in_t2 (List.mem_of_getElem? (i := 29) rfl)) rfl
theorem wS_X5_isFull : Cond.selects RX5 yX5_isFull yX5_isFull ∈ lw_gt := in_g (in_t2 (List.mem_of_getElem? (i := 30) rfl)) rfl
theorem wC_X5_isFull : Cond.code yX5_isFull prog_7_method_2_code 1 (Option.some FieldType.boolean) ∈ lw_gt := in_g (in_t2 (List.mem_of_getElem? (i := 31) rfl)) rfl
theorem wM_X6_63 : Cond.methodLink RX6 63 yX5_add ∈ lw_gt := in_g (in_t2 (List.mem_of_getElem? (i := 32) rfl)) rfl
theorem wI_X5_add : Cond.instanceMethod yX5_add ∈ lw_gt := in_g (in_t2 (List.mem_of_getElem? (i := 33) rfl)) rfl
theorem wS_X5_add : Cond.selects RX5 yX5_add yX5_add ∈ lw_gt := in_g (in_t2 (List.mem_of_getElem? (i := 34) rfl)) rfl
theorem wC_X5_add : Cond.code yX5_add prog_7_method_3_code 2 (Option.some FieldType.int) ∈ lw_gt := in_g (in_t2 (List.mem_of_getElem? (i := 35) rfl)) rfl
theorem wO_X5_19 : Cond.methodLinkNest RX5 19 yX6_put "CopierJobs" ∈ lw_nt := in_n (in_t2 (List.mem_of_getElem? (i := 36) rfl)) rfl
theorem wT_X6_put : Cond.static yX6_put ∈ lw_gt := in_g (in_t2 (List.mem_of_getElem? (i := 37) rfl)) rfl
theorem wC_X6_put : Cond.code yX6_put prog_1_method_34_code 3 (Option.none : Option FieldType) ∈ lw_gt := in_g (in_t2 (List.mem_of_getElem? (i := 38) rfl)) rfl
theorem wM_L_18 : Cond.methodLink RL 18 yX6_clear ∈ lw_gt := in_g (in_t2 (List.mem_of_getElem? (i := 39) rfl)) rfl
theorem wI_X6_clear : Cond.instanceMethod yX6_clear ∈ lw_gt := in_g (in_t2 (List.mem_of_getElem? (i := 40) rfl)) rfl
theorem wS_X6_clear : Cond.selects RX6 yX6_clear yX6_clear ∈ lw_gt := in_g (in_t2 (List.mem_of_getElem? (i := 41) rfl)) rfl
theorem wC_X6_clear : Cond.code yX6_clear prog_1_method_3_code 1 (Option.some FieldType.int) ∈ lw_gt := in_g (in_t2 (List.mem_of_getElem? (i := 42) rfl)) rfl
theorem wM_X6_67 : Cond.methodLink RX6 67 yX5_wipe ∈ lw_gt := in_g (in_t2 (List.mem_of_getElem? (i := 43) rfl)) rfl
theorem wI_X5_wipe : Cond.instanceMethod yX5_wipe ∈ lw_gt := in_g (in_t2 (List.mem_of_getElem? (i := 44) rfl)) rfl
theorem wS_X5_wipe : Cond.selects RX5 yX5_wipe yX5_wipe ∈ lw_gt := in_g (in_t2 (List.mem_of_getElem? (i := 45) rfl)) rfl
theorem wC_X5_wipe : Cond.code yX5_wipe prog_7_method_4_code 2 (Option.some FieldType.int) ∈ lw_gt := in_g (in_t2 (List.mem_of_getElem? (i := 46) rfl)) rfl
theorem wM_L_23 : Cond.methodLink RL 23 yX6_office ∈ lw_gt := in_g (in_t2 (List.mem_of_getElem? (i := 47) rfl)) rfl
theorem wI_X6_office : Cond.instanceMethod yX6_office ∈ lw_gt := in_g (in_t2 (List.mem_of_getElem? (i := 48) rfl)) rfl
theorem wS_X6_office : Cond.selects RX6 yX6_office yX6_office ∈ lw_gt := in_g (in_t2 (List.mem_of_getElem? (i := 49) rfl)) rfl
theorem wC_X6_office : Cond.code yX6_office prog_1_method_4_code 4 (Option.some FieldType.int) ∈ lw_gt := in_g (in_t2 (List.mem_of_getElem? (i := 50) rfl)) rfl
theorem wM_X6_71 : Cond.methodLink RX6 71 yX3_readFrom ∈ lw_gt := in_g (in_t2 (List.mem_of_getElem? (i := 51) rfl)) rfl
theorem wI_X3_readFrom : Cond.instanceMethod yX3_readFrom ∈ lw_gt := in_g (in_t2 (List.mem_of_getElem? (i := 52) rfl)) rfl
theorem wS_X3_readFrom : Cond.selects RX3 yX3_readFrom yX3_readFrom ∈ lw_gt := in_g (in_t2 (List.mem_of_getElem? (i := 53) rfl)) rfl
theorem wC_X3_readFrom : Cond.code yX3_readFrom prog_5_method_6_code 3 (Option.some FieldType.int) ∈ lw_gt := in_g (in_t2 (List.mem_of_getElem? (i := 54) rfl)) rfl
theorem wM_X3_67 : Cond.methodLink RX3 67 yX5_rewind ∈ lw_gt := in_g (in_t2 (List.mem_of_getElem? (i := 55) rfl)) rfl
theorem wI_X5_rewind : Cond.instanceMethod yX5_rewind ∈ lw_gt := in_g (in_t2 (List.mem_of_getElem? (i := 56) rfl)) rfl
theorem wS_X5_rewind : Cond.selects RX5 yX5_rewind yX5_rewind ∈ lw_gt := in_g (in_t2 (List.mem_of_getElem? (i := 57) rfl)) rfl
theorem wC_X5_rewind : Cond.code yX5_rewind prog_7_method_5_code 1 (Option.none : Option FieldType) ∈ lw_gt := in_g (in_t2 (List.mem_of_getElem? (i := 58) rfl)) rfl
theorem wM_X3_72 : Cond.methodLink RX3 72 yX5_readToken ∈ lw_gt := in_g (in_t2 (List.mem_of_getElem? (i := 59) rfl)) rfl
theorem wI_X5_readToken : Cond.instanceMethod yX5_readToken ∈ lw_gt := in_g (in_t2 (List.mem_of_getElem? (i := 60) rfl)) rfl
theorem wS_X5_readToken : Cond.selects RX5 yX5_readToken yX5_readToken ∈ lw_gt := in_g (in_t2 (List.mem_of_getElem? (i := 61) rfl)) rfl
theorem wC_X5_readToken : Cond.code yX5_readToken prog_7_method_6_code 2 (Option.none : Option FieldType) ∈ lw_gt := in_g (in_t2 (List.mem_of_getElem? (i := 62) rfl)) rfl
theorem wO_X5_26 : Cond.methodLinkNest RX5 26 yX6_at "CopierJobs" ∈ lw_nt := in_n (in_t2 (List.mem_of_getElem? (i := 63) rfl)) rfl
theorem wT_X6_at : Cond.static yX6_at ∈ lw_gt := in_g (in_t2 (List.mem_of_getElem? (i := 64) rfl)) rfl
theorem wC_X6_at : Cond.code yX6_at prog_1_method_33_code 2 (Option.some FieldType.int) ∈ lw_gt := in_g (in_t2 (List.mem_of_getElem? (i := 65) rfl)) rfl
theorem wM_X5_39 : Cond.methodLink RX5 39 yX5_isLetter ∈ lw_gt := in_g (in_t2 (List.mem_of_getElem? (i := 66) rfl)) rfl
theorem wT_X5_isLetter : Cond.static yX5_isLetter ∈ lw_gt := in_g (in_t2 (List.mem_of_getElem? (i := 67) rfl)) rfl
theorem wC_X5_isLetter : Cond.code yX5_isLetter prog_7_method_9_code 1 (Option.some FieldType.boolean) ∈ lw_gt := in_g (in_t2 (List.mem_of_getElem? (i := 68) rfl)) rfl
theorem wM_X5_43 : Cond.methodLink RX5 43 yX5_readLetters ∈ lw_gt := in_g (in_t2 (List.mem_of_getElem? (i := 69) rfl)) rfl
theorem wI_X5_readLetters : Cond.instanceMethod yX5_readLetters ∈ lw_gt := in_g (in_t2 (List.mem_of_getElem? (i := 71) rfl)) rfl
theorem wC_X5_readLetters : Cond.code yX5_readLetters prog_7_method_7_code 1 (Option.none : Option FieldType) ∈ lw_gt := in_g (in_t2 (List.mem_of_getElem? (i := 72) rfl)) rfl
theorem wM_X5_46 : Cond.methodLink RX5 46 yX5_isDigit ∈ lw_gt := in_g (in_t2 (List.mem_of_getElem? (i := 73) rfl)) rfl
theorem wT_X5_isDigit : Cond.static yX5_isDigit ∈ lw_gt := in_g (in_t2 (List.mem_of_getElem? (i := 74) rfl)) rfl
theorem wC_X5_isDigit : Cond.code yX5_isDigit prog_7_method_10_code 1 (Option.some FieldType.boolean) ∈ lw_gt := in_g (in_t2 (List.mem_of_getElem? (i := 75) rfl)) rfl
theorem wM_X5_49 : Cond.methodLink RX5 49 yX5_readNumber ∈ lw_gt := in_g (in_t2 (List.mem_of_getElem? (i := 76) rfl)) rfl
theorem wI_X5_readNumber : Cond.instanceMethod yX5_readNumber ∈ lw_gt := in_g (in_t2 (List.mem_of_getElem? (i := 78) rfl)) rfl
theorem wC_X5_readNumber : Cond.code yX5_readNumber prog_7_method_8_code 2 (Option.none : Option FieldType) ∈ lw_gt := in_g (in_t2 (List.mem_of_getElem? (i := 79) rfl)) rfl
theorem wM_X5_52 : Cond.methodLink RX5 52 yJ9_min_7cf53 ∈ lw_gt := in_g (in_t2 (List.mem_of_getElem? (i := 80) rfl)) rfl
theorem wT_J9_min_7cf53 : Cond.static yJ9_min_7cf53 ∈ lw_gt := in_g (in_t2 (List.mem_of_getElem? (i := 81) rfl)) rfl
theorem wC_J9_min_7cf53 : Cond.code yJ9_min_7cf53 prog_11_method_69_code 2 (Option.some FieldType.int) ∈ lw_gt := in_g (in_t2 (List.mem_of_getElem? (i := 82) rfl)) rfl
theorem wM_X3_78 : Cond.methodLink RX3 78 yX3_readItem ∈ lw_gt := in_g (in_t2 (List.mem_of_getElem? (i := 83) rfl)) rfl
theorem wI_X3_readItem : Cond.instanceMethod yX3_readItem ∈ lw_gt := in_g (in_t2 (List.mem_of_getElem? (i := 85) rfl)) rfl
theorem wC_X3_readItem : Cond.code yX3_readItem prog_5_method_7_code 2 (Option.some FieldType.boolean) ∈ lw_gt := in_g (in_t2 (List.mem_of_getElem? (i := 86) rfl)) rfl
theorem wG_X3_88 : Cond.fieldLinkNest RX3 88 "CopierJobs" "TRAYS_LEAST" "[I" "CopierJobs" ∈ lw_nt := in_n (in_t2 (List.mem_of_getElem? (i := 87) rfl)) rfl
theorem wG_X3_91 : Cond.fieldLinkNest RX3 91 "CopierJobs" "TRAYS_MOST" "[I" "CopierJobs" ∈ lw_nt := in_n (in_t2 (List.mem_of_getElem? (i := 89) rfl)) rfl
theorem wM_X3_94 : Cond.methodLink RX3 94 yX3_readNumbers ∈ lw_gt := in_g (in_t2 (List.mem_of_getElem? (i := 91) rfl)) rfl
theorem wI_X3_readNumbers : Cond.instanceMethod yX3_readNumbers ∈ lw_gt := in_g (in_t2 (List.mem_of_getElem? (i := 93) rfl)) rfl
theorem wC_X3_readNumbers : Cond.code yX3_readNumbers prog_5_method_8_code 5 (Option.some FieldType.boolean) ∈ lw_gt := in_g (in_t2 (List.mem_of_getElem? (i := 94) rfl)) rfl
theorem wO_X3_126 : Cond.methodLinkNest RX3 126 yX6_at "CopierJobs" ∈ lw_nt := in_n (in_t2 (List.mem_of_getElem? (i := 95) rfl)) rfl
theorem wO_X3_130 : Cond.methodLinkNest RX3 130 yX6_put "CopierJobs" ∈ lw_nt := in_n (in_t2 (List.mem_of_getElem? (i := 96) rfl)) rfl
theorem wM_X3_98 : Cond.methodLink RX3 98 yX3_tellTrays ∈ lw_gt := in_g (in_t2 (List.mem_of_getElem? (i := 97) rfl)) rfl
theorem wI_X3_tellTrays : Cond.instanceMethod yX3_tellTrays ∈ lw_gt := in_g (in_t2 (List.mem_of_getElem? (i := 99) rfl)) rfl
theorem wC_X3_tellTrays : Cond.code yX3_tellTrays prog_5_method_9_code 1 (Option.some FieldType.boolean) ∈ lw_gt := in_g (in_t2 (List.mem_of_getElem? (i := 100) rfl)) rfl
theorem wO_X3_134 : Cond.methodLinkNest RX3 134 yX6_copyRow "CopierJobs" ∈ lw_nt := in_n (in_t2 (List.mem_of_getElem? (i := 101) rfl)) rfl
theorem wG_X3_102 : Cond.fieldLinkNest RX3 102 "CopierJobs" "TONER_TOLD_LEAST" "[I" "CopierJobs" ∈ lw_nt := in_n (in_t2 (List.mem_of_getElem? (i := 102) rfl)) rfl
theorem wG_X3_105 : Cond.fieldLinkNest RX3 105 "CopierJobs" "TONER_TOLD_MOST" "[I" "CopierJobs" ∈ lw_nt := in_n (in_t2 (List.mem_of_getElem? (i := 104) rfl)) rfl
theorem wM_X3_108 : Cond.methodLink RX3 108 yX3_tellToner ∈ lw_gt := in_g (in_t2 (List.mem_of_getElem? (i := 106) rfl)) rfl
theorem wI_X3_tellToner : Cond.instanceMethod yX3_tellToner ∈ lw_gt := in_g (in_t2 (List.mem_of_getElem? (i := 108) rfl)) rfl
theorem wC_X3_tellToner : Cond.code yX3_tellToner prog_5_method_10_code 1 (Option.some FieldType.boolean) ∈ lw_gt := in_g (in_t2 (List.mem_of_getElem? (i := 109) rfl)) rfl
theorem wG_X3_111 : Cond.fieldLinkNest RX3 111 "CopierJobs" "BINS_TOLD_LEAST" "[I" "CopierJobs" ∈ lw_nt := in_n (in_t2 (List.mem_of_getElem? (i := 110) rfl)) rfl
theorem wG_X3_114 : Cond.fieldLinkNest RX3 114 "CopierJobs" "BINS_TOLD_MOST" "[I" "CopierJobs" ∈ lw_nt := in_n (in_t2 (List.mem_of_getElem? (i := 112) rfl)) rfl
theorem wM_X3_117 : Cond.methodLink RX3 117 yX3_tellBins ∈ lw_gt := in_g (in_t2 (List.mem_of_getElem? (i := 114) rfl)) rfl
theorem wI_X3_tellBins : Cond.instanceMethod yX3_tellBins ∈ lw_gt := in_g (in_t2 (List.mem_of_getElem? (i := 116) rfl)) rfl
theorem wC_X3_tellBins : Cond.code yX3_tellBins prog_5_method_11_code 1 (Option.some FieldType.boolean) ∈ lw_gt := in_g (in_t2 (List.mem_of_getElem? (i := 117) rfl)) rfl
theorem wG_X3_120 : Cond.fieldLinkNest RX3 120 "CopierJobs" "JOB_MOST" "[I" "CopierJobs" ∈ lw_nt := in_n (in_t2 (List.mem_of_getElem? (i := 118) rfl)) rfl
theorem wM_X3_123 : Cond.methodLink RX3 123 yX3_tellJob ∈ lw_gt := in_g (in_t2 (List.mem_of_getElem? (i := 120) rfl)) rfl
theorem wI_X3_tellJob : Cond.instanceMethod yX3_tellJob ∈ lw_gt := in_g (in_t2 (List.mem_of_getElem? (i := 122) rfl)) rfl
theorem wC_X3_tellJob : Cond.code yX3_tellJob prog_5_method_12_code 2 (Option.some FieldType.boolean) ∈ lw_gt := in_g (in_t2 (List.mem_of_getElem? (i := 123) rfl)) rfl
theorem wM_X3_138 : Cond.methodLink RX3 138 yX3_jobAt ∈ lw_gt := in_g (in_t2 (List.mem_of_getElem? (i := 124) rfl)) rfl
theorem wI_X3_jobAt : Cond.instanceMethod yX3_jobAt ∈ lw_gt := in_g (in_t2 (List.mem_of_getElem? (i := 125) rfl)) rfl
theorem wS_X3_jobAt : Cond.selects RX3 yX3_jobAt yX3_jobAt ∈ lw_gt := in_g (in_t2 (List.mem_of_getElem? (i := 126) rfl)) rfl
theorem wC_X3_jobAt : Cond.code yX3_jobAt prog_5_method_3_code 2 (Option.some (FieldType.object "CopierJobs$Job")) ∈ lw_gt := in_g (in_t2 (List.mem_of_getElem? (i := 127) rfl)) rfl
theorem wM_X3_142 : Cond.methodLink RX3 142 yX1_tell ∈ lw_gt := in_g (in_t2 (List.mem_of_getElem? (i := 128) rfl)) rfl
theorem wI_X1_tell : Cond.instanceMethod yX1_tell ∈ lw_gt := in_g (in_t2 (List.mem_of_getElem? (i := 129) rfl)) rfl
theorem wS_X1_tell : Cond.selects RX1 yX1_tell yX1_tell ∈ lw_gt := in_g (in_t2 (List.mem_of_getElem? (i := 130) rfl)) rfl
theorem wC_X1_tell : Cond.code yX1_tell prog_3_method_2_code 2 (Option.none : Option FieldType) ∈ lw_gt := in_g (in_t2 (List.mem_of_getElem? (i := 131) rfl)) rfl
theorem wO_X1_22 : Cond.methodLinkNest RX1 22 yX6_at "CopierJobs" ∈ lw_nt := in_n (in_t2 (List.mem_of_getElem? (i := 132) rfl)) rfl
theorem wM_X6_75 : Cond.methodLink RX6 75 yX4_forgetAll ∈ lw_gt := in_g (in_t2 (List.mem_of_getElem? (i := 133) rfl)) rfl
theorem wI_X4_forgetAll : Cond.instanceMethod yX4_forgetAll ∈ lw_gt := in_g (in_t2 (List.mem_of_getElem? (i := 134) rfl)) rfl
theorem wS_X4_forgetAll : Cond.selects RX4 yX4_forgetAll yX4_forgetAll ∈ lw_gt := in_g (in_t2 (List.mem_of_getElem? (i := 135) rfl)) rfl
theorem wC_X4_forgetAll : Cond.code yX4_forgetAll prog_6_method_3_code 2 (Option.some FieldType.int) ∈ lw_gt := in_g (in_t2 (List.mem_of_getElem? (i := 136) rfl)) rfl
theorem wM_L_27 : Cond.methodLink RL 27 yX6_job ∈ lw_gt := in_g (in_t2 (List.mem_of_getElem? (i := 137) rfl)) rfl
theorem wI_X6_job : Cond.instanceMethod yX6_job ∈ lw_gt := in_g (in_t2 (List.mem_of_getElem? (i := 138) rfl)) rfl
theorem wS_X6_job : Cond.selects RX6 yX6_job yX6_job ∈ lw_gt := in_g (in_t2 (List.mem_of_getElem? (i := 139) rfl)) rfl
theorem wC_X6_job : Cond.code yX6_job prog_1_method_5_code 4 (Option.some FieldType.int) ∈ lw_gt := in_g (in_t2 (List.mem_of_getElem? (i := 140) rfl)) rfl
theorem wM_X6_78 : Cond.methodLink RX6 78 yX3_jobAt ∈ lw_gt := in_g (in_t2 (List.mem_of_getElem? (i := 141) rfl)) rfl
theorem wM_X6_101 : Cond.methodLink RX6 101 yX1_all ∈ lw_gt := in_g (in_t2 (List.mem_of_getElem? (i := 142) rfl)) rfl
theorem wI_X1_all : Cond.instanceMethod yX1_all ∈ lw_gt := in_g (in_t2 (List.mem_of_getElem? (i := 143) rfl)) rfl
theorem wS_X1_all : Cond.selects RX1 yX1_all yX1_all ∈ lw_gt := in_g (in_t2 (List.mem_of_getElem? (i := 144) rfl)) rfl
theorem wC_X1_all : Cond.code yX1_all prog_3_method_3_code 1 (Option.some FieldType.int) ∈ lw_gt := in_g (in_t2 (List.mem_of_getElem? (i := 145) rfl)) rfl
theorem wM_X6_107 : Cond.methodLink RX6 107 yX2_madeOf ∈ lw_gt := in_g (in_t2 (List.mem_of_getElem? (i := 146) rfl)) rfl
theorem wI_X2_madeOf : Cond.instanceMethod yX2_madeOf ∈ lw_gt := in_g (in_t2 (List.mem_of_getElem? (i := 147) rfl)) rfl
theorem wS_X2_madeOf : Cond.selects RX2 yX2_madeOf yX2_madeOf ∈ lw_gt := in_g (in_t2 (List.mem_of_getElem? (i := 148) rfl)) rfl
theorem wC_X2_madeOf : Cond.code yX2_madeOf prog_4_method_4_code 2 (Option.some FieldType.int) ∈ lw_gt := in_g (in_t2 (List.mem_of_getElem? (i := 149) rfl)) rfl
theorem wO_X2_58 : Cond.methodLinkNest RX2 58 yX6_at "CopierJobs" ∈ lw_nt := in_n (in_t2 (List.mem_of_getElem? (i := 150) rfl)) rfl
theorem wM_X6_110 : Cond.methodLink RX6 110 yX2_placeOf ∈ lw_gt := in_g (in_t2 (List.mem_of_getElem? (i := 151) rfl)) rfl
theorem wI_X2_placeOf : Cond.instanceMethod yX2_placeOf ∈ lw_gt := in_g (in_t2 (List.mem_of_getElem? (i := 152) rfl)) rfl
theorem wS_X2_placeOf : Cond.selects RX2 yX2_placeOf yX2_placeOf ∈ lw_gt := in_g (in_t2 (List.mem_of_getElem? (i := 153) rfl)) rfl
theorem wC_X2_placeOf : Cond.code yX2_placeOf prog_4_method_7_code 3 (Option.some FieldType.int) ∈ lw_gt := in_g (in_t2 (List.mem_of_getElem? (i := 154) rfl)) rfl
theorem wM_X6_113 : Cond.methodLink RX6 113 yX2_endOf ∈ lw_gt := in_g (in_t2 (List.mem_of_getElem? (i := 155) rfl)) rfl
theorem wI_X2_endOf : Cond.instanceMethod yX2_endOf ∈ lw_gt := in_g (in_t2 (List.mem_of_getElem? (i := 156) rfl)) rfl
theorem wS_X2_endOf : Cond.selects RX2 yX2_endOf yX2_endOf ∈ lw_gt := in_g (in_t2 (List.mem_of_getElem? (i := 157) rfl)) rfl
theorem wC_X2_endOf : Cond.code yX2_endOf prog_4_method_5_code 2 (Option.some FieldType.int) ∈ lw_gt := in_g (in_t2 (List.mem_of_getElem? (i := 158) rfl)) rfl
theorem wM_X6_116 : Cond.methodLink RX6 116 yX6_endsIn ∈ lw_gt := in_g (in_t2 (List.mem_of_getElem? (i := 159) rfl)) rfl
theorem wI_X6_endsIn : Cond.instanceMethod yX6_endsIn ∈ lw_gt := in_g (in_t2 (List.mem_of_getElem? (i := 161) rfl)) rfl
theorem wC_X6_endsIn : Cond.code yX6_endsIn prog_1_method_29_code 3 (Option.some FieldType.int) ∈ lw_gt := in_g (in_t2 (List.mem_of_getElem? (i := 162) rfl)) rfl
theorem wM_X6_283 : Cond.methodLink RX6 283 yX2_copyFrom ∈ lw_gt := in_g (in_t2 (List.mem_of_getElem? (i := 163) rfl)) rfl
theorem wI_X2_copyFrom : Cond.instanceMethod yX2_copyFrom ∈ lw_gt := in_g (in_t2 (List.mem_of_getElem? (i := 164) rfl)) rfl
theorem wS_X2_copyFrom : Cond.selects RX2 yX2_copyFrom yX2_copyFrom ∈ lw_gt := in_g (in_t2 (List.mem_of_getElem? (i := 165) rfl)) rfl
theorem wC_X2_copyFrom : Cond.code yX2_copyFrom prog_4_method_3_code 2 (Option.none : Option FieldType) ∈ lw_gt := in_g (in_t2 (List.mem_of_getElem? (i := 166) rfl)) rfl
theorem wM_X6_205 : Cond.methodLink RX6 205 yX2_whyStands ∈ lw_gt := in_g (in_t2 (List.mem_of_getElem? (i := 167) rfl)) rfl
theorem wI_X2_whyStands : Cond.instanceMethod yX2_whyStands ∈ lw_gt := in_g (in_t2 (List.mem_of_getElem? (i := 168) rfl)) rfl
theorem wS_X2_whyStands : Cond.selects RX2 yX2_whyStands yX2_whyStands ∈ lw_gt := in_g (in_t2 (List.mem_of_getElem? (i := 169) rfl)) rfl
theorem wC_X2_whyStands : Cond.code yX2_whyStands prog_4_method_10_code 5 (Option.some FieldType.int) ∈ lw_gt := in_g (in_t2 (List.mem_of_getElem? (i := 170) rfl)) rfl
theorem wM_X2_70 : Cond.methodLink RX2 70 yX2_firstJob ∈ lw_gt := in_g (in_t2 (List.mem_of_getElem? (i := 171) rfl)) rfl
theorem wI_X2_firstJob : Cond.instanceMethod yX2_firstJob ∈ lw_gt := in_g (in_t2 (List.mem_of_getElem? (i := 172) rfl)) rfl
theorem wS_X2_firstJob : Cond.selects RX2 yX2_firstJob yX2_firstJob ∈ lw_gt := in_g (in_t2 (List.mem_of_getElem? (i := 173) rfl)) rfl
theorem wC_X2_firstJob : Cond.code yX2_firstJob prog_4_method_6_code 1 (Option.some FieldType.int) ∈ lw_gt := in_g (in_t2 (List.mem_of_getElem? (i := 174) rfl)) rfl
theorem wM_X2_74 : Cond.methodLink RX2 74 yX3_jobAt ∈ lw_gt := in_g (in_t2 (List.mem_of_getElem? (i := 175) rfl)) rfl
theorem wM_X2_78 : Cond.methodLink RX2 78 yX2_madeOf ∈ lw_gt := in_g (in_t2 (List.mem_of_getElem? (i := 176) rfl)) rfl
theorem wM_X2_86 : Cond.methodLink RX2 86 yX1_sidesOf ∈ lw_gt := in_g (in_t2 (List.mem_of_getElem? (i := 177) rfl)) rfl
theorem wI_X1_sidesOf : Cond.instanceMethod yX1_sidesOf ∈ lw_gt := in_g (in_t2 (List.mem_of_getElem? (i := 178) rfl)) rfl
theorem wS_X1_sidesOf : Cond.selects RX1 yX1_sidesOf yX1_sidesOf ∈ lw_gt := in_g (in_t2 (List.mem_of_getElem? (i := 179) rfl)) rfl
theorem wC_X1_sidesOf : Cond.code yX1_sidesOf prog_3_method_10_code 2 (Option.some FieldType.int) ∈ lw_gt := in_g (in_t2 (List.mem_of_getElem? (i := 180) rfl)) rfl
theorem wM_X1_46 : Cond.methodLink RX1 46 yX1_backOf ∈ lw_gt := in_g (in_t2 (List.mem_of_getElem? (i := 181) rfl)) rfl
theorem wI_X1_backOf : Cond.instanceMethod yX1_backOf ∈ lw_gt := in_g (in_t2 (List.mem_of_getElem? (i := 182) rfl)) rfl
theorem wS_X1_backOf : Cond.selects RX1 yX1_backOf yX1_backOf ∈ lw_gt := in_g (in_t2 (List.mem_of_getElem? (i := 183) rfl)) rfl
theorem wC_X1_backOf : Cond.code yX1_backOf prog_3_method_9_code 3 (Option.some FieldType.int) ∈ lw_gt := in_g (in_t2 (List.mem_of_getElem? (i := 184) rfl)) rfl
theorem wM_X1_42 : Cond.methodLink RX1 42 yX1_leafOf ∈ lw_gt := in_g (in_t2 (List.mem_of_getElem? (i := 185) rfl)) rfl
theorem wI_X1_leafOf : Cond.instanceMethod yX1_leafOf ∈ lw_gt := in_g (in_t2 (List.mem_of_getElem? (i := 186) rfl)) rfl
theorem wS_X1_leafOf : Cond.selects RX1 yX1_leafOf yX1_leafOf ∈ lw_gt := in_g (in_t2 (List.mem_of_getElem? (i := 187) rfl)) rfl
theorem wC_X1_leafOf : Cond.code yX1_leafOf prog_3_method_7_code 2 (Option.some FieldType.int) ∈ lw_gt := in_g (in_t2 (List.mem_of_getElem? (i := 188) rfl)) rfl
theorem wM_X2_89 : Cond.methodLink RX2 89 yX3_binOf ∈ lw_gt := in_g (in_t2 (List.mem_of_getElem? (i := 189) rfl)) rfl
theorem wI_X3_binOf : Cond.instanceMethod yX3_binOf ∈ lw_gt := in_g (in_t2 (List.mem_of_getElem? (i := 190) rfl)) rfl
theorem wS_X3_binOf : Cond.selects RX3 yX3_binOf yX3_binOf ∈ lw_gt := in_g (in_t2 (List.mem_of_getElem? (i := 191) rfl)) rfl
theorem wC_X3_binOf : Cond.code yX3_binOf prog_5_method_5_code 4 (Option.some FieldType.int) ∈ lw_gt := in_g (in_t2 (List.mem_of_getElem? (i := 192) rfl)) rfl
theorem wM_X3_60 : Cond.methodLink RX3 60 yX1_copyOf ∈ lw_gt := in_g (in_t2 (List.mem_of_getElem? (i := 193) rfl)) rfl
theorem wI_X1_copyOf : Cond.instanceMethod yX1_copyOf ∈ lw_gt := in_g (in_t2 (List.mem_of_getElem? (i := 194) rfl)) rfl
theorem wS_X1_copyOf : Cond.selects RX1 yX1_copyOf yX1_copyOf ∈ lw_gt := in_g (in_t2 (List.mem_of_getElem? (i := 195) rfl)) rfl
theorem wC_X1_copyOf : Cond.code yX1_copyOf prog_3_method_6_code 2 (Option.some FieldType.int) ∈ lw_gt := in_g (in_t2 (List.mem_of_getElem? (i := 196) rfl)) rfl
theorem wM_X3_64 : Cond.methodLink RX3 64 yX1_leafOf ∈ lw_gt := in_g (in_t2 (List.mem_of_getElem? (i := 197) rfl)) rfl
theorem wM_X6_170 : Cond.methodLink RX6 170 yX2_passTick ∈ lw_gt := in_g (in_t2 (List.mem_of_getElem? (i := 198) rfl)) rfl
theorem wI_X2_passTick : Cond.instanceMethod yX2_passTick ∈ lw_gt := in_g (in_t2 (List.mem_of_getElem? (i := 199) rfl)) rfl
theorem wS_X2_passTick : Cond.selects RX2 yX2_passTick yX2_passTick ∈ lw_gt := in_g (in_t2 (List.mem_of_getElem? (i := 200) rfl)) rfl
theorem wC_X2_passTick : Cond.code yX2_passTick prog_4_method_11_code 4 (Option.some FieldType.boolean) ∈ lw_gt := in_g (in_t2 (List.mem_of_getElem? (i := 201) rfl)) rfl
theorem wM_X2_93 : Cond.methodLink RX2 93 yX2_whyStands ∈ lw_gt := in_g (in_t2 (List.mem_of_getElem? (i := 202) rfl)) rfl
theorem wM_X2_97 : Cond.methodLink RX2 97 yX2_bringSheet ∈ lw_gt := in_g (in_t2 (List.mem_of_getElem? (i := 203) rfl)) rfl
theorem wI_X2_bringSheet : Cond.instanceMethod yX2_bringSheet ∈ lw_gt := in_g (in_t2 (List.mem_of_getElem? (i := 205) rfl)) rfl
theorem wC_X2_bringSheet : Cond.code yX2_bringSheet prog_4_method_12_code 6 (Option.none : Option FieldType) ∈ lw_gt := in_g (in_t2 (List.mem_of_getElem? (i := 206) rfl)) rfl
theorem wO_X2_66 : Cond.methodLinkNest RX2 66 yX6_put "CopierJobs" ∈ lw_nt := in_n (in_t2 (List.mem_of_getElem? (i := 207) rfl)) rfl
theorem wM_X2_101 : Cond.methodLink RX2 101 yX1_all ∈ lw_gt := in_g (in_t2 (List.mem_of_getElem? (i := 208) rfl)) rfl
theorem wM_X2_104 : Cond.methodLink RX2 104 yX2_leaveQueue ∈ lw_gt := in_g (in_t2 (List.mem_of_getElem? (i := 209) rfl)) rfl
theorem wI_X2_leaveQueue : Cond.instanceMethod yX2_leaveQueue ∈ lw_gt := in_g (in_t2 (List.mem_of_getElem? (i := 210) rfl)) rfl
theorem wS_X2_leaveQueue : Cond.selects RX2 yX2_leaveQueue yX2_leaveQueue ∈ lw_gt := in_g (in_t2 (List.mem_of_getElem? (i := 211) rfl)) rfl
theorem wC_X2_leaveQueue : Cond.code yX2_leaveQueue prog_4_method_9_code 4 (Option.none : Option FieldType) ∈ lw_gt := in_g (in_t2 (List.mem_of_getElem? (i := 212) rfl)) rfl
theorem wM_X2_62 : Cond.methodLink RX2 62 yX2_placeOf ∈ lw_gt := in_g (in_t2 (List.mem_of_getElem? (i := 213) rfl)) rfl
theorem wM_X6_119 : Cond.methodLink RX6 119 yX2_leftOf ∈ lw_gt := in_g (in_t2 (List.mem_of_getElem? (i := 214) rfl)) rfl
theorem wI_X2_leftOf : Cond.instanceMethod yX2_leftOf ∈ lw_gt := in_g (in_t2 (List.mem_of_getElem? (i := 215) rfl)) rfl
theorem wS_X2_leftOf : Cond.selects RX2 yX2_leftOf yX2_leftOf ∈ lw_gt := in_g (in_t2 (List.mem_of_getElem? (i := 216) rfl)) rfl
theorem wC_X2_leftOf : Cond.code yX2_leftOf prog_4_method_13_code 6 (Option.some FieldType.int) ∈ lw_gt := in_g (in_t2 (List.mem_of_getElem? (i := 217) rfl)) rfl
theorem wM_L_32 : Cond.methodLink RL 32 yX6_sheet ∈ lw_gt := in_g (in_t2 (List.mem_of_getElem? (i := 218) rfl)) rfl
theorem wI_X6_sheet : Cond.instanceMethod yX6_sheet ∈ lw_gt := in_g (in_t2 (List.mem_of_getElem? (i := 219) rfl)) rfl
theorem wS_X6_sheet : Cond.selects RX6 yX6_sheet yX6_sheet ∈ lw_gt := in_g (in_t2 (List.mem_of_getElem? (i := 220) rfl)) rfl
theorem wC_X6_sheet : Cond.code yX6_sheet prog_1_method_6_code 5 (Option.some FieldType.int) ∈ lw_gt := in_g (in_t2 (List.mem_of_getElem? (i := 221) rfl)) rfl
theorem wM_X6_123 : Cond.methodLink RX6 123 yX1_hasSheet ∈ lw_gt := in_g (in_t2 (List.mem_of_getElem? (i := 222) rfl)) rfl
theorem wI_X1_hasSheet : Cond.instanceMethod yX1_hasSheet ∈ lw_gt := in_g (in_t2 (List.mem_of_getElem? (i := 223) rfl)) rfl
theorem wS_X1_hasSheet : Cond.selects RX1 yX1_hasSheet yX1_hasSheet ∈ lw_gt := in_g (in_t2 (List.mem_of_getElem? (i := 224) rfl)) rfl
theorem wC_X1_hasSheet : Cond.code yX1_hasSheet prog_3_method_4_code 2 (Option.some FieldType.boolean) ∈ lw_gt := in_g (in_t2 (List.mem_of_getElem? (i := 225) rfl)) rfl
theorem wM_X1_38 : Cond.methodLink RX1 38 yX1_all ∈ lw_gt := in_g (in_t2 (List.mem_of_getElem? (i := 226) rfl)) rfl
theorem wM_X6_127 : Cond.methodLink RX6 127 yX1_copyOf ∈ lw_gt := in_g (in_t2 (List.mem_of_getElem? (i := 227) rfl)) rfl
theorem wM_X6_130 : Cond.methodLink RX6 130 yX1_frontOf ∈ lw_gt := in_g (in_t2 (List.mem_of_getElem? (i := 228) rfl)) rfl
theorem wI_X1_frontOf : Cond.instanceMethod yX1_frontOf ∈ lw_gt := in_g (in_t2 (List.mem_of_getElem? (i := 229) rfl)) rfl
theorem wS_X1_frontOf : Cond.selects RX1 yX1_frontOf yX1_frontOf ∈ lw_gt := in_g (in_t2 (List.mem_of_getElem? (i := 230) rfl)) rfl
theorem wC_X1_frontOf : Cond.code yX1_frontOf prog_3_method_8_code 2 (Option.some FieldType.int) ∈ lw_gt := in_g (in_t2 (List.mem_of_getElem? (i := 231) rfl)) rfl
theorem wM_X6_133 : Cond.methodLink RX6 133 yX1_backOf ∈ lw_gt := in_g (in_t2 (List.mem_of_getElem? (i := 232) rfl)) rfl
theorem wM_X6_136 : Cond.methodLink RX6 136 yX3_binOf ∈ lw_gt := in_g (in_t2 (List.mem_of_getElem? (i := 233) rfl)) rfl
theorem wM_L_37 : Cond.methodLink RL 37 yX6_where ∈ lw_gt := in_g (in_t2 (List.mem_of_getElem? (i := 234) rfl)) rfl
theorem wI_X6_where : Cond.instanceMethod yX6_where ∈ lw_gt := in_g (in_t2 (List.mem_of_getElem? (i := 235) rfl)) rfl
theorem wS_X6_where : Cond.selects RX6 yX6_where yX6_where ∈ lw_gt := in_g (in_t2 (List.mem_of_getElem? (i := 236) rfl)) rfl
theorem wC_X6_where : Cond.code yX6_where prog_1_method_7_code 5 (Option.some FieldType.int) ∈ lw_gt := in_g (in_t2 (List.mem_of_getElem? (i := 237) rfl)) rfl
theorem wM_X6_140 : Cond.methodLink RX6 140 yX1_hasPage ∈ lw_gt := in_g (in_t2 (List.mem_of_getElem? (i := 238) rfl)) rfl
theorem wI_X1_hasPage : Cond.instanceMethod yX1_hasPage ∈ lw_gt := in_g (in_t2 (List.mem_of_getElem? (i := 239) rfl)) rfl
theorem wS_X1_hasPage : Cond.selects RX1 yX1_hasPage yX1_hasPage ∈ lw_gt := in_g (in_t3 (List.mem_of_getElem? (i := 0) rfl)) rfl
theorem wC_X1_hasPage : Cond.code yX1_hasPage prog_3_method_5_code 2 (Option.some FieldType.boolean) ∈ lw_gt := in_g (in_t3 (List.mem_of_getElem? (i := 1) rfl)) rfl
theorem wM_X6_143 : Cond.methodLink RX6 143 yX1_sheetWith ∈ lw_gt := in_g (in_t3 (List.mem_of_getElem? (i := 2) rfl)) rfl
theorem wI_X1_sheetWith : Cond.instanceMethod yX1_sheetWith ∈ lw_gt := in_g (in_t3 (List.mem_of_getElem? (i := 3) rfl)) rfl
theorem wS_X1_sheetWith : Cond.selects RX1 yX1_sheetWith yX1_sheetWith ∈ lw_gt := in_g (in_t3 (List.mem_of_getElem? (i := 4) rfl)) rfl
theorem wC_X1_sheetWith : Cond.code yX1_sheetWith prog_3_method_11_code 4 (Option.some FieldType.int) ∈ lw_gt := in_g (in_t3 (List.mem_of_getElem? (i := 5) rfl)) rfl
theorem wM_L_41 : Cond.methodLink RL 41 yX6_tray ∈ lw_gt := in_g (in_t3 (List.mem_of_getElem? (i := 6) rfl)) rfl
theorem wI_X6_tray : Cond.instanceMethod yX6_tray ∈ lw_gt := in_g (in_t3 (List.mem_of_getElem? (i := 7) rfl)) rfl
theorem wS_X6_tray : Cond.selects RX6 yX6_tray yX6_tray ∈ lw_gt := in_g (in_t3 (List.mem_of_getElem? (i := 8) rfl)) rfl
theorem wC_X6_tray : Cond.code yX6_tray prog_1_method_8_code 3 (Option.some FieldType.int) ∈ lw_gt := in_g (in_t3 (List.mem_of_getElem? (i := 9) rfl)) rfl
theorem wM_X6_151 : Cond.methodLink RX6 151 yX6_at ∈ lw_gt := in_g (in_t3 (List.mem_of_getElem? (i := 10) rfl)) rfl
theorem wM_X6_155 : Cond.methodLink RX6 155 yX2_trayWants ∈ lw_gt := in_g (in_t3 (List.mem_of_getElem? (i := 11) rfl)) rfl
theorem wI_X2_trayWants : Cond.instanceMethod yX2_trayWants ∈ lw_gt := in_g (in_t3 (List.mem_of_getElem? (i := 12) rfl)) rfl
theorem wS_X2_trayWants : Cond.selects RX2 yX2_trayWants yX2_trayWants ∈ lw_gt := in_g (in_t3 (List.mem_of_getElem? (i := 13) rfl)) rfl
theorem wC_X2_trayWants : Cond.code yX2_trayWants prog_4_method_15_code 7 (Option.some FieldType.int) ∈ lw_gt := in_g (in_t3 (List.mem_of_getElem? (i := 14) rfl)) rfl
theorem wM_X2_108 : Cond.methodLink RX2 108 yJ9_max_7cf53 ∈ lw_gt := in_g (in_t3 (List.mem_of_getElem? (i := 15) rfl)) rfl
theorem wT_J9_max_7cf53 : Cond.static yJ9_max_7cf53 ∈ lw_gt := in_g (in_t3 (List.mem_of_getElem? (i := 16) rfl)) rfl
theorem wC_J9_max_7cf53 : Cond.code yJ9_max_7cf53 prog_11_method_65_code 2 (Option.some FieldType.int) ∈ lw_gt := in_g (in_t3 (List.mem_of_getElem? (i := 17) rfl)) rfl
theorem wM_L_45 : Cond.methodLink RL 45 yX6_bin ∈ lw_gt := in_g (in_t3 (List.mem_of_getElem? (i := 18) rfl)) rfl
theorem wI_X6_bin : Cond.instanceMethod yX6_bin ∈ lw_gt := in_g (in_t3 (List.mem_of_getElem? (i := 19) rfl)) rfl
theorem wS_X6_bin : Cond.selects RX6 yX6_bin yX6_bin ∈ lw_gt := in_g (in_t3 (List.mem_of_getElem? (i := 20) rfl)) rfl
theorem wC_X6_bin : Cond.code yX6_bin prog_1_method_9_code 2 (Option.some FieldType.int) ∈ lw_gt := in_g (in_t3 (List.mem_of_getElem? (i := 21) rfl)) rfl
theorem wM_X6_158 : Cond.methodLink RX6 158 yX3_hasBin ∈ lw_gt := in_g (in_t3 (List.mem_of_getElem? (i := 22) rfl)) rfl
theorem wI_X3_hasBin : Cond.instanceMethod yX3_hasBin ∈ lw_gt := in_g (in_t3 (List.mem_of_getElem? (i := 23) rfl)) rfl
theorem wS_X3_hasBin : Cond.selects RX3 yX3_hasBin yX3_hasBin ∈ lw_gt := in_g (in_t3 (List.mem_of_getElem? (i := 24) rfl)) rfl
theorem wC_X3_hasBin : Cond.code yX3_hasBin prog_5_method_4_code 2 (Option.some FieldType.boolean) ∈ lw_gt := in_g (in_t3 (List.mem_of_getElem? (i := 25) rfl)) rfl
theorem wM_L_49 : Cond.methodLink RL 49 yX6_ticks ∈ lw_gt := in_g (in_t3 (List.mem_of_getElem? (i := 26) rfl)) rfl
theorem wI_X6_ticks : Cond.instanceMethod yX6_ticks ∈ lw_gt := in_g (in_t3 (List.mem_of_getElem? (i := 27) rfl)) rfl
theorem wS_X6_ticks : Cond.selects RX6 yX6_ticks yX6_ticks ∈ lw_gt := in_g (in_t3 (List.mem_of_getElem? (i := 28) rfl)) rfl
theorem wC_X6_ticks : Cond.code yX6_ticks prog_1_method_10_code 4 (Option.some FieldType.int) ∈ lw_gt := in_g (in_t3 (List.mem_of_getElem? (i := 29) rfl)) rfl
theorem wM_X6_167 : Cond.methodLink RX6 167 yX0_remember ∈ lw_gt := in_g (in_t3 (List.mem_of_getElem? (i := 30) rfl)) rfl
theorem wI_X0_remember : Cond.instanceMethod yX0_remember ∈ lw_gt := in_g (in_t3 (List.mem_of_getElem? (i := 31) rfl)) rfl
theorem wS_X0_remember : Cond.selects RX0 yX0_remember yX0_remember ∈ lw_gt := in_g (in_t3 (List.mem_of_getElem? (i := 32) rfl)) rfl
theorem wC_X0_remember : Cond.code yX0_remember prog_2_method_4_code 2 (Option.none : Option FieldType) ∈ lw_gt := in_g (in_t3 (List.mem_of_getElem? (i := 33) rfl)) rfl
theorem wM_X0_33 : Cond.methodLink RX0 33 yJ9_floorMod_7cf53 ∈ lw_gt := in_g (in_t3 (List.mem_of_getElem? (i := 34) rfl)) rfl
theorem wT_J9_floorMod_7cf53 : Cond.static yJ9_floorMod_7cf53 ∈ lw_gt := in_g (in_t3 (List.mem_of_getElem? (i := 35) rfl)) rfl
theorem wC_J9_floorMod_7cf53 : Cond.code yJ9_floorMod_7cf53 prog_11_method_50_code 3 (Option.some FieldType.int) ∈ lw_gt := in_g (in_t3 (List.mem_of_getElem? (i := 36) rfl)) rfl
theorem wM_X0_39 : Cond.methodLink RX0 39 yX0_knownAt ∈ lw_gt := in_g (in_t3 (List.mem_of_getElem? (i := 37) rfl)) rfl
theorem wI_X0_knownAt : Cond.instanceMethod yX0_knownAt ∈ lw_gt := in_g (in_t3 (List.mem_of_getElem? (i := 39) rfl)) rfl
theorem wC_X0_knownAt : Cond.code yX0_knownAt prog_2_method_3_code 3 (Option.some (FieldType.object "CopierJobs$Now")) ∈ lw_gt := in_g (in_t3 (List.mem_of_getElem? (i := 40) rfl)) rfl
theorem wM_X0_43 : Cond.methodLink RX0 43 yX2_copyFrom ∈ lw_gt := in_g (in_t3 (List.mem_of_getElem? (i := 41) rfl)) rfl
theorem wM_L_53 : Cond.methodLink RL 53 yX6_ahead ∈ lw_gt := in_g (in_t3 (List.mem_of_getElem? (i := 42) rfl)) rfl
theorem wI_X6_ahead : Cond.instanceMethod yX6_ahead ∈ lw_gt := in_g (in_t3 (List.mem_of_getElem? (i := 43) rfl)) rfl
theorem wS_X6_ahead : Cond.selects RX6 yX6_ahead yX6_ahead ∈ lw_gt := in_g (in_t3 (List.mem_of_getElem? (i := 44) rfl)) rfl
theorem wC_X6_ahead : Cond.code yX6_ahead prog_1_method_11_code 4 (Option.some FieldType.int) ∈ lw_gt := in_g (in_t3 (List.mem_of_getElem? (i := 45) rfl)) rfl
theorem wM_X6_174 : Cond.methodLink RX6 174 yX2_firstJob ∈ lw_gt := in_g (in_t3 (List.mem_of_getElem? (i := 46) rfl)) rfl
theorem wM_X6_177 : Cond.methodLink RX6 177 yX2_comeToHead ∈ lw_gt := in_g (in_t3 (List.mem_of_getElem? (i := 47) rfl)) rfl
theorem wI_X2_comeToHead : Cond.instanceMethod yX2_comeToHead ∈ lw_gt := in_g (in_t3 (List.mem_of_getElem? (i := 48) rfl)) rfl
theorem wS_X2_comeToHead : Cond.selects RX2 yX2_comeToHead yX2_comeToHead ∈ lw_gt := in_g (in_t3 (List.mem_of_getElem? (i := 49) rfl)) rfl
theorem wC_X2_comeToHead : Cond.code yX2_comeToHead prog_4_method_8_code 3 (Option.none : Option FieldType) ∈ lw_gt := in_g (in_t3 (List.mem_of_getElem? (i := 50) rfl)) rfl
theorem wM_L_57 : Cond.methodLink RL 57 yX6_breaks ∈ lw_gt := in_g (in_t3 (List.mem_of_getElem? (i := 51) rfl)) rfl
theorem wI_X6_breaks : Cond.instanceMethod yX6_breaks ∈ lw_gt := in_g (in_t3 (List.mem_of_getElem? (i := 52) rfl)) rfl
theorem wS_X6_breaks : Cond.selects RX6 yX6_breaks yX6_breaks ∈ lw_gt := in_g (in_t3 (List.mem_of_getElem? (i := 53) rfl)) rfl
theorem wC_X6_breaks : Cond.code yX6_breaks prog_1_method_12_code 2 (Option.some FieldType.int) ∈ lw_gt := in_g (in_t3 (List.mem_of_getElem? (i := 54) rfl)) rfl
theorem wM_X6_181 : Cond.methodLink RX6 181 yX2_leaveQueue ∈ lw_gt := in_g (in_t3 (List.mem_of_getElem? (i := 55) rfl)) rfl
theorem wM_L_61 : Cond.methodLink RL 61 yX6_fills ∈ lw_gt := in_g (in_t3 (List.mem_of_getElem? (i := 56) rfl)) rfl
theorem wI_X6_fills : Cond.instanceMethod yX6_fills ∈ lw_gt := in_g (in_t3 (List.mem_of_getElem? (i := 57) rfl)) rfl
theorem wS_X6_fills : Cond.selects RX6 yX6_fills yX6_fills ∈ lw_gt := in_g (in_t3 (List.mem_of_getElem? (i := 58) rfl)) rfl
theorem wC_X6_fills : Cond.code yX6_fills prog_1_method_13_code 4 (Option.some FieldType.int) ∈ lw_gt := in_g (in_t3 (List.mem_of_getElem? (i := 59) rfl)) rfl
theorem wM_X6_187 : Cond.methodLink RX6 187 yJ9_min_7cf53 ∈ lw_gt := in_g (in_t3 (List.mem_of_getElem? (i := 60) rfl)) rfl
theorem wM_X6_192 : Cond.methodLink RX6 192 yX6_put ∈ lw_gt := in_g (in_t3 (List.mem_of_getElem? (i := 61) rfl)) rfl
theorem wM_L_65 : Cond.methodLink RL 65 yX6_toner ∈ lw_gt := in_g (in_t3 (List.mem_of_getElem? (i := 62) rfl)) rfl
theorem wI_X6_toner : Cond.instanceMethod yX6_toner ∈ lw_gt := in_g (in_t3 (List.mem_of_getElem? (i := 63) rfl)) rfl
theorem wS_X6_toner : Cond.selects RX6 yX6_toner yX6_toner ∈ lw_gt := in_g (in_t3 (List.mem_of_getElem? (i := 64) rfl)) rfl
theorem wC_X6_toner : Cond.code yX6_toner prog_1_method_14_code 2 (Option.some FieldType.int) ∈ lw_gt := in_g (in_t3 (List.mem_of_getElem? (i := 65) rfl)) rfl
theorem wM_L_69 : Cond.methodLink RL 69 yX6_empties ∈ lw_gt := in_g (in_t3 (List.mem_of_getElem? (i := 66) rfl)) rfl
theorem wI_X6_empties : Cond.instanceMethod yX6_empties ∈ lw_gt := in_g (in_t3 (List.mem_of_getElem? (i := 67) rfl)) rfl
theorem wS_X6_empties : Cond.selects RX6 yX6_empties yX6_empties ∈ lw_gt := in_g (in_t3 (List.mem_of_getElem? (i := 68) rfl)) rfl
theorem wC_X6_empties : Cond.code yX6_empties prog_1_method_15_code 3 (Option.some FieldType.int) ∈ lw_gt := in_g (in_t3 (List.mem_of_getElem? (i := 69) rfl)) rfl
theorem wM_L_73 : Cond.methodLink RL 73 yX6_undo ∈ lw_gt := in_g (in_t3 (List.mem_of_getElem? (i := 70) rfl)) rfl
theorem wI_X6_undo : Cond.instanceMethod yX6_undo ∈ lw_gt := in_g (in_t3 (List.mem_of_getElem? (i := 71) rfl)) rfl
theorem wS_X6_undo : Cond.selects RX6 yX6_undo yX6_undo ∈ lw_gt := in_g (in_t3 (List.mem_of_getElem? (i := 72) rfl)) rfl
theorem wC_X6_undo : Cond.code yX6_undo prog_1_method_16_code 1 (Option.some FieldType.int) ∈ lw_gt := in_g (in_t3 (List.mem_of_getElem? (i := 73) rfl)) rfl
theorem wM_X6_202 : Cond.methodLink RX6 202 yX0_takeBack ∈ lw_gt := in_g (in_t3 (List.mem_of_getElem? (i := 74) rfl)) rfl
theorem wI_X0_takeBack : Cond.instanceMethod yX0_takeBack ∈ lw_gt := in_g (in_t3 (List.mem_of_getElem? (i := 75) rfl)) rfl
theorem wS_X0_takeBack : Cond.selects RX0 yX0_takeBack yX0_takeBack ∈ lw_gt := in_g (in_t3 (List.mem_of_getElem? (i := 76) rfl)) rfl
theorem wC_X0_takeBack : Cond.code yX0_takeBack prog_2_method_5_code 2 (Option.none : Option FieldType) ∈ lw_gt := in_g (in_t3 (List.mem_of_getElem? (i := 77) rfl)) rfl
theorem wM_L_77 : Cond.methodLink RL 77 yX6_now ∈ lw_gt := in_g (in_t3 (List.mem_of_getElem? (i := 78) rfl)) rfl
theorem wI_X6_now : Cond.instanceMethod yX6_now ∈ lw_gt := in_g (in_t3 (List.mem_of_getElem? (i := 79) rfl)) rfl
theorem wS_X6_now : Cond.selects RX6 yX6_now yX6_now ∈ lw_gt := in_g (in_t3 (List.mem_of_getElem? (i := 80) rfl)) rfl
theorem wC_X6_now : Cond.code yX6_now prog_1_method_17_code 3 (Option.some FieldType.int) ∈ lw_gt := in_g (in_t3 (List.mem_of_getElem? (i := 81) rfl)) rfl
theorem wM_X6_212 : Cond.methodLink RX6 212 yX2_sheetsInBins ∈ lw_gt := in_g (in_t3 (List.mem_of_getElem? (i := 82) rfl)) rfl
theorem wI_X2_sheetsInBins : Cond.instanceMethod yX2_sheetsInBins ∈ lw_gt := in_g (in_t3 (List.mem_of_getElem? (i := 83) rfl)) rfl
theorem wS_X2_sheetsInBins : Cond.selects RX2 yX2_sheetsInBins yX2_sheetsInBins ∈ lw_gt := in_g (in_t3 (List.mem_of_getElem? (i := 84) rfl)) rfl
theorem wC_X2_sheetsInBins : Cond.code yX2_sheetsInBins prog_4_method_14_code 3 (Option.some FieldType.int) ∈ lw_gt := in_g (in_t3 (List.mem_of_getElem? (i := 85) rfl)) rfl
theorem wM_X6_215 : Cond.methodLink RX6 215 yX2_tonerWants ∈ lw_gt := in_g (in_t3 (List.mem_of_getElem? (i := 86) rfl)) rfl
theorem wI_X2_tonerWants : Cond.instanceMethod yX2_tonerWants ∈ lw_gt := in_g (in_t3 (List.mem_of_getElem? (i := 87) rfl)) rfl
theorem wS_X2_tonerWants : Cond.selects RX2 yX2_tonerWants yX2_tonerWants ∈ lw_gt := in_g (in_t3 (List.mem_of_getElem? (i := 88) rfl)) rfl
theorem wC_X2_tonerWants : Cond.code yX2_tonerWants prog_4_method_16_code 4 (Option.some FieldType.int) ∈ lw_gt := in_g (in_t3 (List.mem_of_getElem? (i := 89) rfl)) rfl
theorem wM_X2_114 : Cond.methodLink RX2 114 yX2_leftOf ∈ lw_gt := in_g (in_t3 (List.mem_of_getElem? (i := 90) rfl)) rfl
theorem wM_L_81 : Cond.methodLink RL 81 yX6_soon ∈ lw_gt := in_g (in_t3 (List.mem_of_getElem? (i := 91) rfl)) rfl
theorem wI_X6_soon : Cond.instanceMethod yX6_soon ∈ lw_gt := in_g (in_t3 (List.mem_of_getElem? (i := 92) rfl)) rfl
theorem wS_X6_soon : Cond.selects RX6 yX6_soon yX6_soon ∈ lw_gt := in_g (in_t3 (List.mem_of_getElem? (i := 93) rfl)) rfl
theorem wC_X6_soon : Cond.code yX6_soon prog_1_method_18_code 8 (Option.some FieldType.int) ∈ lw_gt := in_g (in_t3 (List.mem_of_getElem? (i := 94) rfl)) rfl
theorem wM_X6_218 : Cond.methodLink RX6 218 yX6_shortestBut ∈ lw_gt := in_g (in_t3 (List.mem_of_getElem? (i := 95) rfl)) rfl
theorem wI_X6_shortestBut : Cond.instanceMethod yX6_shortestBut ∈ lw_gt := in_g (in_t3 (List.mem_of_getElem? (i := 97) rfl)) rfl
theorem wC_X6_shortestBut : Cond.code yX6_shortestBut prog_1_method_30_code 6 (Option.some FieldType.int) ∈ lw_gt := in_g (in_t3 (List.mem_of_getElem? (i := 98) rfl)) rfl
theorem wM_L_85 : Cond.methodLink RL 85 yX6_odds ∈ lw_gt := in_g (in_t3 (List.mem_of_getElem? (i := 99) rfl)) rfl
theorem wI_X6_odds : Cond.instanceMethod yX6_odds ∈ lw_gt := in_g (in_t3 (List.mem_of_getElem? (i := 100) rfl)) rfl
theorem wS_X6_odds : Cond.selects RX6 yX6_odds yX6_odds ∈ lw_gt := in_g (in_t3 (List.mem_of_getElem? (i := 101) rfl)) rfl
theorem wC_X6_odds : Cond.code yX6_odds prog_1_method_19_code 9 (Option.some FieldType.int) ∈ lw_gt := in_g (in_t3 (List.mem_of_getElem? (i := 102) rfl)) rfl
theorem wM_X6_221 : Cond.methodLink RX6 221 yX6_choose ∈ lw_gt := in_g (in_t3 (List.mem_of_getElem? (i := 103) rfl)) rfl
theorem wT_X6_choose : Cond.static yX6_choose ∈ lw_gt := in_g (in_t3 (List.mem_of_getElem? (i := 104) rfl)) rfl
theorem wC_X6_choose : Cond.code yX6_choose prog_1_method_36_code 5 (Option.some FieldType.int) ∈ lw_gt := in_g (in_t3 (List.mem_of_getElem? (i := 105) rfl)) rfl
theorem wM_X6_224 : Cond.methodLink RX6 224 yX6_commonDivisor ∈ lw_gt := in_g (in_t3 (List.mem_of_getElem? (i := 106) rfl)) rfl
theorem wT_X6_commonDivisor : Cond.static yX6_commonDivisor ∈ lw_gt := in_g (in_t3 (List.mem_of_getElem? (i := 107) rfl)) rfl
theorem wC_X6_commonDivisor : Cond.code yX6_commonDivisor prog_1_method_37_code 6 (Option.some FieldType.int) ∈ lw_gt := in_g (in_t3 (List.mem_of_getElem? (i := 108) rfl)) rfl
theorem wM_X6_289 : Cond.methodLink RX6 289 yJ9_abs_0f7a4 ∈ lw_gt := in_g (in_t3 (List.mem_of_getElem? (i := 109) rfl)) rfl
theorem wT_J9_abs_0f7a4 : Cond.static yJ9_abs_0f7a4 ∈ lw_gt := in_g (in_t3 (List.mem_of_getElem? (i := 110) rfl)) rfl
theorem wC_J9_abs_0f7a4 : Cond.code yJ9_abs_0f7a4 prog_11_method_59_code 1 (Option.some FieldType.int) ∈ lw_gt := in_g (in_t3 (List.mem_of_getElem? (i := 111) rfl)) rfl
theorem wM_L_90 : Cond.methodLink RL 90 yX6_sees ∈ lw_gt := in_g (in_t3 (List.mem_of_getElem? (i := 112) rfl)) rfl
theorem wI_X6_sees : Cond.instanceMethod yX6_sees ∈ lw_gt := in_g (in_t3 (List.mem_of_getElem? (i := 113) rfl)) rfl
theorem wS_X6_sees : Cond.selects RX6 yX6_sees yX6_sees ∈ lw_gt := in_g (in_t3 (List.mem_of_getElem? (i := 114) rfl)) rfl
theorem wC_X6_sees : Cond.code yX6_sees prog_1_method_20_code 4 (Option.some FieldType.int) ∈ lw_gt := in_g (in_t3 (List.mem_of_getElem? (i := 115) rfl)) rfl
theorem wM_X6_230 : Cond.methodLink RX6 230 yX4_add ∈ lw_gt := in_g (in_t3 (List.mem_of_getElem? (i := 116) rfl)) rfl
theorem wI_X4_add : Cond.instanceMethod yX4_add ∈ lw_gt := in_g (in_t3 (List.mem_of_getElem? (i := 117) rfl)) rfl
theorem wS_X4_add : Cond.selects RX4 yX4_add yX4_add ∈ lw_gt := in_g (in_t3 (List.mem_of_getElem? (i := 118) rfl)) rfl
theorem wC_X4_add : Cond.code yX4_add prog_6_method_2_code 4 (Option.some FieldType.int) ∈ lw_gt := in_g (in_t3 (List.mem_of_getElem? (i := 119) rfl)) rfl
theorem wO_X4_28 : Cond.methodLinkNest RX4 28 yX6_put "CopierJobs" ∈ lw_nt := in_n (in_t3 (List.mem_of_getElem? (i := 120) rfl)) rfl
theorem wM_L_94 : Cond.methodLink RL 94 yX6_forget ∈ lw_gt := in_g (in_t3 (List.mem_of_getElem? (i := 121) rfl)) rfl
theorem wI_X6_forget : Cond.instanceMethod yX6_forget ∈ lw_gt := in_g (in_t3 (List.mem_of_getElem? (i := 122) rfl)) rfl
theorem wS_X6_forget : Cond.selects RX6 yX6_forget yX6_forget ∈ lw_gt := in_g (in_t3 (List.mem_of_getElem? (i := 123) rfl)) rfl
theorem wC_X6_forget : Cond.code yX6_forget prog_1_method_21_code 1 (Option.some FieldType.int) ∈ lw_gt := in_g (in_t3 (List.mem_of_getElem? (i := 124) rfl)) rfl
theorem wM_L_98 : Cond.methodLink RL 98 yX6_whose ∈ lw_gt := in_g (in_t3 (List.mem_of_getElem? (i := 125) rfl)) rfl
theorem wI_X6_whose : Cond.instanceMethod yX6_whose ∈ lw_gt := in_g (in_t3 (List.mem_of_getElem? (i := 126) rfl)) rfl
theorem wS_X6_whose : Cond.selects RX6 yX6_whose yX6_whose ∈ lw_gt := in_g (in_t3 (List.mem_of_getElem? (i := 127) rfl)) rfl
theorem wC_X6_whose : Cond.code yX6_whose prog_1_method_22_code 4 (Option.some FieldType.int) ∈ lw_gt := in_g (in_t3 (List.mem_of_getElem? (i := 128) rfl)) rfl
theorem wM_X6_236 : Cond.methodLink RX6 236 yX4_fits ∈ lw_gt := in_g (in_t3 (List.mem_of_getElem? (i := 129) rfl)) rfl
theorem wI_X4_fits : Cond.instanceMethod yX4_fits ∈ lw_gt := in_g (in_t3 (List.mem_of_getElem? (i := 130) rfl)) rfl
theorem wS_X4_fits : Cond.selects RX4 yX4_fits yX4_fits ∈ lw_gt := in_g (in_t3 (List.mem_of_getElem? (i := 131) rfl)) rfl
theorem wC_X4_fits : Cond.code yX4_fits prog_6_method_4_code 5 (Option.some FieldType.boolean) ∈ lw_gt := in_g (in_t3 (List.mem_of_getElem? (i := 132) rfl)) rfl
theorem wO_X4_32 : Cond.methodLinkNest RX4 32 yX6_at "CopierJobs" ∈ lw_nt := in_n (in_t3 (List.mem_of_getElem? (i := 133) rfl)) rfl
theorem wM_X4_36 : Cond.methodLink RX4 36 yX1_hasSheet ∈ lw_gt := in_g (in_t3 (List.mem_of_getElem? (i := 134) rfl)) rfl
theorem wM_X4_42 : Cond.methodLink RX4 42 yX1_frontOf ∈ lw_gt := in_g (in_t3 (List.mem_of_getElem? (i := 135) rfl)) rfl
theorem wM_L_102 : Cond.methodLink RL 102 yX6_look ∈ lw_gt := in_g (in_t3 (List.mem_of_getElem? (i := 136) rfl)) rfl
theorem wI_X6_look : Cond.instanceMethod yX6_look ∈ lw_gt := in_g (in_t3 (List.mem_of_getElem? (i := 137) rfl)) rfl
theorem wS_X6_look : Cond.selects RX6 yX6_look yX6_look ∈ lw_gt := in_g (in_t3 (List.mem_of_getElem? (i := 138) rfl)) rfl
theorem wC_X6_look : Cond.code yX6_look prog_1_method_23_code 9 (Option.some FieldType.int) ∈ lw_gt := in_g (in_t3 (List.mem_of_getElem? (i := 139) rfl)) rfl
theorem wM_X6_240 : Cond.methodLink RX6 240 yX6_whose ∈ lw_gt := in_g (in_t3 (List.mem_of_getElem? (i := 140) rfl)) rfl
theorem wM_X6_243 : Cond.methodLink RX6 243 yJ6_bitCount_0f7a4 ∈ lw_gt := in_g (in_t3 (List.mem_of_getElem? (i := 141) rfl)) rfl
theorem wT_J6_bitCount_0f7a4 : Cond.static yJ6_bitCount_0f7a4 ∈ lw_gt := in_g (in_t3 (List.mem_of_getElem? (i := 142) rfl)) rfl
theorem wC_J6_bitCount_0f7a4 : Cond.code yJ6_bitCount_0f7a4 prog_10_method_49_code 1 (Option.some FieldType.int) ∈ lw_gt := in_g (in_t3 (List.mem_of_getElem? (i := 143) rfl)) rfl
theorem wV_J6_265 : Cond.constant RJ6 265 (1431655765 : Int32) ∈ lw_gt := in_g (in_t3 (List.mem_of_getElem? (i := 144) rfl)) rfl
theorem wV_J6_266 : Cond.constant RJ6 266 (858993459 : Int32) ∈ lw_gt := in_g (in_t3 (List.mem_of_getElem? (i := 145) rfl)) rfl
theorem wV_J6_267 : Cond.constant RJ6 267 (252645135 : Int32) ∈ lw_gt := in_g (in_t3 (List.mem_of_getElem? (i := 146) rfl)) rfl
theorem wM_X6_248 : Cond.methodLink RX6 248 yX4_countFronts ∈ lw_gt := in_g (in_t3 (List.mem_of_getElem? (i := 147) rfl)) rfl
theorem wI_X4_countFronts : Cond.instanceMethod yX4_countFronts ∈ lw_gt := in_g (in_t3 (List.mem_of_getElem? (i := 148) rfl)) rfl
theorem wS_X4_countFronts : Cond.selects RX4 yX4_countFronts yX4_countFronts ∈ lw_gt := in_g (in_t3 (List.mem_of_getElem? (i := 149) rfl)) rfl
theorem wC_X4_countFronts : Cond.code yX4_countFronts prog_6_method_5_code 7 (Option.none : Option FieldType) ∈ lw_gt := in_g (in_t3 (List.mem_of_getElem? (i := 150) rfl)) rfl
theorem wM_X4_46 : Cond.methodLink RX4 46 yJ7_fill_53178 ∈ lw_gt := in_g (in_t3 (List.mem_of_getElem? (i := 151) rfl)) rfl
theorem wM_X4_52 : Cond.methodLink RX4 52 yX3_jobAt ∈ lw_gt := in_g (in_t3 (List.mem_of_getElem? (i := 152) rfl)) rfl
theorem wM_X6_255 : Cond.methodLink RX6 255 yJ9_max_7cf53 ∈ lw_gt := in_g (in_t3 (List.mem_of_getElem? (i := 153) rfl)) rfl
theorem wM_L_106 : Cond.methodLink RL 106 yX6_mark ∈ lw_gt := in_g (in_t3 (List.mem_of_getElem? (i := 154) rfl)) rfl
theorem wI_X6_mark : Cond.instanceMethod yX6_mark ∈ lw_gt := in_g (in_t3 (List.mem_of_getElem? (i := 155) rfl)) rfl
theorem wS_X6_mark : Cond.selects RX6 yX6_mark yX6_mark ∈ lw_gt := in_g (in_t3 (List.mem_of_getElem? (i := 156) rfl)) rfl
theorem wC_X6_mark : Cond.code yX6_mark prog_1_method_24_code 4 (Option.some FieldType.int) ∈ lw_gt := in_g (in_t3 (List.mem_of_getElem? (i := 157) rfl)) rfl
theorem wF_X6_258 : Cond.fieldLink RX6 258 "CopierJobs" "KIND_ABOVE" "[I" ∈ lw_gt := in_g (in_t3 (List.mem_of_getElem? (i := 158) rfl)) rfl
theorem wV_X6_261 : Cond.constant RX6 261 (-1000000 : Int32) ∈ lw_gt := in_g (in_t3 (List.mem_of_getElem? (i := 160) rfl)) rfl
theorem wM_X6_262 : Cond.methodLink RX6 262 yX6_worthAs ∈ lw_gt := in_g (in_t3 (List.mem_of_getElem? (i := 161) rfl)) rfl
theorem wI_X6_worthAs : Cond.instanceMethod yX6_worthAs ∈ lw_gt := in_g (in_t3 (List.mem_of_getElem? (i := 163) rfl)) rfl
theorem wC_X6_worthAs : Cond.code yX6_worthAs prog_1_method_31_code 6 (Option.some FieldType.int) ∈ lw_gt := in_g (in_t3 (List.mem_of_getElem? (i := 164) rfl)) rfl
theorem wF_X6_286 : Cond.fieldLink RX6 286 "CopierJobs" "KIND_TRACE" "[I" ∈ lw_gt := in_g (in_t3 (List.mem_of_getElem? (i := 165) rfl)) rfl
theorem wM_L_110 : Cond.methodLink RL 110 yX6_keep ∈ lw_gt := in_g (in_t3 (List.mem_of_getElem? (i := 167) rfl)) rfl
theorem wI_X6_keep : Cond.instanceMethod yX6_keep ∈ lw_gt := in_g (in_t3 (List.mem_of_getElem? (i := 168) rfl)) rfl
theorem wS_X6_keep : Cond.selects RX6 yX6_keep yX6_keep ∈ lw_gt := in_g (in_t3 (List.mem_of_getElem? (i := 169) rfl)) rfl
theorem wC_X6_keep : Cond.code yX6_keep prog_1_method_25_code 3 (Option.some FieldType.int) ∈ lw_gt := in_g (in_t3 (List.mem_of_getElem? (i := 170) rfl)) rfl
theorem wM_X6_266 : Cond.methodLink RX6 266 yX6_imageAt ∈ lw_gt := in_g (in_t3 (List.mem_of_getElem? (i := 171) rfl)) rfl
theorem wI_X6_imageAt : Cond.instanceMethod yX6_imageAt ∈ lw_gt := in_g (in_t3 (List.mem_of_getElem? (i := 173) rfl)) rfl
theorem wC_X6_imageAt : Cond.code yX6_imageAt prog_1_method_32_code 2 (Option.some (FieldType.object "CopierJobs$Course")) ∈ lw_gt := in_g (in_t3 (List.mem_of_getElem? (i := 174) rfl)) rfl
theorem wM_X6_270 : Cond.methodLink RX6 270 yX0_copyFrom ∈ lw_gt := in_g (in_t3 (List.mem_of_getElem? (i := 175) rfl)) rfl
theorem wI_X0_copyFrom : Cond.instanceMethod yX0_copyFrom ∈ lw_gt := in_g (in_t3 (List.mem_of_getElem? (i := 176) rfl)) rfl
theorem wS_X0_copyFrom : Cond.selects RX0 yX0_copyFrom yX0_copyFrom ∈ lw_gt := in_g (in_t3 (List.mem_of_getElem? (i := 177) rfl)) rfl
theorem wC_X0_copyFrom : Cond.code yX0_copyFrom prog_2_method_6_code 5 (Option.none : Option FieldType) ∈ lw_gt := in_g (in_t3 (List.mem_of_getElem? (i := 178) rfl)) rfl
theorem wM_L_114 : Cond.methodLink RL 114 yX6_back ∈ lw_gt := in_g (in_t3 (List.mem_of_getElem? (i := 179) rfl)) rfl
theorem wI_X6_back : Cond.instanceMethod yX6_back ∈ lw_gt := in_g (in_t3 (List.mem_of_getElem? (i := 180) rfl)) rfl
theorem wS_X6_back : Cond.selects RX6 yX6_back yX6_back ∈ lw_gt := in_g (in_t3 (List.mem_of_getElem? (i := 181) rfl)) rfl
theorem wC_X6_back : Cond.code yX6_back prog_1_method_26_code 3 (Option.some FieldType.int) ∈ lw_gt := in_g (in_t3 (List.mem_of_getElem? (i := 182) rfl)) rfl
theorem wM_L_118 : Cond.methodLink RL 118 yX6_count ∈ lw_gt := in_g (in_t3 (List.mem_of_getElem? (i := 183) rfl)) rfl
theorem wI_X6_count : Cond.instanceMethod yX6_count ∈ lw_gt := in_g (in_t3 (List.mem_of_getElem? (i := 184) rfl)) rfl
theorem wS_X6_count : Cond.selects RX6 yX6_count yX6_count ∈ lw_gt := in_g (in_t3 (List.mem_of_getElem? (i := 185) rfl)) rfl
theorem wC_X6_count : Cond.code yX6_count prog_1_method_27_code 2 (Option.some FieldType.int) ∈ lw_gt := in_g (in_t3 (List.mem_of_getElem? (i := 186) rfl)) rfl
theorem wM_L_122 : Cond.methodLink RL 122 yX6_trace ∈ lw_gt := in_g (in_t3 (List.mem_of_getElem? (i := 187) rfl)) rfl
theorem wI_X6_trace : Cond.instanceMethod yX6_trace ∈ lw_gt := in_g (in_t3 (List.mem_of_getElem? (i := 188) rfl)) rfl
theorem wS_X6_trace : Cond.selects RX6 yX6_trace yX6_trace ∈ lw_gt := in_g (in_t3 (List.mem_of_getElem? (i := 189) rfl)) rfl
theorem wC_X6_trace : Cond.code yX6_trace prog_1_method_28_code 1 (Option.some FieldType.long) ∈ lw_gt := in_g (in_t3 (List.mem_of_getElem? (i := 190) rfl)) rfl
theorem wK_L_10 : Cond.classLink RL 10 RX7 ∈ lw_gt := in_g (in_t3 (List.mem_of_getElem? (i := 191) rfl)) rfl
theorem wU_X7 : Cond.instantiable RX7 28 ∈ lw_gt := in_g (in_t3 (List.mem_of_getElem? (i := 192) rfl)) rfl
theorem wM_L_12 : Cond.methodLink RL 12 yX7_init ∈ lw_gt := in_g (in_t3 (List.mem_of_getElem? (i := 193) rfl)) rfl
theorem wI_X7_init : Cond.instanceMethod yX7_init ∈ lw_gt := in_g (in_t3 (List.mem_of_getElem? (i := 194) rfl)) rfl
theorem wC_X7_init : Cond.code yX7_init prog_9_method_1_code 1 (Option.none : Option FieldType) ∈ lw_gt := in_g (in_t3 (List.mem_of_getElem? (i := 195) rfl)) rfl
theorem wM_X7_1 : Cond.methodLink RX7 1 objectInit ∈ lw_gt := in_g (in_t3 (List.mem_of_getElem? (i := 196) rfl)) rfl
theorem wM_X7_59 : Cond.methodLink RX7 59 yX7_begin ∈ lw_gt := in_g (in_t3 (List.mem_of_getElem? (i := 197) rfl)) rfl
theorem wI_X7_begin : Cond.instanceMethod yX7_begin ∈ lw_gt := in_g (in_t3 (List.mem_of_getElem? (i := 199) rfl)) rfl
theorem wC_X7_begin : Cond.code yX7_begin prog_9_method_17_code 2 (Option.none : Option FieldType) ∈ lw_gt := in_g (in_t3 (List.mem_of_getElem? (i := 200) rfl)) rfl
theorem wF_X7_7 : Cond.fieldLink RX7 7 "CopierJobsModel" "pages" "[I" ∈ lw_gt := in_g (in_t3 (List.mem_of_getElem? (i := 201) rfl)) rfl
theorem wF_X7_13 : Cond.fieldLink RX7 13 "CopierJobsModel" "copies" "[I" ∈ lw_gt := in_g (in_t3 (List.mem_of_getElem? (i := 202) rfl)) rfl
theorem wF_X7_16 : Cond.fieldLink RX7 16 "CopierJobsModel" "both" "[I" ∈ lw_gt := in_g (in_t3 (List.mem_of_getElem? (i := 203) rfl)) rfl
theorem wF_X7_19 : Cond.fieldLink RX7 19 "CopierJobsModel" "sorted" "[I" ∈ lw_gt := in_g (in_t3 (List.mem_of_getElem? (i := 204) rfl)) rfl
theorem wF_X7_22 : Cond.fieldLink RX7 22 "CopierJobsModel" "trays" "[I" ∈ lw_gt := in_g (in_t3 (List.mem_of_getElem? (i := 205) rfl)) rfl
theorem wF_X7_66 : Cond.fieldLink RX7 66 "CopierJobsModel" "jobs" "I" ∈ lw_gt := in_g (in_t3 (List.mem_of_getElem? (i := 206) rfl)) rfl
theorem wF_X7_25 : Cond.fieldLink RX7 25 "CopierJobsModel" "bins" "I" ∈ lw_gt := in_g (in_t3 (List.mem_of_getElem? (i := 207) rfl)) rfl
theorem wF_X7_29 : Cond.fieldLink RX7 29 "CopierJobsModel" "st" "[I" ∈ lw_gt := in_g (in_t3 (List.mem_of_getElem? (i := 208) rfl)) rfl
theorem wF_X7_32 : Cond.fieldLink RX7 32 "CopierJobsModel" "past" "[I" ∈ lw_gt := in_g (in_t3 (List.mem_of_getElem? (i := 209) rfl)) rfl
theorem wF_X7_133 : Cond.fieldLink RX7 133 "CopierJobsModel" "undoMany" "I" ∈ lw_gt := in_g (in_t3 (List.mem_of_getElem? (i := 210) rfl)) rfl
theorem wF_X7_35 : Cond.fieldLink RX7 35 "CopierJobsModel" "seen" "[I" ∈ lw_gt := in_g (in_t3 (List.mem_of_getElem? (i := 211) rfl)) rfl
theorem wF_X7_136 : Cond.fieldLink RX7 136 "CopierJobsModel" "seenMany" "I" ∈ lw_gt := in_g (in_t3 (List.mem_of_getElem? (i := 212) rfl)) rfl
theorem wF_X7_234 : Cond.fieldLink RX7 234 "CopierJobsModel" "trace" "J" ∈ lw_gt := in_g (in_t3 (List.mem_of_getElem? (i := 213) rfl)) rfl
theorem wF_X7_38 : Cond.fieldLink RX7 38 "CopierJobsModel" "text" "[I" ∈ lw_gt := in_g (in_t3 (List.mem_of_getElem? (i := 214) rfl)) rfl
theorem wF_X7_71 : Cond.fieldLink RX7 71 "CopierJobsModel" "length" "I" ∈ lw_gt := in_g (in_t3 (List.mem_of_getElem? (i := 215) rfl)) rfl
theorem wF_X7_74 : Cond.fieldLink RX7 74 "CopierJobsModel" "place" "I" ∈ lw_gt := in_g (in_t3 (List.mem_of_getElem? (i := 216) rfl)) rfl
theorem wF_X7_88 : Cond.fieldLink RX7 88 "CopierJobsModel" "from" "I" ∈ lw_gt := in_g (in_t3 (List.mem_of_getElem? (i := 217) rfl)) rfl
theorem wF_X7_91 : Cond.fieldLink RX7 91 "CopierJobsModel" "sort" "I" ∈ lw_gt := in_g (in_t3 (List.mem_of_getElem? (i := 218) rfl)) rfl
theorem wF_X7_77 : Cond.fieldLink RX7 77 "CopierJobsModel" "value" "I" ∈ lw_gt := in_g (in_t3 (List.mem_of_getElem? (i := 219) rfl)) rfl
theorem wF_X7_41 : Cond.fieldLink RX7 41 "CopierJobsModel" "newTrays" "[I" ∈ lw_gt := in_g (in_t3 (List.mem_of_getElem? (i := 220) rfl)) rfl
theorem wF_X7_56 : Cond.fieldLink RX7 56 "CopierJobsModel" "newInk" "I" ∈ lw_gt := in_g (in_t3 (List.mem_of_getElem? (i := 221) rfl)) rfl
theorem wF_X7_121 : Cond.fieldLink RX7 121 "CopierJobsModel" "newBins" "I" ∈ lw_gt := in_g (in_t3 (List.mem_of_getElem? (i := 222) rfl)) rfl
theorem wF_X7_44 : Cond.fieldLink RX7 44 "CopierJobsModel" "newJobs" "[I" ∈ lw_gt := in_g (in_t3 (List.mem_of_getElem? (i := 223) rfl)) rfl
theorem wF_X7_111 : Cond.fieldLink RX7 111 "CopierJobsModel" "newMany" "I" ∈ lw_gt := in_g (in_t3 (List.mem_of_getElem? (i := 224) rfl)) rfl
theorem wF_X7_114 : Cond.fieldLink RX7 114 "CopierJobsModel" "told" "I" ∈ lw_gt := in_g (in_t3 (List.mem_of_getElem? (i := 225) rfl)) rfl
theorem wF_X7_47 : Cond.fieldLink RX7 47 "CopierJobsModel" "aside" "[I" ∈ lw_gt := in_g (in_t3 (List.mem_of_getElem? (i := 226) rfl)) rfl
theorem wF_X7_50 : Cond.fieldLink RX7 50 "CopierJobsModel" "images" "[I" ∈ lw_gt := in_g (in_t3 (List.mem_of_getElem? (i := 227) rfl)) rfl
theorem wF_X7_53 : Cond.fieldLink RX7 53 "CopierJobsModel" "isKept" "[I" ∈ lw_gt := in_g (in_t3 (List.mem_of_getElem? (i := 228) rfl)) rfl
theorem wL_X7_pages : Cond.laysFinal RX7 "CopierJobsModel" "pages" "[I" ∈ lw_gt := in_g (in_t3 (List.mem_of_getElem? (i := 229) rfl)) rfl
theorem wL_X7_copies : Cond.laysFinal RX7 "CopierJobsModel" "copies" "[I" ∈ lw_gt := in_g (in_t3 (List.mem_of_getElem? (i := 231) rfl)) rfl
theorem wL_X7_both : Cond.laysFinal RX7 "CopierJobsModel" "both" "[I" ∈ lw_gt := in_g (in_t3 (List.mem_of_getElem? (i := 233) rfl)) rfl
theorem wL_X7_sorted : Cond.laysFinal RX7 "CopierJobsModel" "sorted" "[I" ∈ lw_gt := in_g (in_t3 (List.mem_of_getElem? (i := 235) rfl)) rfl
theorem wL_X7_trays : Cond.laysFinal RX7 "CopierJobsModel" "trays" "[I" ∈ lw_gt := in_g (in_t3 (List.mem_of_getElem? (i := 237) rfl)) rfl
theorem wL_X7_jobs : Cond.lays RX7 "CopierJobsModel" "jobs" "I" ∈ lw_gt := in_g (in_t3 (List.mem_of_getElem? (i := 239) rfl)) rfl
theorem wL_X7_bins : Cond.lays RX7 "CopierJobsModel" "bins" "I" ∈ lw_gt := in_g (in_t4 (List.mem_of_getElem? (i := 1) rfl)) rfl
theorem wL_X7_st : Cond.laysFinal RX7 "CopierJobsModel" "st" "[I" ∈ lw_gt := in_g (in_t4 (List.mem_of_getElem? (i := 3) rfl)) rfl
theorem wL_X7_past : Cond.laysFinal RX7 "CopierJobsModel" "past" "[I" ∈ lw_gt := in_g (in_t4 (List.mem_of_getElem? (i := 5) rfl)) rfl
theorem wL_X7_undoMany : Cond.lays RX7 "CopierJobsModel" "undoMany" "I" ∈ lw_gt := in_g (in_t4 (List.mem_of_getElem? (i := 7) rfl)) rfl
theorem wL_X7_seen : Cond.laysFinal RX7 "CopierJobsModel" "seen" "[I" ∈ lw_gt := in_g (in_t4 (List.mem_of_getElem? (i := 9) rfl)) rfl
theorem wL_X7_seenMany : Cond.lays RX7 "CopierJobsModel" "seenMany" "I" ∈ lw_gt := in_g (in_t4 (List.mem_of_getElem? (i := 11) rfl)) rfl
theorem wL_X7_trace : Cond.lays RX7 "CopierJobsModel" "trace" "J" ∈ lw_gt := in_g (in_t4 (List.mem_of_getElem? (i := 13) rfl)) rfl
theorem wL_X7_text : Cond.laysFinal RX7 "CopierJobsModel" "text" "[I" ∈ lw_gt := in_g (in_t4 (List.mem_of_getElem? (i := 15) rfl)) rfl
theorem wL_X7_length : Cond.lays RX7 "CopierJobsModel" "length" "I" ∈ lw_gt := in_g (in_t4 (List.mem_of_getElem? (i := 17) rfl)) rfl
theorem wL_X7_place : Cond.lays RX7 "CopierJobsModel" "place" "I" ∈ lw_gt := in_g (in_t4 (List.mem_of_getElem? (i := 19) rfl)) rfl
theorem wL_X7_from : Cond.lays RX7 "CopierJobsModel" "from" "I" ∈ lw_gt := in_g (in_t4 (List.mem_of_getElem? (i := 21) rfl)) rfl
theorem wL_X7_sort : Cond.lays RX7 "CopierJobsModel" "sort" "I" ∈ lw_gt := in_g (in_t4 (List.mem_of_getElem? (i := 23) rfl)) rfl
theorem wL_X7_value : Cond.lays RX7 "CopierJobsModel" "value" "I" ∈ lw_gt := in_g (in_t4 (List.mem_of_getElem? (i := 25) rfl)) rfl
theorem wL_X7_newTrays : Cond.laysFinal RX7 "CopierJobsModel" "newTrays" "[I" ∈ lw_gt := in_g (in_t4 (List.mem_of_getElem? (i := 27) rfl)) rfl
theorem wL_X7_newInk : Cond.lays RX7 "CopierJobsModel" "newInk" "I" ∈ lw_gt := in_g (in_t4 (List.mem_of_getElem? (i := 29) rfl)) rfl
theorem wL_X7_newBins : Cond.lays RX7 "CopierJobsModel" "newBins" "I" ∈ lw_gt := in_g (in_t4 (List.mem_of_getElem? (i := 31) rfl)) rfl
theorem wL_X7_newJobs : Cond.laysFinal RX7 "CopierJobsModel" "newJobs" "[I" ∈ lw_gt := in_g (in_t4 (List.mem_of_getElem? (i := 33) rfl)) rfl
theorem wL_X7_newMany : Cond.lays RX7 "CopierJobsModel" "newMany" "I" ∈ lw_gt := in_g (in_t4 (List.mem_of_getElem? (i := 35) rfl)) rfl
theorem wL_X7_told : Cond.lays RX7 "CopierJobsModel" "told" "I" ∈ lw_gt := in_g (in_t4 (List.mem_of_getElem? (i := 37) rfl)) rfl
theorem wL_X7_aside : Cond.laysFinal RX7 "CopierJobsModel" "aside" "[I" ∈ lw_gt := in_g (in_t4 (List.mem_of_getElem? (i := 39) rfl)) rfl
theorem wL_X7_images : Cond.laysFinal RX7 "CopierJobsModel" "images" "[I" ∈ lw_gt := in_g (in_t4 (List.mem_of_getElem? (i := 41) rfl)) rfl
theorem wL_X7_isKept : Cond.laysFinal RX7 "CopierJobsModel" "isKept" "[I" ∈ lw_gt := in_g (in_t4 (List.mem_of_getElem? (i := 43) rfl)) rfl
theorem wM_L_17 : Cond.methodLink RL 17 yX7_type ∈ lw_gt := in_g (in_t4 (List.mem_of_getElem? (i := 46) rfl)) rfl
theorem wI_X7_type : Cond.instanceMethod yX7_type ∈ lw_gt := in_g (in_t4 (List.mem_of_getElem? (i := 47) rfl)) rfl
theorem wS_X7_type : Cond.selects RX7 yX7_type yX7_type ∈ lw_gt := in_g (in_t4 (List.mem_of_getElem? (i := 48) rfl)) rfl
theorem wC_X7_type : Cond.code yX7_type prog_9_method_5_code 2 (Option.some FieldType.int) ∈ lw_gt := in_g (in_t4 (List.mem_of_getElem? (i := 49) rfl)) rfl
theorem wW_X7_69 : Cond.constantLong RX7 69 (255 : Int64) ∈ lw_gt := in_g (in_t4 (List.mem_of_getElem? (i := 50) rfl)) rfl
theorem wM_X7_62 : Cond.methodLink RX7 62 yX7_in ∈ lw_gt := in_g (in_t4 (List.mem_of_getElem? (i := 51) rfl)) rfl
theorem wT_X7_in : Cond.static yX7_in ∈ lw_gt := in_g (in_t4 (List.mem_of_getElem? (i := 52) rfl)) rfl
theorem wC_X7_in : Cond.code yX7_in prog_9_method_2_code 6 (Option.some FieldType.boolean) ∈ lw_gt := in_g (in_t4 (List.mem_of_getElem? (i := 53) rfl)) rfl
theorem wM_L_22 : Cond.methodLink RL 22 yX7_clear ∈ lw_gt := in_g (in_t4 (List.mem_of_getElem? (i := 54) rfl)) rfl
theorem wI_X7_clear : Cond.instanceMethod yX7_clear ∈ lw_gt := in_g (in_t4 (List.mem_of_getElem? (i := 55) rfl)) rfl
theorem wS_X7_clear : Cond.selects RX7 yX7_clear yX7_clear ∈ lw_gt := in_g (in_t4 (List.mem_of_getElem? (i := 56) rfl)) rfl
theorem wC_X7_clear : Cond.code yX7_clear prog_9_method_6_code 2 (Option.some FieldType.int) ∈ lw_gt := in_g (in_t4 (List.mem_of_getElem? (i := 57) rfl)) rfl
theorem wM_L_26 : Cond.methodLink RL 26 yX7_office ∈ lw_gt := in_g (in_t4 (List.mem_of_getElem? (i := 58) rfl)) rfl
theorem wI_X7_office : Cond.instanceMethod yX7_office ∈ lw_gt := in_g (in_t4 (List.mem_of_getElem? (i := 59) rfl)) rfl
theorem wS_X7_office : Cond.selects RX7 yX7_office yX7_office ∈ lw_gt := in_g (in_t4 (List.mem_of_getElem? (i := 60) rfl)) rfl
theorem wC_X7_office : Cond.code yX7_office prog_9_method_16_code 4 (Option.some FieldType.int) ∈ lw_gt := in_g (in_t4 (List.mem_of_getElem? (i := 61) rfl)) rfl
theorem wM_X7_104 : Cond.methodLink RX7 104 yX7_next ∈ lw_gt := in_g (in_t4 (List.mem_of_getElem? (i := 62) rfl)) rfl
theorem wI_X7_next : Cond.instanceMethod yX7_next ∈ lw_gt := in_g (in_t4 (List.mem_of_getElem? (i := 64) rfl)) rfl
theorem wC_X7_next : Cond.code yX7_next prog_9_method_10_code 2 (Option.none : Option FieldType) ∈ lw_gt := in_g (in_t4 (List.mem_of_getElem? (i := 65) rfl)) rfl
theorem wM_X7_80 : Cond.methodLink RX7 80 yX7_letter ∈ lw_gt := in_g (in_t4 (List.mem_of_getElem? (i := 66) rfl)) rfl
theorem wI_X7_letter : Cond.instanceMethod yX7_letter ∈ lw_gt := in_g (in_t4 (List.mem_of_getElem? (i := 68) rfl)) rfl
theorem wC_X7_letter : Cond.code yX7_letter prog_9_method_7_code 1 (Option.some FieldType.int) ∈ lw_gt := in_g (in_t4 (List.mem_of_getElem? (i := 69) rfl)) rfl
theorem wW_X7_84 : Cond.constantLong RX7 84 (48 : Int64) ∈ lw_gt := in_g (in_t4 (List.mem_of_getElem? (i := 70) rfl)) rfl
theorem wW_X7_86 : Cond.constantLong RX7 86 (57 : Int64) ∈ lw_gt := in_g (in_t4 (List.mem_of_getElem? (i := 71) rfl)) rfl
theorem wM_X7_98 : Cond.methodLink RX7 98 yX7_readNumber ∈ lw_gt := in_g (in_t4 (List.mem_of_getElem? (i := 72) rfl)) rfl
theorem wI_X7_readNumber : Cond.instanceMethod yX7_readNumber ∈ lw_gt := in_g (in_t4 (List.mem_of_getElem? (i := 74) rfl)) rfl
theorem wC_X7_readNumber : Cond.code yX7_readNumber prog_9_method_8_code 1 (Option.none : Option FieldType) ∈ lw_gt := in_g (in_t4 (List.mem_of_getElem? (i := 75) rfl)) rfl
theorem wW_X7_94 : Cond.constantLong RX7 94 (97 : Int64) ∈ lw_gt := in_g (in_t4 (List.mem_of_getElem? (i := 76) rfl)) rfl
theorem wW_X7_96 : Cond.constantLong RX7 96 (122 : Int64) ∈ lw_gt := in_g (in_t4 (List.mem_of_getElem? (i := 77) rfl)) rfl
theorem wM_X7_101 : Cond.methodLink RX7 101 yX7_readLetters ∈ lw_gt := in_g (in_t4 (List.mem_of_getElem? (i := 78) rfl)) rfl
theorem wI_X7_readLetters : Cond.instanceMethod yX7_readLetters ∈ lw_gt := in_g (in_t4 (List.mem_of_getElem? (i := 80) rfl)) rfl
theorem wC_X7_readLetters : Cond.code yX7_readLetters prog_9_method_9_code 1 (Option.none : Option FieldType) ∈ lw_gt := in_g (in_t4 (List.mem_of_getElem? (i := 81) rfl)) rfl
theorem wM_X7_130 : Cond.methodLink RX7 130 yX7_readItem ∈ lw_gt := in_g (in_t4 (List.mem_of_getElem? (i := 82) rfl)) rfl
theorem wI_X7_readItem : Cond.instanceMethod yX7_readItem ∈ lw_gt := in_g (in_t4 (List.mem_of_getElem? (i := 84) rfl)) rfl
theorem wC_X7_readItem : Cond.code yX7_readItem prog_9_method_15_code 4 (Option.some FieldType.boolean) ∈ lw_gt := in_g (in_t4 (List.mem_of_getElem? (i := 85) rfl)) rfl
theorem wM_X7_117 : Cond.methodLink RX7 117 yX7_readTrays ∈ lw_gt := in_g (in_t4 (List.mem_of_getElem? (i := 86) rfl)) rfl
theorem wI_X7_readTrays : Cond.instanceMethod yX7_readTrays ∈ lw_gt := in_g (in_t4 (List.mem_of_getElem? (i := 88) rfl)) rfl
theorem wC_X7_readTrays : Cond.code yX7_readTrays prog_9_method_13_code 3 (Option.some FieldType.boolean) ∈ lw_gt := in_g (in_t4 (List.mem_of_getElem? (i := 89) rfl)) rfl
theorem wM_X7_107 : Cond.methodLink RX7 107 yX7_takesNumber ∈ lw_gt := in_g (in_t4 (List.mem_of_getElem? (i := 90) rfl)) rfl
theorem wI_X7_takesNumber : Cond.instanceMethod yX7_takesNumber ∈ lw_gt := in_g (in_t4 (List.mem_of_getElem? (i := 92) rfl)) rfl
theorem wC_X7_takesNumber : Cond.code yX7_takesNumber prog_9_method_11_code 3 (Option.some FieldType.boolean) ∈ lw_gt := in_g (in_t4 (List.mem_of_getElem? (i := 93) rfl)) rfl
theorem wM_X7_124 : Cond.methodLink RX7 124 yX7_readJob ∈ lw_gt := in_g (in_t4 (List.mem_of_getElem? (i := 94) rfl)) rfl
theorem wI_X7_readJob : Cond.instanceMethod yX7_readJob ∈ lw_gt := in_g (in_t4 (List.mem_of_getElem? (i := 96) rfl)) rfl
theorem wC_X7_readJob : Cond.code yX7_readJob prog_9_method_14_code 3 (Option.some FieldType.boolean) ∈ lw_gt := in_g (in_t4 (List.mem_of_getElem? (i := 97) rfl)) rfl
theorem wM_X7_127 : Cond.methodLink RX7 127 yX7_ends ∈ lw_gt := in_g (in_t4 (List.mem_of_getElem? (i := 98) rfl)) rfl
theorem wI_X7_ends : Cond.instanceMethod yX7_ends ∈ lw_gt := in_g (in_t4 (List.mem_of_getElem? (i := 100) rfl)) rfl
theorem wC_X7_ends : Cond.code yX7_ends prog_9_method_12_code 1 (Option.some FieldType.boolean) ∈ lw_gt := in_g (in_t4 (List.mem_of_getElem? (i := 101) rfl)) rfl
theorem wM_L_36 : Cond.methodLink RL 36 yX7_sheet ∈ lw_gt := in_g (in_t4 (List.mem_of_getElem? (i := 102) rfl)) rfl
theorem wI_X7_sheet : Cond.instanceMethod yX7_sheet ∈ lw_gt := in_g (in_t4 (List.mem_of_getElem? (i := 103) rfl)) rfl
theorem wS_X7_sheet : Cond.selects RX7 yX7_sheet yX7_sheet ∈ lw_gt := in_g (in_t4 (List.mem_of_getElem? (i := 104) rfl)) rfl
theorem wC_X7_sheet : Cond.code yX7_sheet prog_9_method_26_code 4 (Option.some FieldType.int) ∈ lw_gt := in_g (in_t4 (List.mem_of_getElem? (i := 105) rfl)) rfl
theorem wM_X7_156 : Cond.methodLink RX7 156 yX7_isJob ∈ lw_gt := in_g (in_t4 (List.mem_of_getElem? (i := 106) rfl)) rfl
theorem wI_X7_isJob : Cond.instanceMethod yX7_isJob ∈ lw_gt := in_g (in_t4 (List.mem_of_getElem? (i := 108) rfl)) rfl
theorem wC_X7_isJob : Cond.code yX7_isJob prog_9_method_4_code 2 (Option.some FieldType.boolean) ∈ lw_gt := in_g (in_t4 (List.mem_of_getElem? (i := 109) rfl)) rfl
theorem wM_X7_160 : Cond.methodLink RX7 160 yX7_allOf ∈ lw_gt := in_g (in_t4 (List.mem_of_getElem? (i := 110) rfl)) rfl
theorem wI_X7_allOf : Cond.instanceMethod yX7_allOf ∈ lw_gt := in_g (in_t4 (List.mem_of_getElem? (i := 112) rfl)) rfl
theorem wC_X7_allOf : Cond.code yX7_allOf prog_9_method_19_code 2 (Option.some FieldType.int) ∈ lw_gt := in_g (in_t4 (List.mem_of_getElem? (i := 113) rfl)) rfl
theorem wM_X7_139 : Cond.methodLink RX7 139 yX7_leaves ∈ lw_gt := in_g (in_t4 (List.mem_of_getElem? (i := 114) rfl)) rfl
theorem wI_X7_leaves : Cond.instanceMethod yX7_leaves ∈ lw_gt := in_g (in_t4 (List.mem_of_getElem? (i := 116) rfl)) rfl
theorem wC_X7_leaves : Cond.code yX7_leaves prog_9_method_18_code 2 (Option.some FieldType.int) ∈ lw_gt := in_g (in_t4 (List.mem_of_getElem? (i := 117) rfl)) rfl
theorem wM_X7_150 : Cond.methodLink RX7 150 yX7_copyOf ∈ lw_gt := in_g (in_t4 (List.mem_of_getElem? (i := 118) rfl)) rfl
theorem wI_X7_copyOf : Cond.instanceMethod yX7_copyOf ∈ lw_gt := in_g (in_t4 (List.mem_of_getElem? (i := 120) rfl)) rfl
theorem wC_X7_copyOf : Cond.code yX7_copyOf prog_9_method_20_code 3 (Option.some FieldType.int) ∈ lw_gt := in_g (in_t4 (List.mem_of_getElem? (i := 121) rfl)) rfl
theorem wM_X7_147 : Cond.methodLink RX7 147 yX7_frontOf ∈ lw_gt := in_g (in_t4 (List.mem_of_getElem? (i := 122) rfl)) rfl
theorem wI_X7_frontOf : Cond.instanceMethod yX7_frontOf ∈ lw_gt := in_g (in_t4 (List.mem_of_getElem? (i := 124) rfl)) rfl
theorem wC_X7_frontOf : Cond.code yX7_frontOf prog_9_method_22_code 3 (Option.some FieldType.int) ∈ lw_gt := in_g (in_t4 (List.mem_of_getElem? (i := 125) rfl)) rfl
theorem wM_X7_143 : Cond.methodLink RX7 143 yX7_leafOf ∈ lw_gt := in_g (in_t4 (List.mem_of_getElem? (i := 126) rfl)) rfl
theorem wI_X7_leafOf : Cond.instanceMethod yX7_leafOf ∈ lw_gt := in_g (in_t4 (List.mem_of_getElem? (i := 128) rfl)) rfl
theorem wC_X7_leafOf : Cond.code yX7_leafOf prog_9_method_21_code 3 (Option.some FieldType.int) ∈ lw_gt := in_g (in_t4 (List.mem_of_getElem? (i := 129) rfl)) rfl
theorem wM_X7_153 : Cond.methodLink RX7 153 yX7_backOf ∈ lw_gt := in_g (in_t4 (List.mem_of_getElem? (i := 130) rfl)) rfl
theorem wI_X7_backOf : Cond.instanceMethod yX7_backOf ∈ lw_gt := in_g (in_t4 (List.mem_of_getElem? (i := 132) rfl)) rfl
theorem wC_X7_backOf : Cond.code yX7_backOf prog_9_method_23_code 4 (Option.some FieldType.int) ∈ lw_gt := in_g (in_t4 (List.mem_of_getElem? (i := 133) rfl)) rfl
theorem wM_X7_163 : Cond.methodLink RX7 163 yX7_binOf ∈ lw_gt := in_g (in_t4 (List.mem_of_getElem? (i := 134) rfl)) rfl
theorem wI_X7_binOf : Cond.instanceMethod yX7_binOf ∈ lw_gt := in_g (in_t4 (List.mem_of_getElem? (i := 136) rfl)) rfl
theorem wC_X7_binOf : Cond.code yX7_binOf prog_9_method_24_code 3 (Option.some FieldType.int) ∈ lw_gt := in_g (in_t4 (List.mem_of_getElem? (i := 137) rfl)) rfl
theorem wM_L_40 : Cond.methodLink RL 40 yX7_where ∈ lw_gt := in_g (in_t4 (List.mem_of_getElem? (i := 138) rfl)) rfl
theorem wI_X7_where : Cond.instanceMethod yX7_where ∈ lw_gt := in_g (in_t4 (List.mem_of_getElem? (i := 139) rfl)) rfl
theorem wS_X7_where : Cond.selects RX7 yX7_where yX7_where ∈ lw_gt := in_g (in_t4 (List.mem_of_getElem? (i := 140) rfl)) rfl
theorem wC_X7_where : Cond.code yX7_where prog_9_method_28_code 5 (Option.some FieldType.int) ∈ lw_gt := in_g (in_t4 (List.mem_of_getElem? (i := 141) rfl)) rfl
theorem wM_X7_166 : Cond.methodLink RX7 166 yX7_isPage ∈ lw_gt := in_g (in_t4 (List.mem_of_getElem? (i := 142) rfl)) rfl
theorem wI_X7_isPage : Cond.instanceMethod yX7_isPage ∈ lw_gt := in_g (in_t4 (List.mem_of_getElem? (i := 144) rfl)) rfl
theorem wC_X7_isPage : Cond.code yX7_isPage prog_9_method_27_code 3 (Option.some FieldType.boolean) ∈ lw_gt := in_g (in_t4 (List.mem_of_getElem? (i := 145) rfl)) rfl
theorem wM_L_52 : Cond.methodLink RL 52 yX7_ticks ∈ lw_gt := in_g (in_t4 (List.mem_of_getElem? (i := 146) rfl)) rfl
theorem wI_X7_ticks : Cond.instanceMethod yX7_ticks ∈ lw_gt := in_g (in_t4 (List.mem_of_getElem? (i := 147) rfl)) rfl
theorem wS_X7_ticks : Cond.selects RX7 yX7_ticks yX7_ticks ∈ lw_gt := in_g (in_t4 (List.mem_of_getElem? (i := 148) rfl)) rfl
theorem wC_X7_ticks : Cond.code yX7_ticks prog_9_method_34_code 4 (Option.some FieldType.int) ∈ lw_gt := in_g (in_t4 (List.mem_of_getElem? (i := 149) rfl)) rfl
theorem wW_X7_179 : Cond.constantLong RX7 179 (20 : Int64) ∈ lw_gt := in_g (in_t4 (List.mem_of_getElem? (i := 150) rfl)) rfl
theorem wM_X7_181 : Cond.methodLink RX7 181 yX7_note ∈ lw_gt := in_g (in_t4 (List.mem_of_getElem? (i := 151) rfl)) rfl
theorem wI_X7_note : Cond.instanceMethod yX7_note ∈ lw_gt := in_g (in_t4 (List.mem_of_getElem? (i := 153) rfl)) rfl
theorem wC_X7_note : Cond.code yX7_note prog_9_method_33_code 2 (Option.none : Option FieldType) ∈ lw_gt := in_g (in_t4 (List.mem_of_getElem? (i := 154) rfl)) rfl
theorem wM_X7_184 : Cond.methodLink RX7 184 yX7_oneTick ∈ lw_gt := in_g (in_t4 (List.mem_of_getElem? (i := 155) rfl)) rfl
theorem wI_X7_oneTick : Cond.instanceMethod yX7_oneTick ∈ lw_gt := in_g (in_t4 (List.mem_of_getElem? (i := 157) rfl)) rfl
theorem wC_X7_oneTick : Cond.code yX7_oneTick prog_9_method_32_code 4 (Option.some FieldType.int) ∈ lw_gt := in_g (in_t4 (List.mem_of_getElem? (i := 158) rfl)) rfl
theorem wM_X7_172 : Cond.methodLink RX7 172 yX7_stands ∈ lw_gt := in_g (in_t4 (List.mem_of_getElem? (i := 159) rfl)) rfl
theorem wI_X7_stands : Cond.instanceMethod yX7_stands ∈ lw_gt := in_g (in_t4 (List.mem_of_getElem? (i := 161) rfl)) rfl
theorem wC_X7_stands : Cond.code yX7_stands prog_9_method_30_code 3 (Option.some FieldType.int) ∈ lw_gt := in_g (in_t4 (List.mem_of_getElem? (i := 162) rfl)) rfl
theorem wM_X7_169 : Cond.methodLink RX7 169 yX7_sidesOf ∈ lw_gt := in_g (in_t4 (List.mem_of_getElem? (i := 163) rfl)) rfl
theorem wI_X7_sidesOf : Cond.instanceMethod yX7_sidesOf ∈ lw_gt := in_g (in_t4 (List.mem_of_getElem? (i := 165) rfl)) rfl
theorem wC_X7_sidesOf : Cond.code yX7_sidesOf prog_9_method_25_code 3 (Option.some FieldType.int) ∈ lw_gt := in_g (in_t4 (List.mem_of_getElem? (i := 166) rfl)) rfl
theorem wM_X7_175 : Cond.methodLink RX7 175 yX7_leaveAt ∈ lw_gt := in_g (in_t4 (List.mem_of_getElem? (i := 167) rfl)) rfl
theorem wI_X7_leaveAt : Cond.instanceMethod yX7_leaveAt ∈ lw_gt := in_g (in_t4 (List.mem_of_getElem? (i := 169) rfl)) rfl
theorem wC_X7_leaveAt : Cond.code yX7_leaveAt prog_9_method_31_code 3 (Option.none : Option FieldType) ∈ lw_gt := in_g (in_t4 (List.mem_of_getElem? (i := 170) rfl)) rfl
theorem wM_L_56 : Cond.methodLink RL 56 yX7_ahead ∈ lw_gt := in_g (in_t4 (List.mem_of_getElem? (i := 171) rfl)) rfl
theorem wI_X7_ahead : Cond.instanceMethod yX7_ahead ∈ lw_gt := in_g (in_t4 (List.mem_of_getElem? (i := 172) rfl)) rfl
theorem wS_X7_ahead : Cond.selects RX7 yX7_ahead yX7_ahead ∈ lw_gt := in_g (in_t4 (List.mem_of_getElem? (i := 173) rfl)) rfl
theorem wC_X7_ahead : Cond.code yX7_ahead prog_9_method_35_code 5 (Option.some FieldType.int) ∈ lw_gt := in_g (in_t4 (List.mem_of_getElem? (i := 174) rfl)) rfl
theorem wM_X7_187 : Cond.methodLink RX7 187 yX7_placeOf ∈ lw_gt := in_g (in_t4 (List.mem_of_getElem? (i := 175) rfl)) rfl
theorem wI_X7_placeOf : Cond.instanceMethod yX7_placeOf ∈ lw_gt := in_g (in_t4 (List.mem_of_getElem? (i := 177) rfl)) rfl
theorem wC_X7_placeOf : Cond.code yX7_placeOf prog_9_method_29_code 3 (Option.some FieldType.int) ∈ lw_gt := in_g (in_t4 (List.mem_of_getElem? (i := 178) rfl)) rfl
theorem wM_L_60 : Cond.methodLink RL 60 yX7_breaks ∈ lw_gt := in_g (in_t4 (List.mem_of_getElem? (i := 179) rfl)) rfl
theorem wI_X7_breaks : Cond.instanceMethod yX7_breaks ∈ lw_gt := in_g (in_t4 (List.mem_of_getElem? (i := 180) rfl)) rfl
theorem wS_X7_breaks : Cond.selects RX7 yX7_breaks yX7_breaks ∈ lw_gt := in_g (in_t4 (List.mem_of_getElem? (i := 181) rfl)) rfl
theorem wC_X7_breaks : Cond.code yX7_breaks prog_9_method_36_code 3 (Option.some FieldType.int) ∈ lw_gt := in_g (in_t4 (List.mem_of_getElem? (i := 182) rfl)) rfl
theorem wM_L_64 : Cond.methodLink RL 64 yX7_fills ∈ lw_gt := in_g (in_t4 (List.mem_of_getElem? (i := 183) rfl)) rfl
theorem wI_X7_fills : Cond.instanceMethod yX7_fills ∈ lw_gt := in_g (in_t4 (List.mem_of_getElem? (i := 184) rfl)) rfl
theorem wS_X7_fills : Cond.selects RX7 yX7_fills yX7_fills ∈ lw_gt := in_g (in_t4 (List.mem_of_getElem? (i := 185) rfl)) rfl
theorem wC_X7_fills : Cond.code yX7_fills prog_9_method_37_code 4 (Option.some FieldType.int) ∈ lw_gt := in_g (in_t4 (List.mem_of_getElem? (i := 186) rfl)) rfl
theorem wW_X7_190 : Cond.constantLong RX7 190 (2 : Int64) ∈ lw_gt := in_g (in_t4 (List.mem_of_getElem? (i := 187) rfl)) rfl
theorem wW_X7_192 : Cond.constantLong RX7 192 (99 : Int64) ∈ lw_gt := in_g (in_t4 (List.mem_of_getElem? (i := 188) rfl)) rfl
theorem wM_L_68 : Cond.methodLink RL 68 yX7_toner ∈ lw_gt := in_g (in_t4 (List.mem_of_getElem? (i := 189) rfl)) rfl
theorem wI_X7_toner : Cond.instanceMethod yX7_toner ∈ lw_gt := in_g (in_t4 (List.mem_of_getElem? (i := 190) rfl)) rfl
theorem wS_X7_toner : Cond.selects RX7 yX7_toner yX7_toner ∈ lw_gt := in_g (in_t4 (List.mem_of_getElem? (i := 191) rfl)) rfl
theorem wC_X7_toner : Cond.code yX7_toner prog_9_method_38_code 3 (Option.some FieldType.int) ∈ lw_gt := in_g (in_t4 (List.mem_of_getElem? (i := 192) rfl)) rfl
theorem wW_X7_194 : Cond.constantLong RX7 194 (999 : Int64) ∈ lw_gt := in_g (in_t4 (List.mem_of_getElem? (i := 193) rfl)) rfl
theorem wM_L_72 : Cond.methodLink RL 72 yX7_empties ∈ lw_gt := in_g (in_t4 (List.mem_of_getElem? (i := 194) rfl)) rfl
theorem wI_X7_empties : Cond.instanceMethod yX7_empties ∈ lw_gt := in_g (in_t4 (List.mem_of_getElem? (i := 195) rfl)) rfl
theorem wS_X7_empties : Cond.selects RX7 yX7_empties yX7_empties ∈ lw_gt := in_g (in_t4 (List.mem_of_getElem? (i := 196) rfl)) rfl
theorem wC_X7_empties : Cond.code yX7_empties prog_9_method_39_code 3 (Option.some FieldType.int) ∈ lw_gt := in_g (in_t4 (List.mem_of_getElem? (i := 197) rfl)) rfl
theorem wM_L_76 : Cond.methodLink RL 76 yX7_undo ∈ lw_gt := in_g (in_t4 (List.mem_of_getElem? (i := 198) rfl)) rfl
theorem wI_X7_undo : Cond.instanceMethod yX7_undo ∈ lw_gt := in_g (in_t4 (List.mem_of_getElem? (i := 199) rfl)) rfl
theorem wS_X7_undo : Cond.selects RX7 yX7_undo yX7_undo ∈ lw_gt := in_g (in_t4 (List.mem_of_getElem? (i := 200) rfl)) rfl
theorem wC_X7_undo : Cond.code yX7_undo prog_9_method_40_code 2 (Option.some FieldType.int) ∈ lw_gt := in_g (in_t4 (List.mem_of_getElem? (i := 201) rfl)) rfl
theorem wM_L_31 : Cond.methodLink RL 31 yX7_job ∈ lw_gt := in_g (in_t4 (List.mem_of_getElem? (i := 202) rfl)) rfl
theorem wI_X7_job : Cond.instanceMethod yX7_job ∈ lw_gt := in_g (in_t4 (List.mem_of_getElem? (i := 203) rfl)) rfl
theorem wS_X7_job : Cond.selects RX7 yX7_job yX7_job ∈ lw_gt := in_g (in_t4 (List.mem_of_getElem? (i := 204) rfl)) rfl
theorem wC_X7_job : Cond.code yX7_job prog_9_method_43_code 3 (Option.some FieldType.int) ∈ lw_gt := in_g (in_t4 (List.mem_of_getElem? (i := 205) rfl)) rfl
theorem wM_X7_196 : Cond.methodLink RX7 196 yX7_inTicks ∈ lw_gt := in_g (in_t4 (List.mem_of_getElem? (i := 206) rfl)) rfl
theorem wI_X7_inTicks : Cond.instanceMethod yX7_inTicks ∈ lw_gt := in_g (in_t4 (List.mem_of_getElem? (i := 208) rfl)) rfl
theorem wC_X7_inTicks : Cond.code yX7_inTicks prog_9_method_41_code 5 (Option.some FieldType.int) ∈ lw_gt := in_g (in_t4 (List.mem_of_getElem? (i := 209) rfl)) rfl
theorem wM_X7_199 : Cond.methodLink RX7 199 yX7_leftOf ∈ lw_gt := in_g (in_t4 (List.mem_of_getElem? (i := 210) rfl)) rfl
theorem wI_X7_leftOf : Cond.instanceMethod yX7_leftOf ∈ lw_gt := in_g (in_t4 (List.mem_of_getElem? (i := 212) rfl)) rfl
theorem wC_X7_leftOf : Cond.code yX7_leftOf prog_9_method_42_code 4 (Option.some FieldType.int) ∈ lw_gt := in_g (in_t4 (List.mem_of_getElem? (i := 213) rfl)) rfl
theorem wM_L_44 : Cond.methodLink RL 44 yX7_tray ∈ lw_gt := in_g (in_t4 (List.mem_of_getElem? (i := 214) rfl)) rfl
theorem wI_X7_tray : Cond.instanceMethod yX7_tray ∈ lw_gt := in_g (in_t4 (List.mem_of_getElem? (i := 215) rfl)) rfl
theorem wS_X7_tray : Cond.selects RX7 yX7_tray yX7_tray ∈ lw_gt := in_g (in_t4 (List.mem_of_getElem? (i := 216) rfl)) rfl
theorem wC_X7_tray : Cond.code yX7_tray prog_9_method_46_code 3 (Option.some FieldType.int) ∈ lw_gt := in_g (in_t4 (List.mem_of_getElem? (i := 217) rfl)) rfl
theorem wM_X7_202 : Cond.methodLink RX7 202 yX7_isPart ∈ lw_gt := in_g (in_t4 (List.mem_of_getElem? (i := 218) rfl)) rfl
theorem wT_X7_isPart : Cond.static yX7_isPart ∈ lw_gt := in_g (in_t4 (List.mem_of_getElem? (i := 219) rfl)) rfl
theorem wC_X7_isPart : Cond.code yX7_isPart prog_9_method_3_code 1 (Option.some FieldType.boolean) ∈ lw_gt := in_g (in_t4 (List.mem_of_getElem? (i := 220) rfl)) rfl
theorem wM_X7_205 : Cond.methodLink RX7 205 yX7_wantsOf ∈ lw_gt := in_g (in_t4 (List.mem_of_getElem? (i := 221) rfl)) rfl
theorem wI_X7_wantsOf : Cond.instanceMethod yX7_wantsOf ∈ lw_gt := in_g (in_t4 (List.mem_of_getElem? (i := 223) rfl)) rfl
theorem wC_X7_wantsOf : Cond.code yX7_wantsOf prog_9_method_44_code 4 (Option.some FieldType.int) ∈ lw_gt := in_g (in_t4 (List.mem_of_getElem? (i := 224) rfl)) rfl
theorem wM_L_48 : Cond.methodLink RL 48 yX7_bin ∈ lw_gt := in_g (in_t4 (List.mem_of_getElem? (i := 225) rfl)) rfl
theorem wI_X7_bin : Cond.instanceMethod yX7_bin ∈ lw_gt := in_g (in_t4 (List.mem_of_getElem? (i := 226) rfl)) rfl
theorem wS_X7_bin : Cond.selects RX7 yX7_bin yX7_bin ∈ lw_gt := in_g (in_t4 (List.mem_of_getElem? (i := 227) rfl)) rfl
theorem wC_X7_bin : Cond.code yX7_bin prog_9_method_47_code 2 (Option.some FieldType.int) ∈ lw_gt := in_g (in_t4 (List.mem_of_getElem? (i := 228) rfl)) rfl
theorem wM_L_80 : Cond.methodLink RL 80 yX7_now ∈ lw_gt := in_g (in_t4 (List.mem_of_getElem? (i := 229) rfl)) rfl
theorem wI_X7_now : Cond.instanceMethod yX7_now ∈ lw_gt := in_g (in_t4 (List.mem_of_getElem? (i := 230) rfl)) rfl
theorem wS_X7_now : Cond.selects RX7 yX7_now yX7_now ∈ lw_gt := in_g (in_t4 (List.mem_of_getElem? (i := 231) rfl)) rfl
theorem wC_X7_now : Cond.code yX7_now prog_9_method_49_code 2 (Option.some FieldType.int) ∈ lw_gt := in_g (in_t4 (List.mem_of_getElem? (i := 232) rfl)) rfl
theorem wM_X7_208 : Cond.methodLink RX7 208 yX7_inBins ∈ lw_gt := in_g (in_t4 (List.mem_of_getElem? (i := 233) rfl)) rfl
theorem wI_X7_inBins : Cond.instanceMethod yX7_inBins ∈ lw_gt := in_g (in_t4 (List.mem_of_getElem? (i := 235) rfl)) rfl
theorem wC_X7_inBins : Cond.code yX7_inBins prog_9_method_48_code 3 (Option.some FieldType.int) ∈ lw_gt := in_g (in_t4 (List.mem_of_getElem? (i := 236) rfl)) rfl
theorem wM_X7_211 : Cond.methodLink RX7 211 yX7_wantsInk ∈ lw_gt := in_g (in_t4 (List.mem_of_getElem? (i := 237) rfl)) rfl
theorem wI_X7_wantsInk : Cond.instanceMethod yX7_wantsInk ∈ lw_gt := in_g (in_t4 (List.mem_of_getElem? (i := 239) rfl)) rfl
theorem wC_X7_wantsInk : Cond.code yX7_wantsInk prog_9_method_45_code 3 (Option.some FieldType.int) ∈ lw_gt := in_g (in_t5 (List.mem_of_getElem? (i := 0) rfl)) rfl
theorem wM_L_84 : Cond.methodLink RL 84 yX7_soon ∈ lw_gt := in_g (in_t5 (List.mem_of_getElem? (i := 1) rfl)) rfl
theorem wI_X7_soon : Cond.instanceMethod yX7_soon ∈ lw_gt := in_g (in_t5 (List.mem_of_getElem? (i := 2) rfl)) rfl
theorem wS_X7_soon : Cond.selects RX7 yX7_soon yX7_soon ∈ lw_gt := in_g (in_t5 (List.mem_of_getElem? (i := 3) rfl)) rfl
theorem wC_X7_soon : Cond.code yX7_soon prog_9_method_51_code 7 (Option.some FieldType.int) ∈ lw_gt := in_g (in_t5 (List.mem_of_getElem? (i := 4) rfl)) rfl
theorem wM_X7_214 : Cond.methodLink RX7 214 yX7_shortest ∈ lw_gt := in_g (in_t5 (List.mem_of_getElem? (i := 5) rfl)) rfl
theorem wI_X7_shortest : Cond.instanceMethod yX7_shortest ∈ lw_gt := in_g (in_t5 (List.mem_of_getElem? (i := 7) rfl)) rfl
theorem wC_X7_shortest : Cond.code yX7_shortest prog_9_method_50_code 4 (Option.some FieldType.int) ∈ lw_gt := in_g (in_t5 (List.mem_of_getElem? (i := 8) rfl)) rfl
theorem wM_L_89 : Cond.methodLink RL 89 yX7_odds ∈ lw_gt := in_g (in_t5 (List.mem_of_getElem? (i := 9) rfl)) rfl
theorem wI_X7_odds : Cond.instanceMethod yX7_odds ∈ lw_gt := in_g (in_t5 (List.mem_of_getElem? (i := 10) rfl)) rfl
theorem wS_X7_odds : Cond.selects RX7 yX7_odds yX7_odds ∈ lw_gt := in_g (in_t5 (List.mem_of_getElem? (i := 11) rfl)) rfl
theorem wC_X7_odds : Cond.code yX7_odds prog_9_method_53_code 17 (Option.some FieldType.int) ∈ lw_gt := in_g (in_t5 (List.mem_of_getElem? (i := 12) rfl)) rfl
theorem wW_X7_217 : Cond.constantLong RX7 217 (4 : Int64) ∈ lw_gt := in_g (in_t5 (List.mem_of_getElem? (i := 13) rfl)) rfl
theorem wM_X7_219 : Cond.methodLink RX7 219 yX7_choose ∈ lw_gt := in_g (in_t5 (List.mem_of_getElem? (i := 14) rfl)) rfl
theorem wT_X7_choose : Cond.static yX7_choose ∈ lw_gt := in_g (in_t5 (List.mem_of_getElem? (i := 15) rfl)) rfl
theorem wC_X7_choose : Cond.code yX7_choose prog_9_method_52_code 5 (Option.some FieldType.long) ∈ lw_gt := in_g (in_t5 (List.mem_of_getElem? (i := 16) rfl)) rfl
theorem wM_L_93 : Cond.methodLink RL 93 yX7_sees ∈ lw_gt := in_g (in_t5 (List.mem_of_getElem? (i := 17) rfl)) rfl
theorem wI_X7_sees : Cond.instanceMethod yX7_sees ∈ lw_gt := in_g (in_t5 (List.mem_of_getElem? (i := 18) rfl)) rfl
theorem wS_X7_sees : Cond.selects RX7 yX7_sees yX7_sees ∈ lw_gt := in_g (in_t5 (List.mem_of_getElem? (i := 19) rfl)) rfl
theorem wC_X7_sees : Cond.code yX7_sees prog_9_method_54_code 4 (Option.some FieldType.int) ∈ lw_gt := in_g (in_t5 (List.mem_of_getElem? (i := 20) rfl)) rfl
theorem wW_X7_223 : Cond.constantLong RX7 223 (80 : Int64) ∈ lw_gt := in_g (in_t5 (List.mem_of_getElem? (i := 21) rfl)) rfl
theorem wW_X7_225 : Cond.constantLong RX7 225 (9 : Int64) ∈ lw_gt := in_g (in_t5 (List.mem_of_getElem? (i := 22) rfl)) rfl
theorem wM_L_97 : Cond.methodLink RL 97 yX7_forget ∈ lw_gt := in_g (in_t5 (List.mem_of_getElem? (i := 23) rfl)) rfl
theorem wI_X7_forget : Cond.instanceMethod yX7_forget ∈ lw_gt := in_g (in_t5 (List.mem_of_getElem? (i := 24) rfl)) rfl
theorem wS_X7_forget : Cond.selects RX7 yX7_forget yX7_forget ∈ lw_gt := in_g (in_t5 (List.mem_of_getElem? (i := 25) rfl)) rfl
theorem wC_X7_forget : Cond.code yX7_forget prog_9_method_55_code 2 (Option.some FieldType.int) ∈ lw_gt := in_g (in_t5 (List.mem_of_getElem? (i := 26) rfl)) rfl
theorem wM_L_101 : Cond.methodLink RL 101 yX7_whose ∈ lw_gt := in_g (in_t5 (List.mem_of_getElem? (i := 27) rfl)) rfl
theorem wI_X7_whose : Cond.instanceMethod yX7_whose ∈ lw_gt := in_g (in_t5 (List.mem_of_getElem? (i := 28) rfl)) rfl
theorem wS_X7_whose : Cond.selects RX7 yX7_whose yX7_whose ∈ lw_gt := in_g (in_t5 (List.mem_of_getElem? (i := 29) rfl)) rfl
theorem wC_X7_whose : Cond.code yX7_whose prog_9_method_57_code 5 (Option.some FieldType.int) ∈ lw_gt := in_g (in_t5 (List.mem_of_getElem? (i := 30) rfl)) rfl
theorem wM_X7_227 : Cond.methodLink RX7 227 yX7_hasInFront ∈ lw_gt := in_g (in_t5 (List.mem_of_getElem? (i := 31) rfl)) rfl
theorem wI_X7_hasInFront : Cond.instanceMethod yX7_hasInFront ∈ lw_gt := in_g (in_t5 (List.mem_of_getElem? (i := 33) rfl)) rfl
theorem wC_X7_hasInFront : Cond.code yX7_hasInFront prog_9_method_56_code 4 (Option.some FieldType.boolean) ∈ lw_gt := in_g (in_t5 (List.mem_of_getElem? (i := 34) rfl)) rfl
theorem wM_L_105 : Cond.methodLink RL 105 yX7_look ∈ lw_gt := in_g (in_t5 (List.mem_of_getElem? (i := 35) rfl)) rfl
theorem wI_X7_look : Cond.instanceMethod yX7_look ∈ lw_gt := in_g (in_t5 (List.mem_of_getElem? (i := 36) rfl)) rfl
theorem wS_X7_look : Cond.selects RX7 yX7_look yX7_look ∈ lw_gt := in_g (in_t5 (List.mem_of_getElem? (i := 37) rfl)) rfl
theorem wC_X7_look : Cond.code yX7_look prog_9_method_58_code 9 (Option.some FieldType.int) ∈ lw_gt := in_g (in_t5 (List.mem_of_getElem? (i := 38) rfl)) rfl
theorem wM_X7_231 : Cond.methodLink RX7 231 yX7_whose ∈ lw_gt := in_g (in_t5 (List.mem_of_getElem? (i := 39) rfl)) rfl
theorem wM_L_109 : Cond.methodLink RL 109 yX7_mark ∈ lw_gt := in_g (in_t5 (List.mem_of_getElem? (i := 40) rfl)) rfl
theorem wI_X7_mark : Cond.instanceMethod yX7_mark ∈ lw_gt := in_g (in_t5 (List.mem_of_getElem? (i := 41) rfl)) rfl
theorem wS_X7_mark : Cond.selects RX7 yX7_mark yX7_mark ∈ lw_gt := in_g (in_t5 (List.mem_of_getElem? (i := 42) rfl)) rfl
theorem wC_X7_mark : Cond.code yX7_mark prog_9_method_65_code 3 (Option.some FieldType.int) ∈ lw_gt := in_g (in_t5 (List.mem_of_getElem? (i := 43) rfl)) rfl
theorem wW_X7_257 : Cond.constantLong RX7 257 (5 : Int64) ∈ lw_gt := in_g (in_t5 (List.mem_of_getElem? (i := 44) rfl)) rfl
theorem wV_X7_259 : Cond.constant RX7 259 (-1000000 : Int32) ∈ lw_gt := in_g (in_t5 (List.mem_of_getElem? (i := 45) rfl)) rfl
theorem wM_X7_240 : Cond.methodLink RX7 240 yX7_asJob ∈ lw_gt := in_g (in_t5 (List.mem_of_getElem? (i := 46) rfl)) rfl
theorem wI_X7_asJob : Cond.instanceMethod yX7_asJob ∈ lw_gt := in_g (in_t5 (List.mem_of_getElem? (i := 48) rfl)) rfl
theorem wC_X7_asJob : Cond.code yX7_asJob prog_9_method_59_code 2 (Option.some FieldType.int) ∈ lw_gt := in_g (in_t5 (List.mem_of_getElem? (i := 49) rfl)) rfl
theorem wM_X7_247 : Cond.methodLink RX7 247 yX7_asMemo ∈ lw_gt := in_g (in_t5 (List.mem_of_getElem? (i := 50) rfl)) rfl
theorem wI_X7_asMemo : Cond.instanceMethod yX7_asMemo ∈ lw_gt := in_g (in_t5 (List.mem_of_getElem? (i := 52) rfl)) rfl
theorem wC_X7_asMemo : Cond.code yX7_asMemo prog_9_method_60_code 2 (Option.some FieldType.int) ∈ lw_gt := in_g (in_t5 (List.mem_of_getElem? (i := 53) rfl)) rfl
theorem wW_X7_238 : Cond.constantLong RX7 238 (10 : Int64) ∈ lw_gt := in_g (in_t5 (List.mem_of_getElem? (i := 54) rfl)) rfl
theorem wM_X7_252 : Cond.methodLink RX7 252 yX7_asReport ∈ lw_gt := in_g (in_t5 (List.mem_of_getElem? (i := 55) rfl)) rfl
theorem wI_X7_asReport : Cond.instanceMethod yX7_asReport ∈ lw_gt := in_g (in_t5 (List.mem_of_getElem? (i := 57) rfl)) rfl
theorem wC_X7_asReport : Cond.code yX7_asReport prog_9_method_61_code 2 (Option.some FieldType.int) ∈ lw_gt := in_g (in_t5 (List.mem_of_getElem? (i := 58) rfl)) rfl
theorem wW_X7_243 : Cond.constantLong RX7 243 (100 : Int64) ∈ lw_gt := in_g (in_t5 (List.mem_of_getElem? (i := 59) rfl)) rfl
theorem wM_X7_260 : Cond.methodLink RX7 260 yX7_asNotice ∈ lw_gt := in_g (in_t5 (List.mem_of_getElem? (i := 60) rfl)) rfl
theorem wI_X7_asNotice : Cond.instanceMethod yX7_asNotice ∈ lw_gt := in_g (in_t5 (List.mem_of_getElem? (i := 62) rfl)) rfl
theorem wC_X7_asNotice : Cond.code yX7_asNotice prog_9_method_62_code 2 (Option.some FieldType.int) ∈ lw_gt := in_g (in_t5 (List.mem_of_getElem? (i := 63) rfl)) rfl
theorem wW_X7_245 : Cond.constantLong RX7 245 (1000 : Int64) ∈ lw_gt := in_g (in_t5 (List.mem_of_getElem? (i := 64) rfl)) rfl
theorem wM_X7_263 : Cond.methodLink RX7 263 yX7_asLedger ∈ lw_gt := in_g (in_t5 (List.mem_of_getElem? (i := 65) rfl)) rfl
theorem wI_X7_asLedger : Cond.instanceMethod yX7_asLedger ∈ lw_gt := in_g (in_t5 (List.mem_of_getElem? (i := 67) rfl)) rfl
theorem wC_X7_asLedger : Cond.code yX7_asLedger prog_9_method_63_code 2 (Option.some FieldType.int) ∈ lw_gt := in_g (in_t5 (List.mem_of_getElem? (i := 68) rfl)) rfl
theorem wW_X7_250 : Cond.constantLong RX7 250 (10000 : Int64) ∈ lw_gt := in_g (in_t5 (List.mem_of_getElem? (i := 69) rfl)) rfl
theorem wM_X7_266 : Cond.methodLink RX7 266 yX7_asFlyer ∈ lw_gt := in_g (in_t5 (List.mem_of_getElem? (i := 70) rfl)) rfl
theorem wI_X7_asFlyer : Cond.instanceMethod yX7_asFlyer ∈ lw_gt := in_g (in_t5 (List.mem_of_getElem? (i := 72) rfl)) rfl
theorem wC_X7_asFlyer : Cond.code yX7_asFlyer prog_9_method_64_code 2 (Option.some FieldType.int) ∈ lw_gt := in_g (in_t5 (List.mem_of_getElem? (i := 73) rfl)) rfl
theorem wW_X7_255 : Cond.constantLong RX7 255 (100000 : Int64) ∈ lw_gt := in_g (in_t5 (List.mem_of_getElem? (i := 74) rfl)) rfl
theorem wM_L_113 : Cond.methodLink RL 113 yX7_keep ∈ lw_gt := in_g (in_t5 (List.mem_of_getElem? (i := 75) rfl)) rfl
theorem wI_X7_keep : Cond.instanceMethod yX7_keep ∈ lw_gt := in_g (in_t5 (List.mem_of_getElem? (i := 76) rfl)) rfl
theorem wS_X7_keep : Cond.selects RX7 yX7_keep yX7_keep ∈ lw_gt := in_g (in_t5 (List.mem_of_getElem? (i := 77) rfl)) rfl
theorem wC_X7_keep : Cond.code yX7_keep prog_9_method_66_code 4 (Option.some FieldType.int) ∈ lw_gt := in_g (in_t5 (List.mem_of_getElem? (i := 78) rfl)) rfl
theorem wM_L_117 : Cond.methodLink RL 117 yX7_back ∈ lw_gt := in_g (in_t5 (List.mem_of_getElem? (i := 79) rfl)) rfl
theorem wI_X7_back : Cond.instanceMethod yX7_back ∈ lw_gt := in_g (in_t5 (List.mem_of_getElem? (i := 80) rfl)) rfl
theorem wS_X7_back : Cond.selects RX7 yX7_back yX7_back ∈ lw_gt := in_g (in_t5 (List.mem_of_getElem? (i := 81) rfl)) rfl
theorem wC_X7_back : Cond.code yX7_back prog_9_method_67_code 4 (Option.some FieldType.int) ∈ lw_gt := in_g (in_t5 (List.mem_of_getElem? (i := 82) rfl)) rfl
theorem wM_L_121 : Cond.methodLink RL 121 yX7_count ∈ lw_gt := in_g (in_t5 (List.mem_of_getElem? (i := 83) rfl)) rfl
theorem wI_X7_count : Cond.instanceMethod yX7_count ∈ lw_gt := in_g (in_t5 (List.mem_of_getElem? (i := 84) rfl)) rfl
theorem wS_X7_count : Cond.selects RX7 yX7_count yX7_count ∈ lw_gt := in_g (in_t5 (List.mem_of_getElem? (i := 85) rfl)) rfl
theorem wC_X7_count : Cond.code yX7_count prog_9_method_68_code 2 (Option.some FieldType.int) ∈ lw_gt := in_g (in_t5 (List.mem_of_getElem? (i := 86) rfl)) rfl
theorem wM_L_126 : Cond.methodLink RL 126 yX7_trace ∈ lw_gt := in_g (in_t5 (List.mem_of_getElem? (i := 87) rfl)) rfl
theorem wI_X7_trace : Cond.instanceMethod yX7_trace ∈ lw_gt := in_g (in_t5 (List.mem_of_getElem? (i := 88) rfl)) rfl
theorem wS_X7_trace : Cond.selects RX7 yX7_trace yX7_trace ∈ lw_gt := in_g (in_t5 (List.mem_of_getElem? (i := 89) rfl)) rfl
theorem wC_X7_trace : Cond.code yX7_trace prog_9_method_69_code 1 (Option.some FieldType.long) ∈ lw_gt := in_g (in_t5 (List.mem_of_getElem? (i := 90) rfl)) rfl
end
section
theorem dX0_init_0 : decode cX0_init 0 = .ok (.aload_n 0, 1) := by decide +kernel
theorem dX0_init_1 : decode cX0_init 1 = .ok (.invokespecial 3, 3) := by decide +kernel
theorem dX0_init_4 : decode cX0_init 4 = .ok (.aload_n 0, 1) := by decide +kernel
theorem dX0_init_5 : decode cX0_init 5 = .ok (.new 9, 3) := by decide +kernel
theorem dX0_init_8 : decode cX0_init 8 = .ok (.dup, 1) := by decide +kernel
theorem dX0_init_9 : decode cX0_init 9 = .ok (.invokespecial 11, 3) := by decide +kernel
theorem dX0_init_12 : decode cX0_init 12 = .ok (.putfield 12, 3) := by decide +kernel
theorem dX0_init_15 : decode cX0_init 15 = .ok (.aload_n 0, 1) := by decide +kernel
theorem dX0_init_16 : decode cX0_init 16 = .ok (.bipush 10, 2) := by decide +kernel
theorem dX0_init_18 : decode cX0_init 18 = .ok (.anewarray 9, 3) := by decide +kernel
theorem dX0_init_21 : decode cX0_init 21 = .ok (.putfield 18, 3) := by decide +kernel
theorem dX0_init_24 : decode cX0_init 24 = .ok (.iconst 0, 1) := by decide +kernel
theorem dX0_init_25 : decode cX0_init 25 = .ok (.istore_n 1, 1) := by decide +kernel
theorem dX0_init_26 : decode cX0_init 26 = .ok (.iload_n 1, 1) := by decide +kernel
theorem dX0_init_27 : decode cX0_init 27 = .ok (.aload_n 0, 1) := by decide +kernel
theorem dX0_init_28 : decode cX0_init 28 = .ok (.getfield 18, 3) := by decide +kernel
theorem dX0_init_31 : decode cX0_init 31 = .ok (.arraylength, 1) := by decide +kernel
theorem dX0_init_32 : decode cX0_init 32 = .ok (.if_icmp .ge 22, 3) := by decide +kernel
theorem dX0_init_35 : decode cX0_init 35 = .ok (.aload_n 0, 1) := by decide +kernel
theorem dX0_init_36 : decode cX0_init 36 = .ok (.getfield 18, 3) := by decide +kernel
theorem dX0_init_39 : decode cX0_init 39 = .ok (.iload_n 1, 1) := by decide +kernel
theorem dX0_init_40 : decode cX0_init 40 = .ok (.new 9, 3) := by decide +kernel
theorem dX0_init_43 : decode cX0_init 43 = .ok (.dup, 1) := by decide +kernel
theorem dX0_init_44 : decode cX0_init 44 = .ok (.invokespecial 11, 3) := by decide +kernel
theorem dX0_init_47 : decode cX0_init 47 = .ok (.aastore, 1) := by decide +kernel
theorem dX0_init_48 : decode cX0_init 48 = .ok (.iinc 1 1, 3) := by decide +kernel
theorem dX0_init_51 : decode cX0_init 51 = .ok (.goto (-25), 3) := by decide +kernel
theorem dX0_init_54 : decode cX0_init 54 = .ok (.return_, 1) := by decide +kernel
theorem dX0_begin_0 : decode cX0_begin 0 = .ok (.aload_n 0, 1) := by decide +kernel
theorem dX0_begin_1 : decode cX0_begin 1 = .ok (.getfield 12, 3) := by decide +kernel
theorem dX0_begin_4 : decode cX0_begin 4 = .ok (.aload_n 1, 1) := by decide +kernel
theorem dX0_begin_5 : decode cX0_begin 5 = .ok (.invokevirtual 22, 3) := by decide +kernel
theorem dX0_begin_8 : decode cX0_begin 8 = .ok (.aload_n 0, 1) := by decide +kernel
theorem dX0_begin_9 : decode cX0_begin 9 = .ok (.iconst 0, 1) := by decide +kernel
theorem dX0_begin_10 : decode cX0_begin 10 = .ok (.putfield 26, 3) := by decide +kernel
theorem dX0_begin_13 : decode cX0_begin 13 = .ok (.aload_n 0, 1) := by decide +kernel
theorem dX0_begin_14 : decode cX0_begin 14 = .ok (.iconst 0, 1) := by decide +kernel
theorem dX0_begin_15 : decode cX0_begin 15 = .ok (.putfield 30, 3) := by decide +kernel
theorem dX0_begin_18 : decode cX0_begin 18 = .ok (.return_, 1) := by decide +kernel
theorem dX0_knownAt_0 : decode cX0_knownAt 0 = .ok (.aload_n 0, 1) := by decide +kernel
theorem dX0_knownAt_1 : decode cX0_knownAt 1 = .ok (.getfield 26, 3) := by decide +kernel
theorem dX0_knownAt_4 : decode cX0_knownAt 4 = .ok (.iload_n 1, 1) := by decide +kernel
theorem dX0_knownAt_5 : decode cX0_knownAt 5 = .ok (.iadd, 1) := by decide +kernel
theorem dX0_knownAt_6 : decode cX0_knownAt 6 = .ok (.bipush 10, 2) := by decide +kernel
theorem dX0_knownAt_8 : decode cX0_knownAt 8 = .ok (.invokestatic 33, 3) := by decide +kernel
theorem dX0_knownAt_11 : decode cX0_knownAt 11 = .ok (.istore_n 2, 1) := by decide +kernel
theorem dX0_knownAt_12 : decode cX0_knownAt 12 = .ok (.iload_n 2, 1) := by decide +kernel
theorem dX0_knownAt_13 : decode cX0_knownAt 13 = .ok (.aload_n 0, 1) := by decide +kernel
theorem dX0_knownAt_14 : decode cX0_knownAt 14 = .ok (.getfield 18, 3) := by decide +kernel
theorem dX0_knownAt_17 : decode cX0_knownAt 17 = .ok (.arraylength, 1) := by decide +kernel
theorem dX0_knownAt_18 : decode cX0_knownAt 18 = .ok (.if_icmp .ge 12, 3) := by decide +kernel
theorem dX0_knownAt_21 : decode cX0_knownAt 21 = .ok (.aload_n 0, 1) := by decide +kernel
theorem dX0_knownAt_22 : decode cX0_knownAt 22 = .ok (.getfield 18, 3) := by decide +kernel
theorem dX0_knownAt_25 : decode cX0_knownAt 25 = .ok (.iload_n 2, 1) := by decide +kernel
theorem dX0_knownAt_26 : decode cX0_knownAt 26 = .ok (.aaload, 1) := by decide +kernel
theorem dX0_knownAt_27 : decode cX0_knownAt 27 = .ok (.goto 4, 3) := by decide +kernel
theorem dX0_knownAt_30 : decode cX0_knownAt 30 = .ok (.aconst_null, 1) := by decide +kernel
theorem dX0_knownAt_31 : decode cX0_knownAt 31 = .ok (.areturn, 1) := by decide +kernel
theorem dX0_remember_0 : decode cX0_remember 0 = .ok (.aload_n 0, 1) := by decide +kernel
theorem dX0_remember_1 : decode cX0_remember 1 = .ok (.getfield 30, 3) := by decide +kernel
theorem dX0_remember_4 : decode cX0_remember 4 = .ok (.bipush 10, 2) := by decide +kernel
theorem dX0_remember_6 : decode cX0_remember 6 = .ok (.if_icmp .lt 24, 3) := by decide +kernel
theorem dX0_remember_9 : decode cX0_remember 9 = .ok (.aload_n 0, 1) := by decide +kernel
theorem dX0_remember_10 : decode cX0_remember 10 = .ok (.aload_n 0, 1) := by decide +kernel
theorem dX0_remember_11 : decode cX0_remember 11 = .ok (.getfield 26, 3) := by decide +kernel
theorem dX0_remember_14 : decode cX0_remember 14 = .ok (.iconst 1, 1) := by decide +kernel
theorem dX0_remember_15 : decode cX0_remember 15 = .ok (.iadd, 1) := by decide +kernel
theorem dX0_remember_16 : decode cX0_remember 16 = .ok (.bipush 10, 2) := by decide +kernel
theorem dX0_remember_18 : decode cX0_remember 18 = .ok (.invokestatic 33, 3) := by decide +kernel
theorem dX0_remember_21 : decode cX0_remember 21 = .ok (.putfield 26, 3) := by decide +kernel
theorem dX0_remember_24 : decode cX0_remember 24 = .ok (.aload_n 0, 1) := by decide +kernel
theorem dX0_remember_25 : decode cX0_remember 25 = .ok (.bipush 9, 2) := by decide +kernel
theorem dX0_remember_27 : decode cX0_remember 27 = .ok (.putfield 30, 3) := by decide +kernel
theorem dX0_remember_30 : decode cX0_remember 30 = .ok (.aload_n 0, 1) := by decide +kernel
theorem dX0_remember_31 : decode cX0_remember 31 = .ok (.aload_n 0, 1) := by decide +kernel
theorem dX0_remember_32 : decode cX0_remember 32 = .ok (.getfield 30, 3) := by decide +kernel
theorem dX0_remember_35 : decode cX0_remember 35 = .ok (.invokevirtual 39, 3) := by decide +kernel
theorem dX0_remember_38 : decode cX0_remember 38 = .ok (.astore_n 1, 1) := by decide +kernel
theorem dX0_remember_39 : decode cX0_remember 39 = .ok (.aload_n 1, 1) := by decide +kernel
theorem dX0_remember_40 : decode cX0_remember 40 = .ok (.ifnull 11, 3) := by decide +kernel
theorem dX0_remember_43 : decode cX0_remember 43 = .ok (.aload_n 1, 1) := by decide +kernel
theorem dX0_remember_44 : decode cX0_remember 44 = .ok (.aload_n 0, 1) := by decide +kernel
theorem dX0_remember_45 : decode cX0_remember 45 = .ok (.getfield 12, 3) := by decide +kernel
theorem dX0_remember_48 : decode cX0_remember 48 = .ok (.invokevirtual 43, 3) := by decide +kernel
theorem dX0_remember_51 : decode cX0_remember 51 = .ok (.aload_n 0, 1) := by decide +kernel
theorem dX0_remember_52 : decode cX0_remember 52 = .ok (.dup, 1) := by decide +kernel
theorem dX0_remember_53 : decode cX0_remember 53 = .ok (.getfield 30, 3) := by decide +kernel
theorem dX0_remember_56 : decode cX0_remember 56 = .ok (.iconst 1, 1) := by decide +kernel
theorem dX0_remember_57 : decode cX0_remember 57 = .ok (.iadd, 1) := by decide +kernel
theorem dX0_remember_58 : decode cX0_remember 58 = .ok (.putfield 30, 3) := by decide +kernel
theorem dX0_remember_61 : decode cX0_remember 61 = .ok (.return_, 1) := by decide +kernel
theorem dX0_takeBack_0 : decode cX0_takeBack 0 = .ok (.aload_n 0, 1) := by decide +kernel
theorem dX0_takeBack_1 : decode cX0_takeBack 1 = .ok (.getfield 30, 3) := by decide +kernel
theorem dX0_takeBack_4 : decode cX0_takeBack 4 = .ok (.ifCond .ne 4, 3) := by decide +kernel
theorem dX0_takeBack_7 : decode cX0_takeBack 7 = .ok (.return_, 1) := by decide +kernel
theorem dX0_takeBack_8 : decode cX0_takeBack 8 = .ok (.aload_n 0, 1) := by decide +kernel
theorem dX0_takeBack_9 : decode cX0_takeBack 9 = .ok (.dup, 1) := by decide +kernel
theorem dX0_takeBack_10 : decode cX0_takeBack 10 = .ok (.getfield 30, 3) := by decide +kernel
theorem dX0_takeBack_13 : decode cX0_takeBack 13 = .ok (.iconst 1, 1) := by decide +kernel
theorem dX0_takeBack_14 : decode cX0_takeBack 14 = .ok (.isub, 1) := by decide +kernel
theorem dX0_takeBack_15 : decode cX0_takeBack 15 = .ok (.putfield 30, 3) := by decide +kernel
theorem dX0_takeBack_18 : decode cX0_takeBack 18 = .ok (.aload_n 0, 1) := by decide +kernel
theorem dX0_takeBack_19 : decode cX0_takeBack 19 = .ok (.aload_n 0, 1) := by decide +kernel
theorem dX0_takeBack_20 : decode cX0_takeBack 20 = .ok (.getfield 30, 3) := by decide +kernel
theorem dX0_takeBack_23 : decode cX0_takeBack 23 = .ok (.invokevirtual 39, 3) := by decide +kernel
theorem dX0_takeBack_26 : decode cX0_takeBack 26 = .ok (.astore_n 1, 1) := by decide +kernel
theorem dX0_takeBack_27 : decode cX0_takeBack 27 = .ok (.aload_n 1, 1) := by decide +kernel
theorem dX0_takeBack_28 : decode cX0_takeBack 28 = .ok (.ifnull 11, 3) := by decide +kernel
theorem dX0_takeBack_31 : decode cX0_takeBack 31 = .ok (.aload_n 0, 1) := by decide +kernel
theorem dX0_takeBack_32 : decode cX0_takeBack 32 = .ok (.getfield 12, 3) := by decide +kernel
theorem dX0_takeBack_35 : decode cX0_takeBack 35 = .ok (.aload_n 1, 1) := by decide +kernel
theorem dX0_takeBack_36 : decode cX0_takeBack 36 = .ok (.invokevirtual 43, 3) := by decide +kernel
theorem dX0_takeBack_39 : decode cX0_takeBack 39 = .ok (.return_, 1) := by decide +kernel
theorem dX0_copyFrom_0 : decode cX0_copyFrom 0 = .ok (.aload_n 0, 1) := by decide +kernel
theorem dX0_copyFrom_1 : decode cX0_copyFrom 1 = .ok (.getfield 12, 3) := by decide +kernel
theorem dX0_copyFrom_4 : decode cX0_copyFrom 4 = .ok (.aload_n 1, 1) := by decide +kernel
theorem dX0_copyFrom_5 : decode cX0_copyFrom 5 = .ok (.getfield 12, 3) := by decide +kernel
theorem dX0_copyFrom_8 : decode cX0_copyFrom 8 = .ok (.invokevirtual 43, 3) := by decide +kernel
theorem dX0_copyFrom_11 : decode cX0_copyFrom 11 = .ok (.aload_n 0, 1) := by decide +kernel
theorem dX0_copyFrom_12 : decode cX0_copyFrom 12 = .ok (.iconst 0, 1) := by decide +kernel
theorem dX0_copyFrom_13 : decode cX0_copyFrom 13 = .ok (.putfield 26, 3) := by decide +kernel
theorem dX0_copyFrom_16 : decode cX0_copyFrom 16 = .ok (.aload_n 0, 1) := by decide +kernel
theorem dX0_copyFrom_17 : decode cX0_copyFrom 17 = .ok (.aload_n 1, 1) := by decide +kernel
theorem dX0_copyFrom_18 : decode cX0_copyFrom 18 = .ok (.getfield 30, 3) := by decide +kernel
theorem dX0_copyFrom_21 : decode cX0_copyFrom 21 = .ok (.putfield 30, 3) := by decide +kernel
theorem dX0_copyFrom_24 : decode cX0_copyFrom 24 = .ok (.iconst 0, 1) := by decide +kernel
theorem dX0_copyFrom_25 : decode cX0_copyFrom 25 = .ok (.istore_n 2, 1) := by decide +kernel
theorem dX0_copyFrom_26 : decode cX0_copyFrom 26 = .ok (.iload_n 2, 1) := by decide +kernel
theorem dX0_copyFrom_27 : decode cX0_copyFrom 27 = .ok (.aload_n 0, 1) := by decide +kernel
theorem dX0_copyFrom_28 : decode cX0_copyFrom 28 = .ok (.getfield 30, 3) := by decide +kernel
theorem dX0_copyFrom_31 : decode cX0_copyFrom 31 = .ok (.if_icmp .ge 37, 3) := by decide +kernel
theorem dX0_copyFrom_34 : decode cX0_copyFrom 34 = .ok (.aload_n 1, 1) := by decide +kernel
theorem dX0_copyFrom_35 : decode cX0_copyFrom 35 = .ok (.iload_n 2, 1) := by decide +kernel
theorem dX0_copyFrom_36 : decode cX0_copyFrom 36 = .ok (.invokevirtual 39, 3) := by decide +kernel
theorem dX0_copyFrom_39 : decode cX0_copyFrom 39 = .ok (.astore_n 3, 1) := by decide +kernel
theorem dX0_copyFrom_40 : decode cX0_copyFrom 40 = .ok (.aload_n 0, 1) := by decide +kernel
theorem dX0_copyFrom_41 : decode cX0_copyFrom 41 = .ok (.iload_n 2, 1) := by decide +kernel
theorem dX0_copyFrom_42 : decode cX0_copyFrom 42 = .ok (.invokevirtual 39, 3) := by decide +kernel
theorem dX0_copyFrom_45 : decode cX0_copyFrom 45 = .ok (.astore 4, 2) := by decide +kernel
theorem dX0_copyFrom_47 : decode cX0_copyFrom 47 = .ok (.aload_n 3, 1) := by decide +kernel
theorem dX0_copyFrom_48 : decode cX0_copyFrom 48 = .ok (.ifnull 14, 3) := by decide +kernel
theorem dX0_copyFrom_51 : decode cX0_copyFrom 51 = .ok (.aload 4, 2) := by decide +kernel
theorem dX0_copyFrom_53 : decode cX0_copyFrom 53 = .ok (.ifnull 9, 3) := by decide +kernel
theorem dX0_copyFrom_56 : decode cX0_copyFrom 56 = .ok (.aload 4, 2) := by decide +kernel
theorem dX0_copyFrom_58 : decode cX0_copyFrom 58 = .ok (.aload_n 3, 1) := by decide +kernel
theorem dX0_copyFrom_59 : decode cX0_copyFrom 59 = .ok (.invokevirtual 43, 3) := by decide +kernel
theorem dX0_copyFrom_62 : decode cX0_copyFrom 62 = .ok (.iinc 2 1, 3) := by decide +kernel
theorem dX0_copyFrom_65 : decode cX0_copyFrom 65 = .ok (.goto (-39), 3) := by decide +kernel
theorem dX0_copyFrom_68 : decode cX0_copyFrom 68 = .ok (.return_, 1) := by decide +kernel
theorem dX1_init_0 : decode cX1_init 0 = .ok (.aload_n 0, 1) := by decide +kernel
theorem dX1_init_1 : decode cX1_init 1 = .ok (.invokespecial 1, 3) := by decide +kernel
theorem dX1_init_4 : decode cX1_init 4 = .ok (.aload_n 0, 1) := by decide +kernel
theorem dX1_init_5 : decode cX1_init 5 = .ok (.iconst 1, 1) := by decide +kernel
theorem dX1_init_6 : decode cX1_init 6 = .ok (.putfield 7, 3) := by decide +kernel
theorem dX1_init_9 : decode cX1_init 9 = .ok (.aload_n 0, 1) := by decide +kernel
theorem dX1_init_10 : decode cX1_init 10 = .ok (.iconst 1, 1) := by decide +kernel
theorem dX1_init_11 : decode cX1_init 11 = .ok (.putfield 13, 3) := by decide +kernel
theorem dX1_init_14 : decode cX1_init 14 = .ok (.aload_n 0, 1) := by decide +kernel
theorem dX1_init_15 : decode cX1_init 15 = .ok (.iconst 1, 1) := by decide +kernel
theorem dX1_init_16 : decode cX1_init 16 = .ok (.putfield 16, 3) := by decide +kernel
theorem dX1_init_19 : decode cX1_init 19 = .ok (.aload_n 0, 1) := by decide +kernel
theorem dX1_init_20 : decode cX1_init 20 = .ok (.iconst 1, 1) := by decide +kernel
theorem dX1_init_21 : decode cX1_init 21 = .ok (.putfield 19, 3) := by decide +kernel
theorem dX1_init_24 : decode cX1_init 24 = .ok (.return_, 1) := by decide +kernel
theorem dX1_tell_0 : decode cX1_tell 0 = .ok (.aload_n 0, 1) := by decide +kernel
theorem dX1_tell_1 : decode cX1_tell 1 = .ok (.aload_n 1, 1) := by decide +kernel
theorem dX1_tell_2 : decode cX1_tell 2 = .ok (.iconst 0, 1) := by decide +kernel
theorem dX1_tell_3 : decode cX1_tell 3 = .ok (.invokestatic 22, 3) := by decide +kernel
theorem dX1_tell_6 : decode cX1_tell 6 = .ok (.putfield 7, 3) := by decide +kernel
theorem dX1_tell_9 : decode cX1_tell 9 = .ok (.aload_n 0, 1) := by decide +kernel
theorem dX1_tell_10 : decode cX1_tell 10 = .ok (.aload_n 1, 1) := by decide +kernel
theorem dX1_tell_11 : decode cX1_tell 11 = .ok (.iconst 1, 1) := by decide +kernel
theorem dX1_tell_12 : decode cX1_tell 12 = .ok (.invokestatic 22, 3) := by decide +kernel
theorem dX1_tell_15 : decode cX1_tell 15 = .ok (.putfield 13, 3) := by decide +kernel
theorem dX1_tell_18 : decode cX1_tell 18 = .ok (.aload_n 0, 1) := by decide +kernel
theorem dX1_tell_19 : decode cX1_tell 19 = .ok (.aload_n 1, 1) := by decide +kernel
theorem dX1_tell_20 : decode cX1_tell 20 = .ok (.iconst 2, 1) := by decide +kernel
theorem dX1_tell_21 : decode cX1_tell 21 = .ok (.invokestatic 22, 3) := by decide +kernel
theorem dX1_tell_24 : decode cX1_tell 24 = .ok (.iconst 1, 1) := by decide +kernel
theorem dX1_tell_25 : decode cX1_tell 25 = .ok (.if_icmp .ne 7, 3) := by decide +kernel
theorem dX1_tell_28 : decode cX1_tell 28 = .ok (.iconst 1, 1) := by decide +kernel
theorem dX1_tell_29 : decode cX1_tell 29 = .ok (.goto 4, 3) := by decide +kernel
theorem dX1_tell_32 : decode cX1_tell 32 = .ok (.iconst 0, 1) := by decide +kernel
theorem dX1_tell_33 : decode cX1_tell 33 = .ok (.putfield 28, 3) := by decide +kernel
theorem dX1_tell_36 : decode cX1_tell 36 = .ok (.aload_n 0, 1) := by decide +kernel
theorem dX1_tell_37 : decode cX1_tell 37 = .ok (.aload_n 1, 1) := by decide +kernel
theorem dX1_tell_38 : decode cX1_tell 38 = .ok (.iconst 3, 1) := by decide +kernel
theorem dX1_tell_39 : decode cX1_tell 39 = .ok (.invokestatic 22, 3) := by decide +kernel
theorem dX1_tell_42 : decode cX1_tell 42 = .ok (.iconst 1, 1) := by decide +kernel
theorem dX1_tell_43 : decode cX1_tell 43 = .ok (.if_icmp .ne 7, 3) := by decide +kernel
theorem dX1_tell_46 : decode cX1_tell 46 = .ok (.iconst 1, 1) := by decide +kernel
theorem dX1_tell_47 : decode cX1_tell 47 = .ok (.goto 4, 3) := by decide +kernel
theorem dX1_tell_50 : decode cX1_tell 50 = .ok (.iconst 0, 1) := by decide +kernel
theorem dX1_tell_51 : decode cX1_tell 51 = .ok (.putfield 32, 3) := by decide +kernel
theorem dX1_tell_54 : decode cX1_tell 54 = .ok (.aload_n 0, 1) := by decide +kernel
theorem dX1_tell_55 : decode cX1_tell 55 = .ok (.aload_n 1, 1) := by decide +kernel
theorem dX1_tell_56 : decode cX1_tell 56 = .ok (.iconst 4, 1) := by decide +kernel
theorem dX1_tell_57 : decode cX1_tell 57 = .ok (.invokestatic 22, 3) := by decide +kernel
theorem dX1_tell_60 : decode cX1_tell 60 = .ok (.putfield 35, 3) := by decide +kernel
theorem dX1_tell_63 : decode cX1_tell 63 = .ok (.aload_n 0, 1) := by decide +kernel
theorem dX1_tell_64 : decode cX1_tell 64 = .ok (.aload_n 0, 1) := by decide +kernel
theorem dX1_tell_65 : decode cX1_tell 65 = .ok (.getfield 28, 3) := by decide +kernel
theorem dX1_tell_68 : decode cX1_tell 68 = .ok (.ifCond .eq 14, 3) := by decide +kernel
theorem dX1_tell_71 : decode cX1_tell 71 = .ok (.aload_n 0, 1) := by decide +kernel
theorem dX1_tell_72 : decode cX1_tell 72 = .ok (.getfield 7, 3) := by decide +kernel
theorem dX1_tell_75 : decode cX1_tell 75 = .ok (.iconst 1, 1) := by decide +kernel
theorem dX1_tell_76 : decode cX1_tell 76 = .ok (.iadd, 1) := by decide +kernel
theorem dX1_tell_77 : decode cX1_tell 77 = .ok (.iconst 2, 1) := by decide +kernel
theorem dX1_tell_78 : decode cX1_tell 78 = .ok (.idiv, 1) := by decide +kernel
theorem dX1_tell_79 : decode cX1_tell 79 = .ok (.goto 7, 3) := by decide +kernel
theorem dX1_tell_82 : decode cX1_tell 82 = .ok (.aload_n 0, 1) := by decide +kernel
theorem dX1_tell_83 : decode cX1_tell 83 = .ok (.getfield 7, 3) := by decide +kernel
theorem dX1_tell_86 : decode cX1_tell 86 = .ok (.putfield 16, 3) := by decide +kernel
theorem dX1_tell_89 : decode cX1_tell 89 = .ok (.aload_n 0, 1) := by decide +kernel
theorem dX1_tell_90 : decode cX1_tell 90 = .ok (.aload_n 0, 1) := by decide +kernel
theorem dX1_tell_91 : decode cX1_tell 91 = .ok (.getfield 32, 3) := by decide +kernel
theorem dX1_tell_94 : decode cX1_tell 94 = .ok (.ifCond .eq 10, 3) := by decide +kernel
theorem dX1_tell_97 : decode cX1_tell 97 = .ok (.aload_n 0, 1) := by decide +kernel
theorem dX1_tell_98 : decode cX1_tell 98 = .ok (.getfield 16, 3) := by decide +kernel
theorem dX1_tell_101 : decode cX1_tell 101 = .ok (.goto 7, 3) := by decide +kernel
theorem dX1_tell_104 : decode cX1_tell 104 = .ok (.aload_n 0, 1) := by decide +kernel
theorem dX1_tell_105 : decode cX1_tell 105 = .ok (.getfield 13, 3) := by decide +kernel
theorem dX1_tell_108 : decode cX1_tell 108 = .ok (.putfield 19, 3) := by decide +kernel
theorem dX1_tell_111 : decode cX1_tell 111 = .ok (.return_, 1) := by decide +kernel
theorem dX1_all_0 : decode cX1_all 0 = .ok (.aload_n 0, 1) := by decide +kernel
theorem dX1_all_1 : decode cX1_all 1 = .ok (.getfield 16, 3) := by decide +kernel
theorem dX1_all_4 : decode cX1_all 4 = .ok (.aload_n 0, 1) := by decide +kernel
theorem dX1_all_5 : decode cX1_all 5 = .ok (.getfield 13, 3) := by decide +kernel
theorem dX1_all_8 : decode cX1_all 8 = .ok (.imul, 1) := by decide +kernel
theorem dX1_all_9 : decode cX1_all 9 = .ok (.ireturn, 1) := by decide +kernel
theorem dX1_hasSheet_0 : decode cX1_hasSheet 0 = .ok (.iload_n 1, 1) := by decide +kernel
theorem dX1_hasSheet_1 : decode cX1_hasSheet 1 = .ok (.ifCond .lt 15, 3) := by decide +kernel
theorem dX1_hasSheet_4 : decode cX1_hasSheet 4 = .ok (.iload_n 1, 1) := by decide +kernel
theorem dX1_hasSheet_5 : decode cX1_hasSheet 5 = .ok (.aload_n 0, 1) := by decide +kernel
theorem dX1_hasSheet_6 : decode cX1_hasSheet 6 = .ok (.invokevirtual 38, 3) := by decide +kernel
theorem dX1_hasSheet_9 : decode cX1_hasSheet 9 = .ok (.if_icmp .ge 7, 3) := by decide +kernel
theorem dX1_hasSheet_12 : decode cX1_hasSheet 12 = .ok (.iconst 1, 1) := by decide +kernel
theorem dX1_hasSheet_13 : decode cX1_hasSheet 13 = .ok (.goto 4, 3) := by decide +kernel
theorem dX1_hasSheet_16 : decode cX1_hasSheet 16 = .ok (.iconst 0, 1) := by decide +kernel
theorem dX1_hasSheet_17 : decode cX1_hasSheet 17 = .ok (.ireturn, 1) := by decide +kernel
theorem dX1_hasPage_0 : decode cX1_hasPage 0 = .ok (.iload_n 1, 1) := by decide +kernel
theorem dX1_hasPage_1 : decode cX1_hasPage 1 = .ok (.iconst 1, 1) := by decide +kernel
theorem dX1_hasPage_2 : decode cX1_hasPage 2 = .ok (.if_icmp .lt 15, 3) := by decide +kernel
theorem dX1_hasPage_5 : decode cX1_hasPage 5 = .ok (.iload_n 1, 1) := by decide +kernel
theorem dX1_hasPage_6 : decode cX1_hasPage 6 = .ok (.aload_n 0, 1) := by decide +kernel
theorem dX1_hasPage_7 : decode cX1_hasPage 7 = .ok (.getfield 7, 3) := by decide +kernel
theorem dX1_hasPage_10 : decode cX1_hasPage 10 = .ok (.if_icmp .gt 7, 3) := by decide +kernel
theorem dX1_hasPage_13 : decode cX1_hasPage 13 = .ok (.iconst 1, 1) := by decide +kernel
theorem dX1_hasPage_14 : decode cX1_hasPage 14 = .ok (.goto 4, 3) := by decide +kernel
theorem dX1_hasPage_17 : decode cX1_hasPage 17 = .ok (.iconst 0, 1) := by decide +kernel
theorem dX1_hasPage_18 : decode cX1_hasPage 18 = .ok (.ireturn, 1) := by decide +kernel
theorem dX1_copyOf_0 : decode cX1_copyOf 0 = .ok (.aload_n 0, 1) := by decide +kernel
theorem dX1_copyOf_1 : decode cX1_copyOf 1 = .ok (.getfield 19, 3) := by decide +kernel
theorem dX1_copyOf_4 : decode cX1_copyOf 4 = .ok (.ifCond .gt 5, 3) := by decide +kernel
theorem dX1_copyOf_7 : decode cX1_copyOf 7 = .ok (.iconst 0, 1) := by decide +kernel
theorem dX1_copyOf_8 : decode cX1_copyOf 8 = .ok (.ireturn, 1) := by decide +kernel
theorem dX1_copyOf_9 : decode cX1_copyOf 9 = .ok (.aload_n 0, 1) := by decide +kernel
theorem dX1_copyOf_10 : decode cX1_copyOf 10 = .ok (.getfield 32, 3) := by decide +kernel
theorem dX1_copyOf_13 : decode cX1_copyOf 13 = .ok (.ifCond .eq 12, 3) := by decide +kernel
theorem dX1_copyOf_16 : decode cX1_copyOf 16 = .ok (.iload_n 1, 1) := by decide +kernel
theorem dX1_copyOf_17 : decode cX1_copyOf 17 = .ok (.aload_n 0, 1) := by decide +kernel
theorem dX1_copyOf_18 : decode cX1_copyOf 18 = .ok (.getfield 19, 3) := by decide +kernel
theorem dX1_copyOf_21 : decode cX1_copyOf 21 = .ok (.idiv, 1) := by decide +kernel
theorem dX1_copyOf_22 : decode cX1_copyOf 22 = .ok (.goto 9, 3) := by decide +kernel
theorem dX1_copyOf_25 : decode cX1_copyOf 25 = .ok (.iload_n 1, 1) := by decide +kernel
theorem dX1_copyOf_26 : decode cX1_copyOf 26 = .ok (.aload_n 0, 1) := by decide +kernel
theorem dX1_copyOf_27 : decode cX1_copyOf 27 = .ok (.getfield 19, 3) := by decide +kernel
theorem dX1_copyOf_30 : decode cX1_copyOf 30 = .ok (.irem, 1) := by decide +kernel
theorem dX1_copyOf_31 : decode cX1_copyOf 31 = .ok (.ireturn, 1) := by decide +kernel
theorem dX1_leafOf_0 : decode cX1_leafOf 0 = .ok (.aload_n 0, 1) := by decide +kernel
theorem dX1_leafOf_1 : decode cX1_leafOf 1 = .ok (.getfield 19, 3) := by decide +kernel
theorem dX1_leafOf_4 : decode cX1_leafOf 4 = .ok (.ifCond .gt 5, 3) := by decide +kernel
theorem dX1_leafOf_7 : decode cX1_leafOf 7 = .ok (.iconst 0, 1) := by decide +kernel
theorem dX1_leafOf_8 : decode cX1_leafOf 8 = .ok (.ireturn, 1) := by decide +kernel
theorem dX1_leafOf_9 : decode cX1_leafOf 9 = .ok (.aload_n 0, 1) := by decide +kernel
theorem dX1_leafOf_10 : decode cX1_leafOf 10 = .ok (.getfield 32, 3) := by decide +kernel
theorem dX1_leafOf_13 : decode cX1_leafOf 13 = .ok (.ifCond .eq 12, 3) := by decide +kernel
theorem dX1_leafOf_16 : decode cX1_leafOf 16 = .ok (.iload_n 1, 1) := by decide +kernel
theorem dX1_leafOf_17 : decode cX1_leafOf 17 = .ok (.aload_n 0, 1) := by decide +kernel
theorem dX1_leafOf_18 : decode cX1_leafOf 18 = .ok (.getfield 19, 3) := by decide +kernel
theorem dX1_leafOf_21 : decode cX1_leafOf 21 = .ok (.irem, 1) := by decide +kernel
theorem dX1_leafOf_22 : decode cX1_leafOf 22 = .ok (.goto 9, 3) := by decide +kernel
theorem dX1_leafOf_25 : decode cX1_leafOf 25 = .ok (.iload_n 1, 1) := by decide +kernel
theorem dX1_leafOf_26 : decode cX1_leafOf 26 = .ok (.aload_n 0, 1) := by decide +kernel
theorem dX1_leafOf_27 : decode cX1_leafOf 27 = .ok (.getfield 19, 3) := by decide +kernel
theorem dX1_leafOf_30 : decode cX1_leafOf 30 = .ok (.idiv, 1) := by decide +kernel
theorem dX1_leafOf_31 : decode cX1_leafOf 31 = .ok (.ireturn, 1) := by decide +kernel
theorem dX1_frontOf_0 : decode cX1_frontOf 0 = .ok (.aload_n 0, 1) := by decide +kernel
theorem dX1_frontOf_1 : decode cX1_frontOf 1 = .ok (.getfield 28, 3) := by decide +kernel
theorem dX1_frontOf_4 : decode cX1_frontOf 4 = .ok (.ifCond .eq 15, 3) := by decide +kernel
theorem dX1_frontOf_7 : decode cX1_frontOf 7 = .ok (.iconst 2, 1) := by decide +kernel
theorem dX1_frontOf_8 : decode cX1_frontOf 8 = .ok (.aload_n 0, 1) := by decide +kernel
theorem dX1_frontOf_9 : decode cX1_frontOf 9 = .ok (.iload_n 1, 1) := by decide +kernel
theorem dX1_frontOf_10 : decode cX1_frontOf 10 = .ok (.invokevirtual 42, 3) := by decide +kernel
theorem dX1_frontOf_13 : decode cX1_frontOf 13 = .ok (.imul, 1) := by decide +kernel
theorem dX1_frontOf_14 : decode cX1_frontOf 14 = .ok (.iconst 1, 1) := by decide +kernel
theorem dX1_frontOf_15 : decode cX1_frontOf 15 = .ok (.iadd, 1) := by decide +kernel
theorem dX1_frontOf_16 : decode cX1_frontOf 16 = .ok (.goto 10, 3) := by decide +kernel
theorem dX1_frontOf_19 : decode cX1_frontOf 19 = .ok (.aload_n 0, 1) := by decide +kernel
theorem dX1_frontOf_20 : decode cX1_frontOf 20 = .ok (.iload_n 1, 1) := by decide +kernel
theorem dX1_frontOf_21 : decode cX1_frontOf 21 = .ok (.invokevirtual 42, 3) := by decide +kernel
theorem dX1_frontOf_24 : decode cX1_frontOf 24 = .ok (.iconst 1, 1) := by decide +kernel
theorem dX1_frontOf_25 : decode cX1_frontOf 25 = .ok (.iadd, 1) := by decide +kernel
theorem dX1_frontOf_26 : decode cX1_frontOf 26 = .ok (.ireturn, 1) := by decide +kernel
theorem dX1_backOf_0 : decode cX1_backOf 0 = .ok (.iconst 2, 1) := by decide +kernel
theorem dX1_backOf_1 : decode cX1_backOf 1 = .ok (.aload_n 0, 1) := by decide +kernel
theorem dX1_backOf_2 : decode cX1_backOf 2 = .ok (.iload_n 1, 1) := by decide +kernel
theorem dX1_backOf_3 : decode cX1_backOf 3 = .ok (.invokevirtual 42, 3) := by decide +kernel
theorem dX1_backOf_6 : decode cX1_backOf 6 = .ok (.imul, 1) := by decide +kernel
theorem dX1_backOf_7 : decode cX1_backOf 7 = .ok (.iconst 2, 1) := by decide +kernel
theorem dX1_backOf_8 : decode cX1_backOf 8 = .ok (.iadd, 1) := by decide +kernel
theorem dX1_backOf_9 : decode cX1_backOf 9 = .ok (.istore_n 2, 1) := by decide +kernel
theorem dX1_backOf_10 : decode cX1_backOf 10 = .ok (.aload_n 0, 1) := by decide +kernel
theorem dX1_backOf_11 : decode cX1_backOf 11 = .ok (.getfield 28, 3) := by decide +kernel
theorem dX1_backOf_14 : decode cX1_backOf 14 = .ok (.ifCond .eq 15, 3) := by decide +kernel
theorem dX1_backOf_17 : decode cX1_backOf 17 = .ok (.iload_n 2, 1) := by decide +kernel
theorem dX1_backOf_18 : decode cX1_backOf 18 = .ok (.aload_n 0, 1) := by decide +kernel
theorem dX1_backOf_19 : decode cX1_backOf 19 = .ok (.getfield 7, 3) := by decide +kernel
theorem dX1_backOf_22 : decode cX1_backOf 22 = .ok (.if_icmp .gt 7, 3) := by decide +kernel
theorem dX1_backOf_25 : decode cX1_backOf 25 = .ok (.iload_n 2, 1) := by decide +kernel
theorem dX1_backOf_26 : decode cX1_backOf 26 = .ok (.goto 4, 3) := by decide +kernel
theorem dX1_backOf_29 : decode cX1_backOf 29 = .ok (.iconst 0, 1) := by decide +kernel
theorem dX1_backOf_30 : decode cX1_backOf 30 = .ok (.ireturn, 1) := by decide +kernel
theorem dX1_sidesOf_0 : decode cX1_sidesOf 0 = .ok (.aload_n 0, 1) := by decide +kernel
theorem dX1_sidesOf_1 : decode cX1_sidesOf 1 = .ok (.iload_n 1, 1) := by decide +kernel
theorem dX1_sidesOf_2 : decode cX1_sidesOf 2 = .ok (.invokevirtual 46, 3) := by decide +kernel
theorem dX1_sidesOf_5 : decode cX1_sidesOf 5 = .ok (.ifCond .ne 7, 3) := by decide +kernel
theorem dX1_sidesOf_8 : decode cX1_sidesOf 8 = .ok (.iconst 1, 1) := by decide +kernel
theorem dX1_sidesOf_9 : decode cX1_sidesOf 9 = .ok (.goto 4, 3) := by decide +kernel
theorem dX1_sidesOf_12 : decode cX1_sidesOf 12 = .ok (.iconst 2, 1) := by decide +kernel
theorem dX1_sidesOf_13 : decode cX1_sidesOf 13 = .ok (.ireturn, 1) := by decide +kernel
theorem dX1_sheetWith_0 : decode cX1_sheetWith 0 = .ok (.aload_n 0, 1) := by decide +kernel
theorem dX1_sheetWith_1 : decode cX1_sheetWith 1 = .ok (.getfield 28, 3) := by decide +kernel
theorem dX1_sheetWith_4 : decode cX1_sheetWith 4 = .ok (.ifCond .eq 11, 3) := by decide +kernel
theorem dX1_sheetWith_7 : decode cX1_sheetWith 7 = .ok (.iload_n 1, 1) := by decide +kernel
theorem dX1_sheetWith_8 : decode cX1_sheetWith 8 = .ok (.iconst 1, 1) := by decide +kernel
theorem dX1_sheetWith_9 : decode cX1_sheetWith 9 = .ok (.isub, 1) := by decide +kernel
theorem dX1_sheetWith_10 : decode cX1_sheetWith 10 = .ok (.iconst 2, 1) := by decide +kernel
theorem dX1_sheetWith_11 : decode cX1_sheetWith 11 = .ok (.idiv, 1) := by decide +kernel
theorem dX1_sheetWith_12 : decode cX1_sheetWith 12 = .ok (.goto 6, 3) := by decide +kernel
theorem dX1_sheetWith_15 : decode cX1_sheetWith 15 = .ok (.iload_n 1, 1) := by decide +kernel
theorem dX1_sheetWith_16 : decode cX1_sheetWith 16 = .ok (.iconst 1, 1) := by decide +kernel
theorem dX1_sheetWith_17 : decode cX1_sheetWith 17 = .ok (.isub, 1) := by decide +kernel
theorem dX1_sheetWith_18 : decode cX1_sheetWith 18 = .ok (.istore_n 3, 1) := by decide +kernel
theorem dX1_sheetWith_19 : decode cX1_sheetWith 19 = .ok (.aload_n 0, 1) := by decide +kernel
theorem dX1_sheetWith_20 : decode cX1_sheetWith 20 = .ok (.getfield 32, 3) := by decide +kernel
theorem dX1_sheetWith_23 : decode cX1_sheetWith 23 = .ok (.ifCond .eq 14, 3) := by decide +kernel
theorem dX1_sheetWith_26 : decode cX1_sheetWith 26 = .ok (.iload_n 2, 1) := by decide +kernel
theorem dX1_sheetWith_27 : decode cX1_sheetWith 27 = .ok (.aload_n 0, 1) := by decide +kernel
theorem dX1_sheetWith_28 : decode cX1_sheetWith 28 = .ok (.getfield 16, 3) := by decide +kernel
theorem dX1_sheetWith_31 : decode cX1_sheetWith 31 = .ok (.imul, 1) := by decide +kernel
theorem dX1_sheetWith_32 : decode cX1_sheetWith 32 = .ok (.iload_n 3, 1) := by decide +kernel
theorem dX1_sheetWith_33 : decode cX1_sheetWith 33 = .ok (.iadd, 1) := by decide +kernel
theorem dX1_sheetWith_34 : decode cX1_sheetWith 34 = .ok (.goto 11, 3) := by decide +kernel
theorem dX1_sheetWith_37 : decode cX1_sheetWith 37 = .ok (.iload_n 3, 1) := by decide +kernel
theorem dX1_sheetWith_38 : decode cX1_sheetWith 38 = .ok (.aload_n 0, 1) := by decide +kernel
theorem dX1_sheetWith_39 : decode cX1_sheetWith 39 = .ok (.getfield 13, 3) := by decide +kernel
theorem dX1_sheetWith_42 : decode cX1_sheetWith 42 = .ok (.imul, 1) := by decide +kernel
theorem dX1_sheetWith_43 : decode cX1_sheetWith 43 = .ok (.iload_n 2, 1) := by decide +kernel
theorem dX1_sheetWith_44 : decode cX1_sheetWith 44 = .ok (.iadd, 1) := by decide +kernel
theorem dX1_sheetWith_45 : decode cX1_sheetWith 45 = .ok (.ireturn, 1) := by decide +kernel
theorem dX2_init_0 : decode cX2_init 0 = .ok (.aload_n 0, 1) := by decide +kernel
theorem dX2_init_1 : decode cX2_init 1 = .ok (.invokespecial 3, 3) := by decide +kernel
theorem dX2_init_4 : decode cX2_init 4 = .ok (.aload_n 0, 1) := by decide +kernel
theorem dX2_init_5 : decode cX2_init 5 = .ok (.bipush 6, 2) := by decide +kernel
theorem dX2_init_7 : decode cX2_init 7 = .ok (.newarray .int, 2) := by decide +kernel
theorem dX2_init_9 : decode cX2_init 9 = .ok (.putfield 9, 3) := by decide +kernel
theorem dX2_init_12 : decode cX2_init 12 = .ok (.aload_n 0, 1) := by decide +kernel
theorem dX2_init_13 : decode cX2_init 13 = .ok (.bipush 6, 2) := by decide +kernel
theorem dX2_init_15 : decode cX2_init 15 = .ok (.newarray .int, 2) := by decide +kernel
theorem dX2_init_17 : decode cX2_init 17 = .ok (.putfield 15, 3) := by decide +kernel
theorem dX2_init_20 : decode cX2_init 20 = .ok (.aload_n 0, 1) := by decide +kernel
theorem dX2_init_21 : decode cX2_init 21 = .ok (.bipush 6, 2) := by decide +kernel
theorem dX2_init_23 : decode cX2_init 23 = .ok (.newarray .int, 2) := by decide +kernel
theorem dX2_init_25 : decode cX2_init 25 = .ok (.putfield 18, 3) := by decide +kernel
theorem dX2_init_28 : decode cX2_init 28 = .ok (.aload_n 0, 1) := by decide +kernel
theorem dX2_init_29 : decode cX2_init 29 = .ok (.iconst 3, 1) := by decide +kernel
theorem dX2_init_30 : decode cX2_init 30 = .ok (.newarray .int, 2) := by decide +kernel
theorem dX2_init_32 : decode cX2_init 32 = .ok (.putfield 21, 3) := by decide +kernel
theorem dX2_init_35 : decode cX2_init 35 = .ok (.aload_n 0, 1) := by decide +kernel
theorem dX2_init_36 : decode cX2_init 36 = .ok (.bipush 6, 2) := by decide +kernel
theorem dX2_init_38 : decode cX2_init 38 = .ok (.newarray .int, 2) := by decide +kernel
theorem dX2_init_40 : decode cX2_init 40 = .ok (.putfield 24, 3) := by decide +kernel
theorem dX2_init_43 : decode cX2_init 43 = .ok (.return_, 1) := by decide +kernel
theorem dX2_begin_0 : decode cX2_begin 0 = .ok (.aload_n 0, 1) := by decide +kernel
theorem dX2_begin_1 : decode cX2_begin 1 = .ok (.iconst 0, 1) := by decide +kernel
theorem dX2_begin_2 : decode cX2_begin 2 = .ok (.putfield 27, 3) := by decide +kernel
theorem dX2_begin_5 : decode cX2_begin 5 = .ok (.aload_n 0, 1) := by decide +kernel
theorem dX2_begin_6 : decode cX2_begin 6 = .ok (.aload_n 1, 1) := by decide +kernel
theorem dX2_begin_7 : decode cX2_begin 7 = .ok (.getfield 31, 3) := by decide +kernel
theorem dX2_begin_10 : decode cX2_begin 10 = .ok (.putfield 36, 3) := by decide +kernel
theorem dX2_begin_13 : decode cX2_begin 13 = .ok (.aload_n 0, 1) := by decide +kernel
theorem dX2_begin_14 : decode cX2_begin 14 = .ok (.iconst 0, 1) := by decide +kernel
theorem dX2_begin_15 : decode cX2_begin 15 = .ok (.putfield 37, 3) := by decide +kernel
theorem dX2_begin_18 : decode cX2_begin 18 = .ok (.aload_n 0, 1) := by decide +kernel
theorem dX2_begin_19 : decode cX2_begin 19 = .ok (.aload_n 1, 1) := by decide +kernel
theorem dX2_begin_20 : decode cX2_begin 20 = .ok (.getfield 41, 3) := by decide +kernel
theorem dX2_begin_23 : decode cX2_begin 23 = .ok (.putfield 44, 3) := by decide +kernel
theorem dX2_begin_26 : decode cX2_begin 26 = .ok (.iconst 0, 1) := by decide +kernel
theorem dX2_begin_27 : decode cX2_begin 27 = .ok (.istore_n 2, 1) := by decide +kernel
theorem dX2_begin_28 : decode cX2_begin 28 = .ok (.iload_n 2, 1) := by decide +kernel
theorem dX2_begin_29 : decode cX2_begin 29 = .ok (.aload_n 0, 1) := by decide +kernel
theorem dX2_begin_30 : decode cX2_begin 30 = .ok (.getfield 9, 3) := by decide +kernel
theorem dX2_begin_33 : decode cX2_begin 33 = .ok (.arraylength, 1) := by decide +kernel
theorem dX2_begin_34 : decode cX2_begin 34 = .ok (.if_icmp .ge 16, 3) := by decide +kernel
theorem dX2_begin_37 : decode cX2_begin 37 = .ok (.aload_n 0, 1) := by decide +kernel
theorem dX2_begin_38 : decode cX2_begin 38 = .ok (.getfield 9, 3) := by decide +kernel
theorem dX2_begin_41 : decode cX2_begin 41 = .ok (.iload_n 2, 1) := by decide +kernel
theorem dX2_begin_42 : decode cX2_begin 42 = .ok (.iload_n 2, 1) := by decide +kernel
theorem dX2_begin_43 : decode cX2_begin 43 = .ok (.iastore, 1) := by decide +kernel
theorem dX2_begin_44 : decode cX2_begin 44 = .ok (.iinc 2 1, 3) := by decide +kernel
theorem dX2_begin_47 : decode cX2_begin 47 = .ok (.goto (-19), 3) := by decide +kernel
theorem dX2_begin_50 : decode cX2_begin 50 = .ok (.aload_n 0, 1) := by decide +kernel
theorem dX2_begin_51 : decode cX2_begin 51 = .ok (.getfield 15, 3) := by decide +kernel
theorem dX2_begin_54 : decode cX2_begin 54 = .ok (.iconst 0, 1) := by decide +kernel
theorem dX2_begin_55 : decode cX2_begin 55 = .ok (.invokestatic 47, 3) := by decide +kernel
theorem dX2_begin_58 : decode cX2_begin 58 = .ok (.aload_n 0, 1) := by decide +kernel
theorem dX2_begin_59 : decode cX2_begin 59 = .ok (.getfield 18, 3) := by decide +kernel
theorem dX2_begin_62 : decode cX2_begin 62 = .ok (.bipush (-9), 2) := by decide +kernel
theorem dX2_begin_64 : decode cX2_begin 64 = .ok (.invokestatic 47, 3) := by decide +kernel
theorem dX2_begin_67 : decode cX2_begin 67 = .ok (.aload_n 1, 1) := by decide +kernel
theorem dX2_begin_68 : decode cX2_begin 68 = .ok (.getfield 53, 3) := by decide +kernel
theorem dX2_begin_71 : decode cX2_begin 71 = .ok (.aload_n 0, 1) := by decide +kernel
theorem dX2_begin_72 : decode cX2_begin 72 = .ok (.getfield 21, 3) := by decide +kernel
theorem dX2_begin_75 : decode cX2_begin 75 = .ok (.invokestatic 54, 3) := by decide +kernel
theorem dX2_begin_78 : decode cX2_begin 78 = .ok (.aload_n 0, 1) := by decide +kernel
theorem dX2_begin_79 : decode cX2_begin 79 = .ok (.getfield 24, 3) := by decide +kernel
theorem dX2_begin_82 : decode cX2_begin 82 = .ok (.iconst 0, 1) := by decide +kernel
theorem dX2_begin_83 : decode cX2_begin 83 = .ok (.invokestatic 47, 3) := by decide +kernel
theorem dX2_begin_86 : decode cX2_begin 86 = .ok (.return_, 1) := by decide +kernel
theorem dX2_copyFrom_0 : decode cX2_copyFrom 0 = .ok (.aload_n 0, 1) := by decide +kernel
theorem dX2_copyFrom_1 : decode cX2_copyFrom 1 = .ok (.aload_n 1, 1) := by decide +kernel
theorem dX2_copyFrom_2 : decode cX2_copyFrom 2 = .ok (.getfield 27, 3) := by decide +kernel
theorem dX2_copyFrom_5 : decode cX2_copyFrom 5 = .ok (.putfield 27, 3) := by decide +kernel
theorem dX2_copyFrom_8 : decode cX2_copyFrom 8 = .ok (.aload_n 0, 1) := by decide +kernel
theorem dX2_copyFrom_9 : decode cX2_copyFrom 9 = .ok (.aload_n 1, 1) := by decide +kernel
theorem dX2_copyFrom_10 : decode cX2_copyFrom 10 = .ok (.getfield 36, 3) := by decide +kernel
theorem dX2_copyFrom_13 : decode cX2_copyFrom 13 = .ok (.putfield 36, 3) := by decide +kernel
theorem dX2_copyFrom_16 : decode cX2_copyFrom 16 = .ok (.aload_n 0, 1) := by decide +kernel
theorem dX2_copyFrom_17 : decode cX2_copyFrom 17 = .ok (.aload_n 1, 1) := by decide +kernel
theorem dX2_copyFrom_18 : decode cX2_copyFrom 18 = .ok (.getfield 37, 3) := by decide +kernel
theorem dX2_copyFrom_21 : decode cX2_copyFrom 21 = .ok (.putfield 37, 3) := by decide +kernel
theorem dX2_copyFrom_24 : decode cX2_copyFrom 24 = .ok (.aload_n 0, 1) := by decide +kernel
theorem dX2_copyFrom_25 : decode cX2_copyFrom 25 = .ok (.aload_n 1, 1) := by decide +kernel
theorem dX2_copyFrom_26 : decode cX2_copyFrom 26 = .ok (.getfield 44, 3) := by decide +kernel
theorem dX2_copyFrom_29 : decode cX2_copyFrom 29 = .ok (.putfield 44, 3) := by decide +kernel
theorem dX2_copyFrom_32 : decode cX2_copyFrom 32 = .ok (.aload_n 1, 1) := by decide +kernel
theorem dX2_copyFrom_33 : decode cX2_copyFrom 33 = .ok (.getfield 9, 3) := by decide +kernel
theorem dX2_copyFrom_36 : decode cX2_copyFrom 36 = .ok (.aload_n 0, 1) := by decide +kernel
theorem dX2_copyFrom_37 : decode cX2_copyFrom 37 = .ok (.getfield 9, 3) := by decide +kernel
theorem dX2_copyFrom_40 : decode cX2_copyFrom 40 = .ok (.invokestatic 54, 3) := by decide +kernel
theorem dX2_copyFrom_43 : decode cX2_copyFrom 43 = .ok (.aload_n 1, 1) := by decide +kernel
theorem dX2_copyFrom_44 : decode cX2_copyFrom 44 = .ok (.getfield 15, 3) := by decide +kernel
theorem dX2_copyFrom_47 : decode cX2_copyFrom 47 = .ok (.aload_n 0, 1) := by decide +kernel
theorem dX2_copyFrom_48 : decode cX2_copyFrom 48 = .ok (.getfield 15, 3) := by decide +kernel
theorem dX2_copyFrom_51 : decode cX2_copyFrom 51 = .ok (.invokestatic 54, 3) := by decide +kernel
theorem dX2_copyFrom_54 : decode cX2_copyFrom 54 = .ok (.aload_n 1, 1) := by decide +kernel
theorem dX2_copyFrom_55 : decode cX2_copyFrom 55 = .ok (.getfield 18, 3) := by decide +kernel
theorem dX2_copyFrom_58 : decode cX2_copyFrom 58 = .ok (.aload_n 0, 1) := by decide +kernel
theorem dX2_copyFrom_59 : decode cX2_copyFrom 59 = .ok (.getfield 18, 3) := by decide +kernel
theorem dX2_copyFrom_62 : decode cX2_copyFrom 62 = .ok (.invokestatic 54, 3) := by decide +kernel
theorem dX2_copyFrom_65 : decode cX2_copyFrom 65 = .ok (.aload_n 1, 1) := by decide +kernel
theorem dX2_copyFrom_66 : decode cX2_copyFrom 66 = .ok (.getfield 21, 3) := by decide +kernel
theorem dX2_copyFrom_69 : decode cX2_copyFrom 69 = .ok (.aload_n 0, 1) := by decide +kernel
theorem dX2_copyFrom_70 : decode cX2_copyFrom 70 = .ok (.getfield 21, 3) := by decide +kernel
theorem dX2_copyFrom_73 : decode cX2_copyFrom 73 = .ok (.invokestatic 54, 3) := by decide +kernel
theorem dX2_copyFrom_76 : decode cX2_copyFrom 76 = .ok (.aload_n 1, 1) := by decide +kernel
theorem dX2_copyFrom_77 : decode cX2_copyFrom 77 = .ok (.getfield 24, 3) := by decide +kernel
theorem dX2_copyFrom_80 : decode cX2_copyFrom 80 = .ok (.aload_n 0, 1) := by decide +kernel
theorem dX2_copyFrom_81 : decode cX2_copyFrom 81 = .ok (.getfield 24, 3) := by decide +kernel
theorem dX2_copyFrom_84 : decode cX2_copyFrom 84 = .ok (.invokestatic 54, 3) := by decide +kernel
theorem dX2_copyFrom_87 : decode cX2_copyFrom 87 = .ok (.return_, 1) := by decide +kernel
theorem dX2_madeOf_0 : decode cX2_madeOf 0 = .ok (.aload_n 0, 1) := by decide +kernel
theorem dX2_madeOf_1 : decode cX2_madeOf 1 = .ok (.getfield 15, 3) := by decide +kernel
theorem dX2_madeOf_4 : decode cX2_madeOf 4 = .ok (.iload_n 1, 1) := by decide +kernel
theorem dX2_madeOf_5 : decode cX2_madeOf 5 = .ok (.invokestatic 58, 3) := by decide +kernel
theorem dX2_madeOf_8 : decode cX2_madeOf 8 = .ok (.ireturn, 1) := by decide +kernel
theorem dX2_endOf_0 : decode cX2_endOf 0 = .ok (.aload_n 0, 1) := by decide +kernel
theorem dX2_endOf_1 : decode cX2_endOf 1 = .ok (.getfield 18, 3) := by decide +kernel
theorem dX2_endOf_4 : decode cX2_endOf 4 = .ok (.iload_n 1, 1) := by decide +kernel
theorem dX2_endOf_5 : decode cX2_endOf 5 = .ok (.invokestatic 58, 3) := by decide +kernel
theorem dX2_endOf_8 : decode cX2_endOf 8 = .ok (.ireturn, 1) := by decide +kernel
theorem dX2_firstJob_0 : decode cX2_firstJob 0 = .ok (.aload_n 0, 1) := by decide +kernel
theorem dX2_firstJob_1 : decode cX2_firstJob 1 = .ok (.getfield 44, 3) := by decide +kernel
theorem dX2_firstJob_4 : decode cX2_firstJob 4 = .ok (.ifCond .le 14, 3) := by decide +kernel
theorem dX2_firstJob_7 : decode cX2_firstJob 7 = .ok (.aload_n 0, 1) := by decide +kernel
theorem dX2_firstJob_8 : decode cX2_firstJob 8 = .ok (.getfield 9, 3) := by decide +kernel
theorem dX2_firstJob_11 : decode cX2_firstJob 11 = .ok (.iconst 0, 1) := by decide +kernel
theorem dX2_firstJob_12 : decode cX2_firstJob 12 = .ok (.invokestatic 58, 3) := by decide +kernel
theorem dX2_firstJob_15 : decode cX2_firstJob 15 = .ok (.goto 5, 3) := by decide +kernel
theorem dX2_firstJob_18 : decode cX2_firstJob 18 = .ok (.bipush (-9), 2) := by decide +kernel
theorem dX2_firstJob_20 : decode cX2_firstJob 20 = .ok (.ireturn, 1) := by decide +kernel
theorem dX2_placeOf_0 : decode cX2_placeOf 0 = .ok (.iconst 0, 1) := by decide +kernel
theorem dX2_placeOf_1 : decode cX2_placeOf 1 = .ok (.istore_n 2, 1) := by decide +kernel
theorem dX2_placeOf_2 : decode cX2_placeOf 2 = .ok (.iload_n 2, 1) := by decide +kernel
theorem dX2_placeOf_3 : decode cX2_placeOf 3 = .ok (.aload_n 0, 1) := by decide +kernel
theorem dX2_placeOf_4 : decode cX2_placeOf 4 = .ok (.getfield 44, 3) := by decide +kernel
theorem dX2_placeOf_7 : decode cX2_placeOf 7 = .ok (.if_icmp .ge 30, 3) := by decide +kernel
theorem dX2_placeOf_10 : decode cX2_placeOf 10 = .ok (.iload_n 2, 1) := by decide +kernel
theorem dX2_placeOf_11 : decode cX2_placeOf 11 = .ok (.aload_n 0, 1) := by decide +kernel
theorem dX2_placeOf_12 : decode cX2_placeOf 12 = .ok (.getfield 9, 3) := by decide +kernel
theorem dX2_placeOf_15 : decode cX2_placeOf 15 = .ok (.arraylength, 1) := by decide +kernel
theorem dX2_placeOf_16 : decode cX2_placeOf 16 = .ok (.if_icmp .ge 21, 3) := by decide +kernel
theorem dX2_placeOf_19 : decode cX2_placeOf 19 = .ok (.aload_n 0, 1) := by decide +kernel
theorem dX2_placeOf_20 : decode cX2_placeOf 20 = .ok (.getfield 9, 3) := by decide +kernel
theorem dX2_placeOf_23 : decode cX2_placeOf 23 = .ok (.iload_n 2, 1) := by decide +kernel
theorem dX2_placeOf_24 : decode cX2_placeOf 24 = .ok (.iaload, 1) := by decide +kernel
theorem dX2_placeOf_25 : decode cX2_placeOf 25 = .ok (.iload_n 1, 1) := by decide +kernel
theorem dX2_placeOf_26 : decode cX2_placeOf 26 = .ok (.if_icmp .ne 5, 3) := by decide +kernel
theorem dX2_placeOf_29 : decode cX2_placeOf 29 = .ok (.iload_n 2, 1) := by decide +kernel
theorem dX2_placeOf_30 : decode cX2_placeOf 30 = .ok (.ireturn, 1) := by decide +kernel
theorem dX2_placeOf_31 : decode cX2_placeOf 31 = .ok (.iinc 2 1, 3) := by decide +kernel
theorem dX2_placeOf_34 : decode cX2_placeOf 34 = .ok (.goto (-32), 3) := by decide +kernel
theorem dX2_placeOf_37 : decode cX2_placeOf 37 = .ok (.bipush (-9), 2) := by decide +kernel
theorem dX2_placeOf_39 : decode cX2_placeOf 39 = .ok (.ireturn, 1) := by decide +kernel
theorem dX2_comeToHead_0 : decode cX2_comeToHead 0 = .ok (.aload_n 0, 1) := by decide +kernel
theorem dX2_comeToHead_1 : decode cX2_comeToHead 1 = .ok (.iload_n 1, 1) := by decide +kernel
theorem dX2_comeToHead_2 : decode cX2_comeToHead 2 = .ok (.invokevirtual 62, 3) := by decide +kernel
theorem dX2_comeToHead_5 : decode cX2_comeToHead 5 = .ok (.istore_n 2, 1) := by decide +kernel
theorem dX2_comeToHead_6 : decode cX2_comeToHead 6 = .ok (.iload_n 2, 1) := by decide +kernel
theorem dX2_comeToHead_7 : decode cX2_comeToHead 7 = .ok (.ifCond .le 27, 3) := by decide +kernel
theorem dX2_comeToHead_10 : decode cX2_comeToHead 10 = .ok (.aload_n 0, 1) := by decide +kernel
theorem dX2_comeToHead_11 : decode cX2_comeToHead 11 = .ok (.getfield 9, 3) := by decide +kernel
theorem dX2_comeToHead_14 : decode cX2_comeToHead 14 = .ok (.iload_n 2, 1) := by decide +kernel
theorem dX2_comeToHead_15 : decode cX2_comeToHead 15 = .ok (.aload_n 0, 1) := by decide +kernel
theorem dX2_comeToHead_16 : decode cX2_comeToHead 16 = .ok (.getfield 9, 3) := by decide +kernel
theorem dX2_comeToHead_19 : decode cX2_comeToHead 19 = .ok (.iload_n 2, 1) := by decide +kernel
theorem dX2_comeToHead_20 : decode cX2_comeToHead 20 = .ok (.iconst 1, 1) := by decide +kernel
theorem dX2_comeToHead_21 : decode cX2_comeToHead 21 = .ok (.isub, 1) := by decide +kernel
theorem dX2_comeToHead_22 : decode cX2_comeToHead 22 = .ok (.invokestatic 58, 3) := by decide +kernel
theorem dX2_comeToHead_25 : decode cX2_comeToHead 25 = .ok (.invokestatic 66, 3) := by decide +kernel
theorem dX2_comeToHead_28 : decode cX2_comeToHead 28 = .ok (.iinc 2 (-1), 3) := by decide +kernel
theorem dX2_comeToHead_31 : decode cX2_comeToHead 31 = .ok (.goto (-25), 3) := by decide +kernel
theorem dX2_comeToHead_34 : decode cX2_comeToHead 34 = .ok (.aload_n 0, 1) := by decide +kernel
theorem dX2_comeToHead_35 : decode cX2_comeToHead 35 = .ok (.getfield 9, 3) := by decide +kernel
theorem dX2_comeToHead_38 : decode cX2_comeToHead 38 = .ok (.iconst 0, 1) := by decide +kernel
theorem dX2_comeToHead_39 : decode cX2_comeToHead 39 = .ok (.iload_n 1, 1) := by decide +kernel
theorem dX2_comeToHead_40 : decode cX2_comeToHead 40 = .ok (.invokestatic 66, 3) := by decide +kernel
theorem dX2_comeToHead_43 : decode cX2_comeToHead 43 = .ok (.aload_n 0, 1) := by decide +kernel
theorem dX2_comeToHead_44 : decode cX2_comeToHead 44 = .ok (.iconst 0, 1) := by decide +kernel
theorem dX2_comeToHead_45 : decode cX2_comeToHead 45 = .ok (.putfield 37, 3) := by decide +kernel
theorem dX2_comeToHead_48 : decode cX2_comeToHead 48 = .ok (.return_, 1) := by decide +kernel
theorem dX2_leaveQueue_0 : decode cX2_leaveQueue 0 = .ok (.aload_n 0, 1) := by decide +kernel
theorem dX2_leaveQueue_1 : decode cX2_leaveQueue 1 = .ok (.iload_n 1, 1) := by decide +kernel
theorem dX2_leaveQueue_2 : decode cX2_leaveQueue 2 = .ok (.invokevirtual 62, 3) := by decide +kernel
theorem dX2_leaveQueue_5 : decode cX2_leaveQueue 5 = .ok (.istore_n 2, 1) := by decide +kernel
theorem dX2_leaveQueue_6 : decode cX2_leaveQueue 6 = .ok (.iload_n 2, 1) := by decide +kernel
theorem dX2_leaveQueue_7 : decode cX2_leaveQueue 7 = .ok (.bipush (-9), 2) := by decide +kernel
theorem dX2_leaveQueue_9 : decode cX2_leaveQueue 9 = .ok (.if_icmp .ne 4, 3) := by decide +kernel
theorem dX2_leaveQueue_12 : decode cX2_leaveQueue 12 = .ok (.return_, 1) := by decide +kernel
theorem dX2_leaveQueue_13 : decode cX2_leaveQueue 13 = .ok (.iload_n 2, 1) := by decide +kernel
theorem dX2_leaveQueue_14 : decode cX2_leaveQueue 14 = .ok (.ifCond .ne 8, 3) := by decide +kernel
theorem dX2_leaveQueue_17 : decode cX2_leaveQueue 17 = .ok (.aload_n 0, 1) := by decide +kernel
theorem dX2_leaveQueue_18 : decode cX2_leaveQueue 18 = .ok (.iconst 0, 1) := by decide +kernel
theorem dX2_leaveQueue_19 : decode cX2_leaveQueue 19 = .ok (.putfield 37, 3) := by decide +kernel
theorem dX2_leaveQueue_22 : decode cX2_leaveQueue 22 = .ok (.iload_n 2, 1) := by decide +kernel
theorem dX2_leaveQueue_23 : decode cX2_leaveQueue 23 = .ok (.istore_n 3, 1) := by decide +kernel
theorem dX2_leaveQueue_24 : decode cX2_leaveQueue 24 = .ok (.iload_n 3, 1) := by decide +kernel
theorem dX2_leaveQueue_25 : decode cX2_leaveQueue 25 = .ok (.iconst 1, 1) := by decide +kernel
theorem dX2_leaveQueue_26 : decode cX2_leaveQueue 26 = .ok (.iadd, 1) := by decide +kernel
theorem dX2_leaveQueue_27 : decode cX2_leaveQueue 27 = .ok (.aload_n 0, 1) := by decide +kernel
theorem dX2_leaveQueue_28 : decode cX2_leaveQueue 28 = .ok (.getfield 44, 3) := by decide +kernel
theorem dX2_leaveQueue_31 : decode cX2_leaveQueue 31 = .ok (.if_icmp .ge 27, 3) := by decide +kernel
theorem dX2_leaveQueue_34 : decode cX2_leaveQueue 34 = .ok (.aload_n 0, 1) := by decide +kernel
theorem dX2_leaveQueue_35 : decode cX2_leaveQueue 35 = .ok (.getfield 9, 3) := by decide +kernel
theorem dX2_leaveQueue_38 : decode cX2_leaveQueue 38 = .ok (.iload_n 3, 1) := by decide +kernel
theorem dX2_leaveQueue_39 : decode cX2_leaveQueue 39 = .ok (.aload_n 0, 1) := by decide +kernel
theorem dX2_leaveQueue_40 : decode cX2_leaveQueue 40 = .ok (.getfield 9, 3) := by decide +kernel
theorem dX2_leaveQueue_43 : decode cX2_leaveQueue 43 = .ok (.iload_n 3, 1) := by decide +kernel
theorem dX2_leaveQueue_44 : decode cX2_leaveQueue 44 = .ok (.iconst 1, 1) := by decide +kernel
theorem dX2_leaveQueue_45 : decode cX2_leaveQueue 45 = .ok (.iadd, 1) := by decide +kernel
theorem dX2_leaveQueue_46 : decode cX2_leaveQueue 46 = .ok (.invokestatic 58, 3) := by decide +kernel
theorem dX2_leaveQueue_49 : decode cX2_leaveQueue 49 = .ok (.invokestatic 66, 3) := by decide +kernel
theorem dX2_leaveQueue_52 : decode cX2_leaveQueue 52 = .ok (.iinc 3 1, 3) := by decide +kernel
theorem dX2_leaveQueue_55 : decode cX2_leaveQueue 55 = .ok (.goto (-31), 3) := by decide +kernel
theorem dX2_leaveQueue_58 : decode cX2_leaveQueue 58 = .ok (.aload_n 0, 1) := by decide +kernel
theorem dX2_leaveQueue_59 : decode cX2_leaveQueue 59 = .ok (.dup, 1) := by decide +kernel
theorem dX2_leaveQueue_60 : decode cX2_leaveQueue 60 = .ok (.getfield 44, 3) := by decide +kernel
theorem dX2_leaveQueue_63 : decode cX2_leaveQueue 63 = .ok (.iconst 1, 1) := by decide +kernel
theorem dX2_leaveQueue_64 : decode cX2_leaveQueue 64 = .ok (.isub, 1) := by decide +kernel
theorem dX2_leaveQueue_65 : decode cX2_leaveQueue 65 = .ok (.putfield 44, 3) := by decide +kernel
theorem dX2_leaveQueue_68 : decode cX2_leaveQueue 68 = .ok (.return_, 1) := by decide +kernel
theorem dX2_whyStands_0 : decode cX2_whyStands 0 = .ok (.aload_n 0, 1) := by decide +kernel
theorem dX2_whyStands_1 : decode cX2_whyStands 1 = .ok (.invokevirtual 70, 3) := by decide +kernel
theorem dX2_whyStands_4 : decode cX2_whyStands 4 = .ok (.istore_n 2, 1) := by decide +kernel
theorem dX2_whyStands_5 : decode cX2_whyStands 5 = .ok (.aload_n 1, 1) := by decide +kernel
theorem dX2_whyStands_6 : decode cX2_whyStands 6 = .ok (.iload_n 2, 1) := by decide +kernel
theorem dX2_whyStands_7 : decode cX2_whyStands 7 = .ok (.invokevirtual 74, 3) := by decide +kernel
theorem dX2_whyStands_10 : decode cX2_whyStands 10 = .ok (.astore_n 3, 1) := by decide +kernel
theorem dX2_whyStands_11 : decode cX2_whyStands 11 = .ok (.aload_n 3, 1) := by decide +kernel
theorem dX2_whyStands_12 : decode cX2_whyStands 12 = .ok (.ifnonnull 5, 3) := by decide +kernel
theorem dX2_whyStands_15 : decode cX2_whyStands 15 = .ok (.iconst 0, 1) := by decide +kernel
theorem dX2_whyStands_16 : decode cX2_whyStands 16 = .ok (.ireturn, 1) := by decide +kernel
theorem dX2_whyStands_17 : decode cX2_whyStands 17 = .ok (.aload_n 0, 1) := by decide +kernel
theorem dX2_whyStands_18 : decode cX2_whyStands 18 = .ok (.iload_n 2, 1) := by decide +kernel
theorem dX2_whyStands_19 : decode cX2_whyStands 19 = .ok (.invokevirtual 78, 3) := by decide +kernel
theorem dX2_whyStands_22 : decode cX2_whyStands 22 = .ok (.istore 4, 2) := by decide +kernel
theorem dX2_whyStands_24 : decode cX2_whyStands 24 = .ok (.aload_n 0, 1) := by decide +kernel
theorem dX2_whyStands_25 : decode cX2_whyStands 25 = .ok (.getfield 21, 3) := by decide +kernel
theorem dX2_whyStands_28 : decode cX2_whyStands 28 = .ok (.aload_n 3, 1) := by decide +kernel
theorem dX2_whyStands_29 : decode cX2_whyStands 29 = .ok (.getfield 81, 3) := by decide +kernel
theorem dX2_whyStands_32 : decode cX2_whyStands 32 = .ok (.invokestatic 58, 3) := by decide +kernel
theorem dX2_whyStands_35 : decode cX2_whyStands 35 = .ok (.ifCond .gt 5, 3) := by decide +kernel
theorem dX2_whyStands_38 : decode cX2_whyStands 38 = .ok (.iconst 1, 1) := by decide +kernel
theorem dX2_whyStands_39 : decode cX2_whyStands 39 = .ok (.ireturn, 1) := by decide +kernel
theorem dX2_whyStands_40 : decode cX2_whyStands 40 = .ok (.aload_n 0, 1) := by decide +kernel
theorem dX2_whyStands_41 : decode cX2_whyStands 41 = .ok (.getfield 36, 3) := by decide +kernel
theorem dX2_whyStands_44 : decode cX2_whyStands 44 = .ok (.aload_n 3, 1) := by decide +kernel
theorem dX2_whyStands_45 : decode cX2_whyStands 45 = .ok (.iload 4, 2) := by decide +kernel
theorem dX2_whyStands_47 : decode cX2_whyStands 47 = .ok (.invokevirtual 86, 3) := by decide +kernel
theorem dX2_whyStands_50 : decode cX2_whyStands 50 = .ok (.if_icmp .ge 5, 3) := by decide +kernel
theorem dX2_whyStands_53 : decode cX2_whyStands 53 = .ok (.iconst 2, 1) := by decide +kernel
theorem dX2_whyStands_54 : decode cX2_whyStands 54 = .ok (.ireturn, 1) := by decide +kernel
theorem dX2_whyStands_55 : decode cX2_whyStands 55 = .ok (.aload_n 0, 1) := by decide +kernel
theorem dX2_whyStands_56 : decode cX2_whyStands 56 = .ok (.getfield 24, 3) := by decide +kernel
theorem dX2_whyStands_59 : decode cX2_whyStands 59 = .ok (.aload_n 1, 1) := by decide +kernel
theorem dX2_whyStands_60 : decode cX2_whyStands 60 = .ok (.aload_n 3, 1) := by decide +kernel
theorem dX2_whyStands_61 : decode cX2_whyStands 61 = .ok (.iload 4, 2) := by decide +kernel
theorem dX2_whyStands_63 : decode cX2_whyStands 63 = .ok (.invokevirtual 89, 3) := by decide +kernel
theorem dX2_whyStands_66 : decode cX2_whyStands 66 = .ok (.invokestatic 58, 3) := by decide +kernel
theorem dX2_whyStands_69 : decode cX2_whyStands 69 = .ok (.bipush 20, 2) := by decide +kernel
theorem dX2_whyStands_71 : decode cX2_whyStands 71 = .ok (.if_icmp .lt 7, 3) := by decide +kernel
theorem dX2_whyStands_74 : decode cX2_whyStands 74 = .ok (.iconst 3, 1) := by decide +kernel
theorem dX2_whyStands_75 : decode cX2_whyStands 75 = .ok (.goto 4, 3) := by decide +kernel
theorem dX2_whyStands_78 : decode cX2_whyStands 78 = .ok (.iconst 0, 1) := by decide +kernel
theorem dX2_whyStands_79 : decode cX2_whyStands 79 = .ok (.ireturn, 1) := by decide +kernel
theorem dX2_passTick_0 : decode cX2_passTick 0 = .ok (.aload_n 0, 1) := by decide +kernel
theorem dX2_passTick_1 : decode cX2_passTick 1 = .ok (.dup, 1) := by decide +kernel
theorem dX2_passTick_2 : decode cX2_passTick 2 = .ok (.getfield 27, 3) := by decide +kernel
theorem dX2_passTick_5 : decode cX2_passTick 5 = .ok (.iconst 1, 1) := by decide +kernel
theorem dX2_passTick_6 : decode cX2_passTick 6 = .ok (.iadd, 1) := by decide +kernel
theorem dX2_passTick_7 : decode cX2_passTick 7 = .ok (.putfield 27, 3) := by decide +kernel
theorem dX2_passTick_10 : decode cX2_passTick 10 = .ok (.aload_n 0, 1) := by decide +kernel
theorem dX2_passTick_11 : decode cX2_passTick 11 = .ok (.invokevirtual 70, 3) := by decide +kernel
theorem dX2_passTick_14 : decode cX2_passTick 14 = .ok (.istore_n 2, 1) := by decide +kernel
theorem dX2_passTick_15 : decode cX2_passTick 15 = .ok (.aload_n 1, 1) := by decide +kernel
theorem dX2_passTick_16 : decode cX2_passTick 16 = .ok (.iload_n 2, 1) := by decide +kernel
theorem dX2_passTick_17 : decode cX2_passTick 17 = .ok (.invokevirtual 74, 3) := by decide +kernel
theorem dX2_passTick_20 : decode cX2_passTick 20 = .ok (.astore_n 3, 1) := by decide +kernel
theorem dX2_passTick_21 : decode cX2_passTick 21 = .ok (.aload_n 3, 1) := by decide +kernel
theorem dX2_passTick_22 : decode cX2_passTick 22 = .ok (.ifnull 11, 3) := by decide +kernel
theorem dX2_passTick_25 : decode cX2_passTick 25 = .ok (.aload_n 0, 1) := by decide +kernel
theorem dX2_passTick_26 : decode cX2_passTick 26 = .ok (.aload_n 1, 1) := by decide +kernel
theorem dX2_passTick_27 : decode cX2_passTick 27 = .ok (.invokevirtual 93, 3) := by decide +kernel
theorem dX2_passTick_30 : decode cX2_passTick 30 = .ok (.ifCond .eq 5, 3) := by decide +kernel
theorem dX2_passTick_33 : decode cX2_passTick 33 = .ok (.iconst 0, 1) := by decide +kernel
theorem dX2_passTick_34 : decode cX2_passTick 34 = .ok (.ireturn, 1) := by decide +kernel
theorem dX2_passTick_35 : decode cX2_passTick 35 = .ok (.aload_n 0, 1) := by decide +kernel
theorem dX2_passTick_36 : decode cX2_passTick 36 = .ok (.getfield 37, 3) := by decide +kernel
theorem dX2_passTick_39 : decode cX2_passTick 39 = .ok (.ifCond .ne 23, 3) := by decide +kernel
theorem dX2_passTick_42 : decode cX2_passTick 42 = .ok (.aload_n 3, 1) := by decide +kernel
theorem dX2_passTick_43 : decode cX2_passTick 43 = .ok (.aload_n 0, 1) := by decide +kernel
theorem dX2_passTick_44 : decode cX2_passTick 44 = .ok (.iload_n 2, 1) := by decide +kernel
theorem dX2_passTick_45 : decode cX2_passTick 45 = .ok (.invokevirtual 78, 3) := by decide +kernel
theorem dX2_passTick_48 : decode cX2_passTick 48 = .ok (.invokevirtual 86, 3) := by decide +kernel
theorem dX2_passTick_51 : decode cX2_passTick 51 = .ok (.iconst 2, 1) := by decide +kernel
theorem dX2_passTick_52 : decode cX2_passTick 52 = .ok (.if_icmp .ne 10, 3) := by decide +kernel
theorem dX2_passTick_55 : decode cX2_passTick 55 = .ok (.aload_n 0, 1) := by decide +kernel
theorem dX2_passTick_56 : decode cX2_passTick 56 = .ok (.iconst 1, 1) := by decide +kernel
theorem dX2_passTick_57 : decode cX2_passTick 57 = .ok (.putfield 37, 3) := by decide +kernel
theorem dX2_passTick_60 : decode cX2_passTick 60 = .ok (.iconst 0, 1) := by decide +kernel
theorem dX2_passTick_61 : decode cX2_passTick 61 = .ok (.ireturn, 1) := by decide +kernel
theorem dX2_passTick_62 : decode cX2_passTick 62 = .ok (.aload_n 0, 1) := by decide +kernel
theorem dX2_passTick_63 : decode cX2_passTick 63 = .ok (.aload_n 1, 1) := by decide +kernel
theorem dX2_passTick_64 : decode cX2_passTick 64 = .ok (.aload_n 3, 1) := by decide +kernel
theorem dX2_passTick_65 : decode cX2_passTick 65 = .ok (.iload_n 2, 1) := by decide +kernel
theorem dX2_passTick_66 : decode cX2_passTick 66 = .ok (.invokevirtual 97, 3) := by decide +kernel
theorem dX2_passTick_69 : decode cX2_passTick 69 = .ok (.iconst 1, 1) := by decide +kernel
theorem dX2_passTick_70 : decode cX2_passTick 70 = .ok (.ireturn, 1) := by decide +kernel
theorem dX2_bringSheet_0 : decode cX2_bringSheet 0 = .ok (.aload_n 0, 1) := by decide +kernel
theorem dX2_bringSheet_1 : decode cX2_bringSheet 1 = .ok (.iload_n 3, 1) := by decide +kernel
theorem dX2_bringSheet_2 : decode cX2_bringSheet 2 = .ok (.invokevirtual 78, 3) := by decide +kernel
theorem dX2_bringSheet_5 : decode cX2_bringSheet 5 = .ok (.istore 4, 2) := by decide +kernel
theorem dX2_bringSheet_7 : decode cX2_bringSheet 7 = .ok (.aload_n 1, 1) := by decide +kernel
theorem dX2_bringSheet_8 : decode cX2_bringSheet 8 = .ok (.aload_n 2, 1) := by decide +kernel
theorem dX2_bringSheet_9 : decode cX2_bringSheet 9 = .ok (.iload 4, 2) := by decide +kernel
theorem dX2_bringSheet_11 : decode cX2_bringSheet 11 = .ok (.invokevirtual 89, 3) := by decide +kernel
theorem dX2_bringSheet_14 : decode cX2_bringSheet 14 = .ok (.istore 5, 2) := by decide +kernel
theorem dX2_bringSheet_16 : decode cX2_bringSheet 16 = .ok (.aload_n 0, 1) := by decide +kernel
theorem dX2_bringSheet_17 : decode cX2_bringSheet 17 = .ok (.iconst 0, 1) := by decide +kernel
theorem dX2_bringSheet_18 : decode cX2_bringSheet 18 = .ok (.putfield 37, 3) := by decide +kernel
theorem dX2_bringSheet_21 : decode cX2_bringSheet 21 = .ok (.aload_n 0, 1) := by decide +kernel
theorem dX2_bringSheet_22 : decode cX2_bringSheet 22 = .ok (.getfield 21, 3) := by decide +kernel
theorem dX2_bringSheet_25 : decode cX2_bringSheet 25 = .ok (.aload_n 2, 1) := by decide +kernel
theorem dX2_bringSheet_26 : decode cX2_bringSheet 26 = .ok (.getfield 81, 3) := by decide +kernel
theorem dX2_bringSheet_29 : decode cX2_bringSheet 29 = .ok (.aload_n 0, 1) := by decide +kernel
theorem dX2_bringSheet_30 : decode cX2_bringSheet 30 = .ok (.getfield 21, 3) := by decide +kernel
theorem dX2_bringSheet_33 : decode cX2_bringSheet 33 = .ok (.aload_n 2, 1) := by decide +kernel
theorem dX2_bringSheet_34 : decode cX2_bringSheet 34 = .ok (.getfield 81, 3) := by decide +kernel
theorem dX2_bringSheet_37 : decode cX2_bringSheet 37 = .ok (.invokestatic 58, 3) := by decide +kernel
theorem dX2_bringSheet_40 : decode cX2_bringSheet 40 = .ok (.iconst 1, 1) := by decide +kernel
theorem dX2_bringSheet_41 : decode cX2_bringSheet 41 = .ok (.isub, 1) := by decide +kernel
theorem dX2_bringSheet_42 : decode cX2_bringSheet 42 = .ok (.invokestatic 66, 3) := by decide +kernel
theorem dX2_bringSheet_45 : decode cX2_bringSheet 45 = .ok (.aload_n 0, 1) := by decide +kernel
theorem dX2_bringSheet_46 : decode cX2_bringSheet 46 = .ok (.dup, 1) := by decide +kernel
theorem dX2_bringSheet_47 : decode cX2_bringSheet 47 = .ok (.getfield 36, 3) := by decide +kernel
theorem dX2_bringSheet_50 : decode cX2_bringSheet 50 = .ok (.aload_n 2, 1) := by decide +kernel
theorem dX2_bringSheet_51 : decode cX2_bringSheet 51 = .ok (.iload 4, 2) := by decide +kernel
theorem dX2_bringSheet_53 : decode cX2_bringSheet 53 = .ok (.invokevirtual 86, 3) := by decide +kernel
theorem dX2_bringSheet_56 : decode cX2_bringSheet 56 = .ok (.isub, 1) := by decide +kernel
theorem dX2_bringSheet_57 : decode cX2_bringSheet 57 = .ok (.putfield 36, 3) := by decide +kernel
theorem dX2_bringSheet_60 : decode cX2_bringSheet 60 = .ok (.aload_n 0, 1) := by decide +kernel
theorem dX2_bringSheet_61 : decode cX2_bringSheet 61 = .ok (.getfield 24, 3) := by decide +kernel
theorem dX2_bringSheet_64 : decode cX2_bringSheet 64 = .ok (.iload 5, 2) := by decide +kernel
theorem dX2_bringSheet_66 : decode cX2_bringSheet 66 = .ok (.aload_n 0, 1) := by decide +kernel
theorem dX2_bringSheet_67 : decode cX2_bringSheet 67 = .ok (.getfield 24, 3) := by decide +kernel
theorem dX2_bringSheet_70 : decode cX2_bringSheet 70 = .ok (.iload 5, 2) := by decide +kernel
theorem dX2_bringSheet_72 : decode cX2_bringSheet 72 = .ok (.invokestatic 58, 3) := by decide +kernel
theorem dX2_bringSheet_75 : decode cX2_bringSheet 75 = .ok (.iconst 1, 1) := by decide +kernel
theorem dX2_bringSheet_76 : decode cX2_bringSheet 76 = .ok (.iadd, 1) := by decide +kernel
theorem dX2_bringSheet_77 : decode cX2_bringSheet 77 = .ok (.invokestatic 66, 3) := by decide +kernel
theorem dX2_bringSheet_80 : decode cX2_bringSheet 80 = .ok (.aload_n 0, 1) := by decide +kernel
theorem dX2_bringSheet_81 : decode cX2_bringSheet 81 = .ok (.getfield 15, 3) := by decide +kernel
theorem dX2_bringSheet_84 : decode cX2_bringSheet 84 = .ok (.iload_n 3, 1) := by decide +kernel
theorem dX2_bringSheet_85 : decode cX2_bringSheet 85 = .ok (.iload 4, 2) := by decide +kernel
theorem dX2_bringSheet_87 : decode cX2_bringSheet 87 = .ok (.iconst 1, 1) := by decide +kernel
theorem dX2_bringSheet_88 : decode cX2_bringSheet 88 = .ok (.iadd, 1) := by decide +kernel
theorem dX2_bringSheet_89 : decode cX2_bringSheet 89 = .ok (.invokestatic 66, 3) := by decide +kernel
theorem dX2_bringSheet_92 : decode cX2_bringSheet 92 = .ok (.iload 4, 2) := by decide +kernel
theorem dX2_bringSheet_94 : decode cX2_bringSheet 94 = .ok (.iconst 1, 1) := by decide +kernel
theorem dX2_bringSheet_95 : decode cX2_bringSheet 95 = .ok (.iadd, 1) := by decide +kernel
theorem dX2_bringSheet_96 : decode cX2_bringSheet 96 = .ok (.aload_n 2, 1) := by decide +kernel
theorem dX2_bringSheet_97 : decode cX2_bringSheet 97 = .ok (.invokevirtual 101, 3) := by decide +kernel
theorem dX2_bringSheet_100 : decode cX2_bringSheet 100 = .ok (.if_icmp .lt 20, 3) := by decide +kernel
theorem dX2_bringSheet_103 : decode cX2_bringSheet 103 = .ok (.aload_n 0, 1) := by decide +kernel
theorem dX2_bringSheet_104 : decode cX2_bringSheet 104 = .ok (.getfield 18, 3) := by decide +kernel
theorem dX2_bringSheet_107 : decode cX2_bringSheet 107 = .ok (.iload_n 3, 1) := by decide +kernel
theorem dX2_bringSheet_108 : decode cX2_bringSheet 108 = .ok (.aload_n 0, 1) := by decide +kernel
theorem dX2_bringSheet_109 : decode cX2_bringSheet 109 = .ok (.getfield 27, 3) := by decide +kernel
theorem dX2_bringSheet_112 : decode cX2_bringSheet 112 = .ok (.invokestatic 66, 3) := by decide +kernel
theorem dX2_bringSheet_115 : decode cX2_bringSheet 115 = .ok (.aload_n 0, 1) := by decide +kernel
theorem dX2_bringSheet_116 : decode cX2_bringSheet 116 = .ok (.iload_n 3, 1) := by decide +kernel
theorem dX2_bringSheet_117 : decode cX2_bringSheet 117 = .ok (.invokevirtual 104, 3) := by decide +kernel
theorem dX2_bringSheet_120 : decode cX2_bringSheet 120 = .ok (.return_, 1) := by decide +kernel
theorem dX2_leftOf_0 : decode cX2_leftOf 0 = .ok (.aload_n 1, 1) := by decide +kernel
theorem dX2_leftOf_1 : decode cX2_leftOf 1 = .ok (.iload_n 2, 1) := by decide +kernel
theorem dX2_leftOf_2 : decode cX2_leftOf 2 = .ok (.invokevirtual 74, 3) := by decide +kernel
theorem dX2_leftOf_5 : decode cX2_leftOf 5 = .ok (.astore_n 3, 1) := by decide +kernel
theorem dX2_leftOf_6 : decode cX2_leftOf 6 = .ok (.aload_n 3, 1) := by decide +kernel
theorem dX2_leftOf_7 : decode cX2_leftOf 7 = .ok (.ifnull 13, 3) := by decide +kernel
theorem dX2_leftOf_10 : decode cX2_leftOf 10 = .ok (.aload_n 0, 1) := by decide +kernel
theorem dX2_leftOf_11 : decode cX2_leftOf 11 = .ok (.iload_n 2, 1) := by decide +kernel
theorem dX2_leftOf_12 : decode cX2_leftOf 12 = .ok (.invokevirtual 62, 3) := by decide +kernel
theorem dX2_leftOf_15 : decode cX2_leftOf 15 = .ok (.bipush (-9), 2) := by decide +kernel
theorem dX2_leftOf_17 : decode cX2_leftOf 17 = .ok (.if_icmp .ne 5, 3) := by decide +kernel
theorem dX2_leftOf_20 : decode cX2_leftOf 20 = .ok (.iconst 0, 1) := by decide +kernel
theorem dX2_leftOf_21 : decode cX2_leftOf 21 = .ok (.ireturn, 1) := by decide +kernel
theorem dX2_leftOf_22 : decode cX2_leftOf 22 = .ok (.iconst 0, 1) := by decide +kernel
theorem dX2_leftOf_23 : decode cX2_leftOf 23 = .ok (.istore 4, 2) := by decide +kernel
theorem dX2_leftOf_25 : decode cX2_leftOf 25 = .ok (.aload_n 0, 1) := by decide +kernel
theorem dX2_leftOf_26 : decode cX2_leftOf 26 = .ok (.iload_n 2, 1) := by decide +kernel
theorem dX2_leftOf_27 : decode cX2_leftOf 27 = .ok (.invokevirtual 78, 3) := by decide +kernel
theorem dX2_leftOf_30 : decode cX2_leftOf 30 = .ok (.istore 5, 2) := by decide +kernel
theorem dX2_leftOf_32 : decode cX2_leftOf 32 = .ok (.iload 5, 2) := by decide +kernel
theorem dX2_leftOf_34 : decode cX2_leftOf 34 = .ok (.aload_n 3, 1) := by decide +kernel
theorem dX2_leftOf_35 : decode cX2_leftOf 35 = .ok (.invokevirtual 101, 3) := by decide +kernel
theorem dX2_leftOf_38 : decode cX2_leftOf 38 = .ok (.if_icmp .ge 20, 3) := by decide +kernel
theorem dX2_leftOf_41 : decode cX2_leftOf 41 = .ok (.iload 4, 2) := by decide +kernel
theorem dX2_leftOf_43 : decode cX2_leftOf 43 = .ok (.aload_n 3, 1) := by decide +kernel
theorem dX2_leftOf_44 : decode cX2_leftOf 44 = .ok (.iload 5, 2) := by decide +kernel
theorem dX2_leftOf_46 : decode cX2_leftOf 46 = .ok (.invokevirtual 86, 3) := by decide +kernel
theorem dX2_leftOf_49 : decode cX2_leftOf 49 = .ok (.iadd, 1) := by decide +kernel
theorem dX2_leftOf_50 : decode cX2_leftOf 50 = .ok (.istore 4, 2) := by decide +kernel
theorem dX2_leftOf_52 : decode cX2_leftOf 52 = .ok (.iinc 5 1, 3) := by decide +kernel
theorem dX2_leftOf_55 : decode cX2_leftOf 55 = .ok (.goto (-23), 3) := by decide +kernel
theorem dX2_leftOf_58 : decode cX2_leftOf 58 = .ok (.iload 4, 2) := by decide +kernel
theorem dX2_leftOf_60 : decode cX2_leftOf 60 = .ok (.ireturn, 1) := by decide +kernel
theorem dX2_sheetsInBins_0 : decode cX2_sheetsInBins 0 = .ok (.iconst 0, 1) := by decide +kernel
theorem dX2_sheetsInBins_1 : decode cX2_sheetsInBins 1 = .ok (.istore_n 1, 1) := by decide +kernel
theorem dX2_sheetsInBins_2 : decode cX2_sheetsInBins 2 = .ok (.iconst 0, 1) := by decide +kernel
theorem dX2_sheetsInBins_3 : decode cX2_sheetsInBins 3 = .ok (.istore_n 2, 1) := by decide +kernel
theorem dX2_sheetsInBins_4 : decode cX2_sheetsInBins 4 = .ok (.iload_n 2, 1) := by decide +kernel
theorem dX2_sheetsInBins_5 : decode cX2_sheetsInBins 5 = .ok (.aload_n 0, 1) := by decide +kernel
theorem dX2_sheetsInBins_6 : decode cX2_sheetsInBins 6 = .ok (.getfield 24, 3) := by decide +kernel
theorem dX2_sheetsInBins_9 : decode cX2_sheetsInBins 9 = .ok (.arraylength, 1) := by decide +kernel
theorem dX2_sheetsInBins_10 : decode cX2_sheetsInBins 10 = .ok (.if_icmp .ge 18, 3) := by decide +kernel
theorem dX2_sheetsInBins_13 : decode cX2_sheetsInBins 13 = .ok (.iload_n 1, 1) := by decide +kernel
theorem dX2_sheetsInBins_14 : decode cX2_sheetsInBins 14 = .ok (.aload_n 0, 1) := by decide +kernel
theorem dX2_sheetsInBins_15 : decode cX2_sheetsInBins 15 = .ok (.getfield 24, 3) := by decide +kernel
theorem dX2_sheetsInBins_18 : decode cX2_sheetsInBins 18 = .ok (.iload_n 2, 1) := by decide +kernel
theorem dX2_sheetsInBins_19 : decode cX2_sheetsInBins 19 = .ok (.iaload, 1) := by decide +kernel
theorem dX2_sheetsInBins_20 : decode cX2_sheetsInBins 20 = .ok (.iadd, 1) := by decide +kernel
theorem dX2_sheetsInBins_21 : decode cX2_sheetsInBins 21 = .ok (.istore_n 1, 1) := by decide +kernel
theorem dX2_sheetsInBins_22 : decode cX2_sheetsInBins 22 = .ok (.iinc 2 1, 3) := by decide +kernel
theorem dX2_sheetsInBins_25 : decode cX2_sheetsInBins 25 = .ok (.goto (-21), 3) := by decide +kernel
theorem dX2_sheetsInBins_28 : decode cX2_sheetsInBins 28 = .ok (.iload_n 1, 1) := by decide +kernel
theorem dX2_sheetsInBins_29 : decode cX2_sheetsInBins 29 = .ok (.ireturn, 1) := by decide +kernel
theorem dX2_trayWants_0 : decode cX2_trayWants 0 = .ok (.iconst 0, 1) := by decide +kernel
theorem dX2_trayWants_1 : decode cX2_trayWants 1 = .ok (.istore_n 3, 1) := by decide +kernel
theorem dX2_trayWants_2 : decode cX2_trayWants 2 = .ok (.iconst 0, 1) := by decide +kernel
theorem dX2_trayWants_3 : decode cX2_trayWants 3 = .ok (.istore 4, 2) := by decide +kernel
theorem dX2_trayWants_5 : decode cX2_trayWants 5 = .ok (.iload 4, 2) := by decide +kernel
theorem dX2_trayWants_7 : decode cX2_trayWants 7 = .ok (.aload_n 0, 1) := by decide +kernel
theorem dX2_trayWants_8 : decode cX2_trayWants 8 = .ok (.getfield 44, 3) := by decide +kernel
theorem dX2_trayWants_11 : decode cX2_trayWants 11 = .ok (.if_icmp .ge 57, 3) := by decide +kernel
theorem dX2_trayWants_14 : decode cX2_trayWants 14 = .ok (.aload_n 0, 1) := by decide +kernel
theorem dX2_trayWants_15 : decode cX2_trayWants 15 = .ok (.getfield 9, 3) := by decide +kernel
theorem dX2_trayWants_18 : decode cX2_trayWants 18 = .ok (.iload 4, 2) := by decide +kernel
theorem dX2_trayWants_20 : decode cX2_trayWants 20 = .ok (.invokestatic 58, 3) := by decide +kernel
theorem dX2_trayWants_23 : decode cX2_trayWants 23 = .ok (.istore 5, 2) := by decide +kernel
theorem dX2_trayWants_25 : decode cX2_trayWants 25 = .ok (.aload_n 1, 1) := by decide +kernel
theorem dX2_trayWants_26 : decode cX2_trayWants 26 = .ok (.iload 5, 2) := by decide +kernel
theorem dX2_trayWants_28 : decode cX2_trayWants 28 = .ok (.invokevirtual 74, 3) := by decide +kernel
theorem dX2_trayWants_31 : decode cX2_trayWants 31 = .ok (.astore 6, 2) := by decide +kernel
theorem dX2_trayWants_33 : decode cX2_trayWants 33 = .ok (.aload 6, 2) := by decide +kernel
theorem dX2_trayWants_35 : decode cX2_trayWants 35 = .ok (.ifnull 27, 3) := by decide +kernel
theorem dX2_trayWants_38 : decode cX2_trayWants 38 = .ok (.aload 6, 2) := by decide +kernel
theorem dX2_trayWants_40 : decode cX2_trayWants 40 = .ok (.getfield 81, 3) := by decide +kernel
theorem dX2_trayWants_43 : decode cX2_trayWants 43 = .ok (.iload_n 2, 1) := by decide +kernel
theorem dX2_trayWants_44 : decode cX2_trayWants 44 = .ok (.if_icmp .ne 18, 3) := by decide +kernel
theorem dX2_trayWants_47 : decode cX2_trayWants 47 = .ok (.iload_n 3, 1) := by decide +kernel
theorem dX2_trayWants_48 : decode cX2_trayWants 48 = .ok (.aload 6, 2) := by decide +kernel
theorem dX2_trayWants_50 : decode cX2_trayWants 50 = .ok (.invokevirtual 101, 3) := by decide +kernel
theorem dX2_trayWants_53 : decode cX2_trayWants 53 = .ok (.aload_n 0, 1) := by decide +kernel
theorem dX2_trayWants_54 : decode cX2_trayWants 54 = .ok (.iload 5, 2) := by decide +kernel
theorem dX2_trayWants_56 : decode cX2_trayWants 56 = .ok (.invokevirtual 78, 3) := by decide +kernel
theorem dX2_trayWants_59 : decode cX2_trayWants 59 = .ok (.isub, 1) := by decide +kernel
theorem dX2_trayWants_60 : decode cX2_trayWants 60 = .ok (.iadd, 1) := by decide +kernel
theorem dX2_trayWants_61 : decode cX2_trayWants 61 = .ok (.istore_n 3, 1) := by decide +kernel
theorem dX2_trayWants_62 : decode cX2_trayWants 62 = .ok (.iinc 4 1, 3) := by decide +kernel
theorem dX2_trayWants_65 : decode cX2_trayWants 65 = .ok (.goto (-60), 3) := by decide +kernel
theorem dX2_trayWants_68 : decode cX2_trayWants 68 = .ok (.iconst 0, 1) := by decide +kernel
theorem dX2_trayWants_69 : decode cX2_trayWants 69 = .ok (.iload_n 3, 1) := by decide +kernel
theorem dX2_trayWants_70 : decode cX2_trayWants 70 = .ok (.aload_n 0, 1) := by decide +kernel
theorem dX2_trayWants_71 : decode cX2_trayWants 71 = .ok (.getfield 21, 3) := by decide +kernel
theorem dX2_trayWants_74 : decode cX2_trayWants 74 = .ok (.iload_n 2, 1) := by decide +kernel
theorem dX2_trayWants_75 : decode cX2_trayWants 75 = .ok (.invokestatic 58, 3) := by decide +kernel
theorem dX2_trayWants_78 : decode cX2_trayWants 78 = .ok (.isub, 1) := by decide +kernel
theorem dX2_trayWants_79 : decode cX2_trayWants 79 = .ok (.invokestatic 108, 3) := by decide +kernel
theorem dX2_trayWants_82 : decode cX2_trayWants 82 = .ok (.ireturn, 1) := by decide +kernel
theorem dX2_tonerWants_0 : decode cX2_tonerWants 0 = .ok (.iconst 0, 1) := by decide +kernel
theorem dX2_tonerWants_1 : decode cX2_tonerWants 1 = .ok (.istore_n 2, 1) := by decide +kernel
theorem dX2_tonerWants_2 : decode cX2_tonerWants 2 = .ok (.iconst 0, 1) := by decide +kernel
theorem dX2_tonerWants_3 : decode cX2_tonerWants 3 = .ok (.istore_n 3, 1) := by decide +kernel
theorem dX2_tonerWants_4 : decode cX2_tonerWants 4 = .ok (.iload_n 3, 1) := by decide +kernel
theorem dX2_tonerWants_5 : decode cX2_tonerWants 5 = .ok (.aload_n 0, 1) := by decide +kernel
theorem dX2_tonerWants_6 : decode cX2_tonerWants 6 = .ok (.getfield 44, 3) := by decide +kernel
theorem dX2_tonerWants_9 : decode cX2_tonerWants 9 = .ok (.if_icmp .ge 25, 3) := by decide +kernel
theorem dX2_tonerWants_12 : decode cX2_tonerWants 12 = .ok (.iload_n 2, 1) := by decide +kernel
theorem dX2_tonerWants_13 : decode cX2_tonerWants 13 = .ok (.aload_n 0, 1) := by decide +kernel
theorem dX2_tonerWants_14 : decode cX2_tonerWants 14 = .ok (.aload_n 1, 1) := by decide +kernel
theorem dX2_tonerWants_15 : decode cX2_tonerWants 15 = .ok (.aload_n 0, 1) := by decide +kernel
theorem dX2_tonerWants_16 : decode cX2_tonerWants 16 = .ok (.getfield 9, 3) := by decide +kernel
theorem dX2_tonerWants_19 : decode cX2_tonerWants 19 = .ok (.iload_n 3, 1) := by decide +kernel
theorem dX2_tonerWants_20 : decode cX2_tonerWants 20 = .ok (.invokestatic 58, 3) := by decide +kernel
theorem dX2_tonerWants_23 : decode cX2_tonerWants 23 = .ok (.invokevirtual 114, 3) := by decide +kernel
theorem dX2_tonerWants_26 : decode cX2_tonerWants 26 = .ok (.iadd, 1) := by decide +kernel
theorem dX2_tonerWants_27 : decode cX2_tonerWants 27 = .ok (.istore_n 2, 1) := by decide +kernel
theorem dX2_tonerWants_28 : decode cX2_tonerWants 28 = .ok (.iinc 3 1, 3) := by decide +kernel
theorem dX2_tonerWants_31 : decode cX2_tonerWants 31 = .ok (.goto (-27), 3) := by decide +kernel
theorem dX2_tonerWants_34 : decode cX2_tonerWants 34 = .ok (.iconst 0, 1) := by decide +kernel
theorem dX2_tonerWants_35 : decode cX2_tonerWants 35 = .ok (.iload_n 2, 1) := by decide +kernel
theorem dX2_tonerWants_36 : decode cX2_tonerWants 36 = .ok (.aload_n 0, 1) := by decide +kernel
theorem dX2_tonerWants_37 : decode cX2_tonerWants 37 = .ok (.getfield 36, 3) := by decide +kernel
theorem dX2_tonerWants_40 : decode cX2_tonerWants 40 = .ok (.isub, 1) := by decide +kernel
theorem dX2_tonerWants_41 : decode cX2_tonerWants 41 = .ok (.invokestatic 108, 3) := by decide +kernel
theorem dX2_tonerWants_44 : decode cX2_tonerWants 44 = .ok (.ireturn, 1) := by decide +kernel
theorem dX3_init_0 : decode cX3_init 0 = .ok (.aload_n 0, 1) := by decide +kernel
theorem dX3_init_1 : decode cX3_init 1 = .ok (.invokespecial 3, 3) := by decide +kernel
theorem dX3_init_4 : decode cX3_init 4 = .ok (.aload_n 0, 1) := by decide +kernel
theorem dX3_init_5 : decode cX3_init 5 = .ok (.iconst 3, 1) := by decide +kernel
theorem dX3_init_6 : decode cX3_init 6 = .ok (.newarray .int, 2) := by decide +kernel
theorem dX3_init_8 : decode cX3_init 8 = .ok (.putfield 9, 3) := by decide +kernel
theorem dX3_init_11 : decode cX3_init 11 = .ok (.aload_n 0, 1) := by decide +kernel
theorem dX3_init_12 : decode cX3_init 12 = .ok (.bipush 6, 2) := by decide +kernel
theorem dX3_init_14 : decode cX3_init 14 = .ok (.anewarray 15, 3) := by decide +kernel
theorem dX3_init_17 : decode cX3_init 17 = .ok (.putfield 17, 3) := by decide +kernel
theorem dX3_init_20 : decode cX3_init 20 = .ok (.aload_n 0, 1) := by decide +kernel
theorem dX3_init_21 : decode cX3_init 21 = .ok (.getstatic 21, 3) := by decide +kernel
theorem dX3_init_24 : decode cX3_init 24 = .ok (.arraylength, 1) := by decide +kernel
theorem dX3_init_25 : decode cX3_init 25 = .ok (.newarray .int, 2) := by decide +kernel
theorem dX3_init_27 : decode cX3_init 27 = .ok (.putfield 24, 3) := by decide +kernel
theorem dX3_init_30 : decode cX3_init 30 = .ok (.iconst 0, 1) := by decide +kernel
theorem dX3_init_31 : decode cX3_init 31 = .ok (.istore_n 1, 1) := by decide +kernel
theorem dX3_init_32 : decode cX3_init 32 = .ok (.iload_n 1, 1) := by decide +kernel
theorem dX3_init_33 : decode cX3_init 33 = .ok (.aload_n 0, 1) := by decide +kernel
theorem dX3_init_34 : decode cX3_init 34 = .ok (.getfield 17, 3) := by decide +kernel
theorem dX3_init_37 : decode cX3_init 37 = .ok (.arraylength, 1) := by decide +kernel
theorem dX3_init_38 : decode cX3_init 38 = .ok (.if_icmp .ge 22, 3) := by decide +kernel
theorem dX3_init_41 : decode cX3_init 41 = .ok (.aload_n 0, 1) := by decide +kernel
theorem dX3_init_42 : decode cX3_init 42 = .ok (.getfield 17, 3) := by decide +kernel
theorem dX3_init_45 : decode cX3_init 45 = .ok (.iload_n 1, 1) := by decide +kernel
theorem dX3_init_46 : decode cX3_init 46 = .ok (.new 15, 3) := by decide +kernel
theorem dX3_init_49 : decode cX3_init 49 = .ok (.dup, 1) := by decide +kernel
theorem dX3_init_50 : decode cX3_init 50 = .ok (.invokespecial 27, 3) := by decide +kernel
theorem dX3_init_53 : decode cX3_init 53 = .ok (.aastore, 1) := by decide +kernel
theorem dX3_init_54 : decode cX3_init 54 = .ok (.iinc 1 1, 3) := by decide +kernel
theorem dX3_init_57 : decode cX3_init 57 = .ok (.goto (-25), 3) := by decide +kernel
theorem dX3_init_60 : decode cX3_init 60 = .ok (.aload_n 0, 1) := by decide +kernel
theorem dX3_init_61 : decode cX3_init 61 = .ok (.invokevirtual 28, 3) := by decide +kernel
theorem dX3_init_64 : decode cX3_init 64 = .ok (.return_, 1) := by decide +kernel
theorem dX3_untell_0 : decode cX3_untell 0 = .ok (.aload_n 0, 1) := by decide +kernel
theorem dX3_untell_1 : decode cX3_untell 1 = .ok (.getfield 9, 3) := by decide +kernel
theorem dX3_untell_4 : decode cX3_untell 4 = .ok (.bipush 20, 2) := by decide +kernel
theorem dX3_untell_6 : decode cX3_untell 6 = .ok (.invokestatic 31, 3) := by decide +kernel
theorem dX3_untell_9 : decode cX3_untell 9 = .ok (.aload_n 0, 1) := by decide +kernel
theorem dX3_untell_10 : decode cX3_untell 10 = .ok (.sipush 200, 3) := by decide +kernel
theorem dX3_untell_13 : decode cX3_untell 13 = .ok (.putfield 37, 3) := by decide +kernel
theorem dX3_untell_16 : decode cX3_untell 16 = .ok (.aload_n 0, 1) := by decide +kernel
theorem dX3_untell_17 : decode cX3_untell 17 = .ok (.iconst 4, 1) := by decide +kernel
theorem dX3_untell_18 : decode cX3_untell 18 = .ok (.putfield 41, 3) := by decide +kernel
theorem dX3_untell_21 : decode cX3_untell 21 = .ok (.aload_n 0, 1) := by decide +kernel
theorem dX3_untell_22 : decode cX3_untell 22 = .ok (.iconst 0, 1) := by decide +kernel
theorem dX3_untell_23 : decode cX3_untell 23 = .ok (.putfield 44, 3) := by decide +kernel
theorem dX3_untell_26 : decode cX3_untell 26 = .ok (.aload_n 0, 1) := by decide +kernel
theorem dX3_untell_27 : decode cX3_untell 27 = .ok (.iconst 0, 1) := by decide +kernel
theorem dX3_untell_28 : decode cX3_untell 28 = .ok (.putfield 47, 3) := by decide +kernel
theorem dX3_untell_31 : decode cX3_untell 31 = .ok (.aload_n 0, 1) := by decide +kernel
theorem dX3_untell_32 : decode cX3_untell 32 = .ok (.iconst 0, 1) := by decide +kernel
theorem dX3_untell_33 : decode cX3_untell 33 = .ok (.putfield 51, 3) := by decide +kernel
theorem dX3_untell_36 : decode cX3_untell 36 = .ok (.aload_n 0, 1) := by decide +kernel
theorem dX3_untell_37 : decode cX3_untell 37 = .ok (.iconst 0, 1) := by decide +kernel
theorem dX3_untell_38 : decode cX3_untell 38 = .ok (.putfield 54, 3) := by decide +kernel
theorem dX3_untell_41 : decode cX3_untell 41 = .ok (.return_, 1) := by decide +kernel
theorem dX3_jobAt_0 : decode cX3_jobAt 0 = .ok (.iload_n 1, 1) := by decide +kernel
theorem dX3_jobAt_1 : decode cX3_jobAt 1 = .ok (.ifCond .lt 29, 3) := by decide +kernel
theorem dX3_jobAt_4 : decode cX3_jobAt 4 = .ok (.iload_n 1, 1) := by decide +kernel
theorem dX3_jobAt_5 : decode cX3_jobAt 5 = .ok (.aload_n 0, 1) := by decide +kernel
theorem dX3_jobAt_6 : decode cX3_jobAt 6 = .ok (.getfield 44, 3) := by decide +kernel
theorem dX3_jobAt_9 : decode cX3_jobAt 9 = .ok (.if_icmp .ge 21, 3) := by decide +kernel
theorem dX3_jobAt_12 : decode cX3_jobAt 12 = .ok (.iload_n 1, 1) := by decide +kernel
theorem dX3_jobAt_13 : decode cX3_jobAt 13 = .ok (.aload_n 0, 1) := by decide +kernel
theorem dX3_jobAt_14 : decode cX3_jobAt 14 = .ok (.getfield 17, 3) := by decide +kernel
theorem dX3_jobAt_17 : decode cX3_jobAt 17 = .ok (.arraylength, 1) := by decide +kernel
theorem dX3_jobAt_18 : decode cX3_jobAt 18 = .ok (.if_icmp .ge 12, 3) := by decide +kernel
theorem dX3_jobAt_21 : decode cX3_jobAt 21 = .ok (.aload_n 0, 1) := by decide +kernel
theorem dX3_jobAt_22 : decode cX3_jobAt 22 = .ok (.getfield 17, 3) := by decide +kernel
theorem dX3_jobAt_25 : decode cX3_jobAt 25 = .ok (.iload_n 1, 1) := by decide +kernel
theorem dX3_jobAt_26 : decode cX3_jobAt 26 = .ok (.aaload, 1) := by decide +kernel
theorem dX3_jobAt_27 : decode cX3_jobAt 27 = .ok (.goto 4, 3) := by decide +kernel
theorem dX3_jobAt_30 : decode cX3_jobAt 30 = .ok (.aconst_null, 1) := by decide +kernel
theorem dX3_jobAt_31 : decode cX3_jobAt 31 = .ok (.areturn, 1) := by decide +kernel
theorem dX3_hasBin_0 : decode cX3_hasBin 0 = .ok (.iload_n 1, 1) := by decide +kernel
theorem dX3_hasBin_1 : decode cX3_hasBin 1 = .ok (.ifCond .lt 15, 3) := by decide +kernel
theorem dX3_hasBin_4 : decode cX3_hasBin 4 = .ok (.iload_n 1, 1) := by decide +kernel
theorem dX3_hasBin_5 : decode cX3_hasBin 5 = .ok (.aload_n 0, 1) := by decide +kernel
theorem dX3_hasBin_6 : decode cX3_hasBin 6 = .ok (.getfield 41, 3) := by decide +kernel
theorem dX3_hasBin_9 : decode cX3_hasBin 9 = .ok (.if_icmp .ge 7, 3) := by decide +kernel
theorem dX3_hasBin_12 : decode cX3_hasBin 12 = .ok (.iconst 1, 1) := by decide +kernel
theorem dX3_hasBin_13 : decode cX3_hasBin 13 = .ok (.goto 4, 3) := by decide +kernel
theorem dX3_hasBin_16 : decode cX3_hasBin 16 = .ok (.iconst 0, 1) := by decide +kernel
theorem dX3_hasBin_17 : decode cX3_hasBin 17 = .ok (.ireturn, 1) := by decide +kernel
theorem dX3_binOf_0 : decode cX3_binOf 0 = .ok (.aload_n 1, 1) := by decide +kernel
theorem dX3_binOf_1 : decode cX3_binOf 1 = .ok (.getfield 57, 3) := by decide +kernel
theorem dX3_binOf_4 : decode cX3_binOf 4 = .ok (.ifCond .eq 11, 3) := by decide +kernel
theorem dX3_binOf_7 : decode cX3_binOf 7 = .ok (.aload_n 1, 1) := by decide +kernel
theorem dX3_binOf_8 : decode cX3_binOf 8 = .ok (.iload_n 2, 1) := by decide +kernel
theorem dX3_binOf_9 : decode cX3_binOf 9 = .ok (.invokevirtual 60, 3) := by decide +kernel
theorem dX3_binOf_12 : decode cX3_binOf 12 = .ok (.goto 8, 3) := by decide +kernel
theorem dX3_binOf_15 : decode cX3_binOf 15 = .ok (.aload_n 1, 1) := by decide +kernel
theorem dX3_binOf_16 : decode cX3_binOf 16 = .ok (.iload_n 2, 1) := by decide +kernel
theorem dX3_binOf_17 : decode cX3_binOf 17 = .ok (.invokevirtual 64, 3) := by decide +kernel
theorem dX3_binOf_20 : decode cX3_binOf 20 = .ok (.istore_n 3, 1) := by decide +kernel
theorem dX3_binOf_21 : decode cX3_binOf 21 = .ok (.aload_n 0, 1) := by decide +kernel
theorem dX3_binOf_22 : decode cX3_binOf 22 = .ok (.getfield 41, 3) := by decide +kernel
theorem dX3_binOf_25 : decode cX3_binOf 25 = .ok (.ifCond .le 12, 3) := by decide +kernel
theorem dX3_binOf_28 : decode cX3_binOf 28 = .ok (.iload_n 3, 1) := by decide +kernel
theorem dX3_binOf_29 : decode cX3_binOf 29 = .ok (.aload_n 0, 1) := by decide +kernel
theorem dX3_binOf_30 : decode cX3_binOf 30 = .ok (.getfield 41, 3) := by decide +kernel
theorem dX3_binOf_33 : decode cX3_binOf 33 = .ok (.irem, 1) := by decide +kernel
theorem dX3_binOf_34 : decode cX3_binOf 34 = .ok (.goto 4, 3) := by decide +kernel
theorem dX3_binOf_37 : decode cX3_binOf 37 = .ok (.iconst 0, 1) := by decide +kernel
theorem dX3_binOf_38 : decode cX3_binOf 38 = .ok (.ireturn, 1) := by decide +kernel
theorem dX3_readFrom_0 : decode cX3_readFrom 0 = .ok (.aload_n 0, 1) := by decide +kernel
theorem dX3_readFrom_1 : decode cX3_readFrom 1 = .ok (.invokevirtual 28, 3) := by decide +kernel
theorem dX3_readFrom_4 : decode cX3_readFrom 4 = .ok (.aload_n 1, 1) := by decide +kernel
theorem dX3_readFrom_5 : decode cX3_readFrom 5 = .ok (.invokevirtual 67, 3) := by decide +kernel
theorem dX3_readFrom_8 : decode cX3_readFrom 8 = .ok (.iconst 0, 1) := by decide +kernel
theorem dX3_readFrom_9 : decode cX3_readFrom 9 = .ok (.istore_n 2, 1) := by decide +kernel
theorem dX3_readFrom_10 : decode cX3_readFrom 10 = .ok (.iload_n 2, 1) := by decide +kernel
theorem dX3_readFrom_11 : decode cX3_readFrom 11 = .ok (.bipush 120, 2) := by decide +kernel
theorem dX3_readFrom_13 : decode cX3_readFrom 13 = .ok (.if_icmp .gt 33, 3) := by decide +kernel
theorem dX3_readFrom_16 : decode cX3_readFrom 16 = .ok (.aload_n 1, 1) := by decide +kernel
theorem dX3_readFrom_17 : decode cX3_readFrom 17 = .ok (.invokevirtual 72, 3) := by decide +kernel
theorem dX3_readFrom_20 : decode cX3_readFrom 20 = .ok (.aload_n 1, 1) := by decide +kernel
theorem dX3_readFrom_21 : decode cX3_readFrom 21 = .ok (.getfield 75, 3) := by decide +kernel
theorem dX3_readFrom_24 : decode cX3_readFrom 24 = .ok (.ifCond .ne 5, 3) := by decide +kernel
theorem dX3_readFrom_27 : decode cX3_readFrom 27 = .ok (.iload_n 2, 1) := by decide +kernel
theorem dX3_readFrom_28 : decode cX3_readFrom 28 = .ok (.ireturn, 1) := by decide +kernel
theorem dX3_readFrom_29 : decode cX3_readFrom 29 = .ok (.aload_n 0, 1) := by decide +kernel
theorem dX3_readFrom_30 : decode cX3_readFrom 30 = .ok (.aload_n 1, 1) := by decide +kernel
theorem dX3_readFrom_31 : decode cX3_readFrom 31 = .ok (.invokevirtual 78, 3) := by decide +kernel
theorem dX3_readFrom_34 : decode cX3_readFrom 34 = .ok (.ifCond .ne 6, 3) := by decide +kernel
theorem dX3_readFrom_37 : decode cX3_readFrom 37 = .ok (.goto 9, 3) := by decide +kernel
theorem dX3_readFrom_40 : decode cX3_readFrom 40 = .ok (.iinc 2 1, 3) := by decide +kernel
theorem dX3_readFrom_43 : decode cX3_readFrom 43 = .ok (.goto (-33), 3) := by decide +kernel
theorem dX3_readFrom_46 : decode cX3_readFrom 46 = .ok (.bipush (-10), 2) := by decide +kernel
theorem dX3_readFrom_48 : decode cX3_readFrom 48 = .ok (.aload_n 1, 1) := by decide +kernel
theorem dX3_readFrom_49 : decode cX3_readFrom 49 = .ok (.getfield 82, 3) := by decide +kernel
theorem dX3_readFrom_52 : decode cX3_readFrom 52 = .ok (.isub, 1) := by decide +kernel
theorem dX3_readFrom_53 : decode cX3_readFrom 53 = .ok (.ireturn, 1) := by decide +kernel
theorem dX3_readItem_0 : decode cX3_readItem 0 = .ok (.aload_n 1, 1) := by decide +kernel
theorem dX3_readItem_1 : decode cX3_readItem 1 = .ok (.getfield 75, 3) := by decide +kernel
theorem dX3_readItem_4 : decode cX3_readItem 4 = .ok (.iconst 1, 1) := by decide +kernel
theorem dX3_readItem_5 : decode cX3_readItem 5 = .ok (.if_icmp .ne 10, 3) := by decide +kernel
theorem dX3_readItem_8 : decode cX3_readItem 8 = .ok (.aload_n 1, 1) := by decide +kernel
theorem dX3_readItem_9 : decode cX3_readItem 9 = .ok (.getfield 85, 3) := by decide +kernel
theorem dX3_readItem_12 : decode cX3_readItem 12 = .ok (.goto 4, 3) := by decide +kernel
theorem dX3_readItem_15 : decode cX3_readItem 15 = .ok (.iconst 0, 1) := by decide +kernel
theorem dX3_readItem_16 : decode cX3_readItem 16 = .ok (.lookupswitch 182 #[(98, 112), (106, 146), (107, 78), (116, 44)], 44) := by decide +kernel
theorem dX3_readItem_60 : decode cX3_readItem 60 = .ok (.aload_n 0, 1) := by decide +kernel
theorem dX3_readItem_61 : decode cX3_readItem 61 = .ok (.getfield 47, 3) := by decide +kernel
theorem dX3_readItem_64 : decode cX3_readItem 64 = .ok (.ifCond .ne 28, 3) := by decide +kernel
theorem dX3_readItem_67 : decode cX3_readItem 67 = .ok (.aload_n 0, 1) := by decide +kernel
theorem dX3_readItem_68 : decode cX3_readItem 68 = .ok (.aload_n 1, 1) := by decide +kernel
theorem dX3_readItem_69 : decode cX3_readItem 69 = .ok (.getstatic 88, 3) := by decide +kernel
theorem dX3_readItem_72 : decode cX3_readItem 72 = .ok (.getstatic 91, 3) := by decide +kernel
theorem dX3_readItem_75 : decode cX3_readItem 75 = .ok (.invokevirtual 94, 3) := by decide +kernel
theorem dX3_readItem_78 : decode cX3_readItem 78 = .ok (.ifCond .eq 14, 3) := by decide +kernel
theorem dX3_readItem_81 : decode cX3_readItem 81 = .ok (.aload_n 0, 1) := by decide +kernel
theorem dX3_readItem_82 : decode cX3_readItem 82 = .ok (.invokevirtual 98, 3) := by decide +kernel
theorem dX3_readItem_85 : decode cX3_readItem 85 = .ok (.ifCond .eq 7, 3) := by decide +kernel
theorem dX3_readItem_88 : decode cX3_readItem 88 = .ok (.iconst 1, 1) := by decide +kernel
theorem dX3_readItem_89 : decode cX3_readItem 89 = .ok (.goto 4, 3) := by decide +kernel
theorem dX3_readItem_92 : decode cX3_readItem 92 = .ok (.iconst 0, 1) := by decide +kernel
theorem dX3_readItem_93 : decode cX3_readItem 93 = .ok (.ireturn, 1) := by decide +kernel
theorem dX3_readItem_94 : decode cX3_readItem 94 = .ok (.aload_n 0, 1) := by decide +kernel
theorem dX3_readItem_95 : decode cX3_readItem 95 = .ok (.getfield 51, 3) := by decide +kernel
theorem dX3_readItem_98 : decode cX3_readItem 98 = .ok (.ifCond .ne 28, 3) := by decide +kernel
theorem dX3_readItem_101 : decode cX3_readItem 101 = .ok (.aload_n 0, 1) := by decide +kernel
theorem dX3_readItem_102 : decode cX3_readItem 102 = .ok (.aload_n 1, 1) := by decide +kernel
theorem dX3_readItem_103 : decode cX3_readItem 103 = .ok (.getstatic 102, 3) := by decide +kernel
theorem dX3_readItem_106 : decode cX3_readItem 106 = .ok (.getstatic 105, 3) := by decide +kernel
theorem dX3_readItem_109 : decode cX3_readItem 109 = .ok (.invokevirtual 94, 3) := by decide +kernel
theorem dX3_readItem_112 : decode cX3_readItem 112 = .ok (.ifCond .eq 14, 3) := by decide +kernel
theorem dX3_readItem_115 : decode cX3_readItem 115 = .ok (.aload_n 0, 1) := by decide +kernel
theorem dX3_readItem_116 : decode cX3_readItem 116 = .ok (.invokevirtual 108, 3) := by decide +kernel
theorem dX3_readItem_119 : decode cX3_readItem 119 = .ok (.ifCond .eq 7, 3) := by decide +kernel
theorem dX3_readItem_122 : decode cX3_readItem 122 = .ok (.iconst 1, 1) := by decide +kernel
theorem dX3_readItem_123 : decode cX3_readItem 123 = .ok (.goto 4, 3) := by decide +kernel
theorem dX3_readItem_126 : decode cX3_readItem 126 = .ok (.iconst 0, 1) := by decide +kernel
theorem dX3_readItem_127 : decode cX3_readItem 127 = .ok (.ireturn, 1) := by decide +kernel
theorem dX3_readItem_128 : decode cX3_readItem 128 = .ok (.aload_n 0, 1) := by decide +kernel
theorem dX3_readItem_129 : decode cX3_readItem 129 = .ok (.getfield 54, 3) := by decide +kernel
theorem dX3_readItem_132 : decode cX3_readItem 132 = .ok (.ifCond .ne 28, 3) := by decide +kernel
theorem dX3_readItem_135 : decode cX3_readItem 135 = .ok (.aload_n 0, 1) := by decide +kernel
theorem dX3_readItem_136 : decode cX3_readItem 136 = .ok (.aload_n 1, 1) := by decide +kernel
theorem dX3_readItem_137 : decode cX3_readItem 137 = .ok (.getstatic 111, 3) := by decide +kernel
theorem dX3_readItem_140 : decode cX3_readItem 140 = .ok (.getstatic 114, 3) := by decide +kernel
theorem dX3_readItem_143 : decode cX3_readItem 143 = .ok (.invokevirtual 94, 3) := by decide +kernel
theorem dX3_readItem_146 : decode cX3_readItem 146 = .ok (.ifCond .eq 14, 3) := by decide +kernel
theorem dX3_readItem_149 : decode cX3_readItem 149 = .ok (.aload_n 0, 1) := by decide +kernel
theorem dX3_readItem_150 : decode cX3_readItem 150 = .ok (.invokevirtual 117, 3) := by decide +kernel
theorem dX3_readItem_153 : decode cX3_readItem 153 = .ok (.ifCond .eq 7, 3) := by decide +kernel
theorem dX3_readItem_156 : decode cX3_readItem 156 = .ok (.iconst 1, 1) := by decide +kernel
theorem dX3_readItem_157 : decode cX3_readItem 157 = .ok (.goto 4, 3) := by decide +kernel
theorem dX3_readItem_160 : decode cX3_readItem 160 = .ok (.iconst 0, 1) := by decide +kernel
theorem dX3_readItem_161 : decode cX3_readItem 161 = .ok (.ireturn, 1) := by decide +kernel
theorem dX3_readItem_162 : decode cX3_readItem 162 = .ok (.aload_n 0, 1) := by decide +kernel
theorem dX3_readItem_163 : decode cX3_readItem 163 = .ok (.getfield 44, 3) := by decide +kernel
theorem dX3_readItem_166 : decode cX3_readItem 166 = .ok (.bipush 6, 2) := by decide +kernel
theorem dX3_readItem_168 : decode cX3_readItem 168 = .ok (.if_icmp .ge 28, 3) := by decide +kernel
theorem dX3_readItem_171 : decode cX3_readItem 171 = .ok (.aload_n 0, 1) := by decide +kernel
theorem dX3_readItem_172 : decode cX3_readItem 172 = .ok (.aload_n 1, 1) := by decide +kernel
theorem dX3_readItem_173 : decode cX3_readItem 173 = .ok (.getstatic 21, 3) := by decide +kernel
theorem dX3_readItem_176 : decode cX3_readItem 176 = .ok (.getstatic 120, 3) := by decide +kernel
theorem dX3_readItem_179 : decode cX3_readItem 179 = .ok (.invokevirtual 94, 3) := by decide +kernel
theorem dX3_readItem_182 : decode cX3_readItem 182 = .ok (.ifCond .eq 14, 3) := by decide +kernel
theorem dX3_readItem_185 : decode cX3_readItem 185 = .ok (.aload_n 0, 1) := by decide +kernel
theorem dX3_readItem_186 : decode cX3_readItem 186 = .ok (.invokevirtual 123, 3) := by decide +kernel
theorem dX3_readItem_189 : decode cX3_readItem 189 = .ok (.ifCond .eq 7, 3) := by decide +kernel
theorem dX3_readItem_192 : decode cX3_readItem 192 = .ok (.iconst 1, 1) := by decide +kernel
theorem dX3_readItem_193 : decode cX3_readItem 193 = .ok (.goto 4, 3) := by decide +kernel
theorem dX3_readItem_196 : decode cX3_readItem 196 = .ok (.iconst 0, 1) := by decide +kernel
theorem dX3_readItem_197 : decode cX3_readItem 197 = .ok (.ireturn, 1) := by decide +kernel
theorem dX3_readItem_198 : decode cX3_readItem 198 = .ok (.iconst 0, 1) := by decide +kernel
theorem dX3_readItem_199 : decode cX3_readItem 199 = .ok (.ireturn, 1) := by decide +kernel
theorem dX3_readNumbers_0 : decode cX3_readNumbers 0 = .ok (.iconst 0, 1) := by decide +kernel
theorem dX3_readNumbers_1 : decode cX3_readNumbers 1 = .ok (.istore 4, 2) := by decide +kernel
theorem dX3_readNumbers_3 : decode cX3_readNumbers 3 = .ok (.iload 4, 2) := by decide +kernel
theorem dX3_readNumbers_5 : decode cX3_readNumbers 5 = .ok (.aload_n 2, 1) := by decide +kernel
theorem dX3_readNumbers_6 : decode cX3_readNumbers 6 = .ok (.arraylength, 1) := by decide +kernel
theorem dX3_readNumbers_7 : decode cX3_readNumbers 7 = .ok (.if_icmp .ge 60, 3) := by decide +kernel
theorem dX3_readNumbers_10 : decode cX3_readNumbers 10 = .ok (.aload_n 1, 1) := by decide +kernel
theorem dX3_readNumbers_11 : decode cX3_readNumbers 11 = .ok (.invokevirtual 72, 3) := by decide +kernel
theorem dX3_readNumbers_14 : decode cX3_readNumbers 14 = .ok (.aload_n 1, 1) := by decide +kernel
theorem dX3_readNumbers_15 : decode cX3_readNumbers 15 = .ok (.getfield 75, 3) := by decide +kernel
theorem dX3_readNumbers_18 : decode cX3_readNumbers 18 = .ok (.iconst 2, 1) := by decide +kernel
theorem dX3_readNumbers_19 : decode cX3_readNumbers 19 = .ok (.if_icmp .ne 27, 3) := by decide +kernel
theorem dX3_readNumbers_22 : decode cX3_readNumbers 22 = .ok (.aload_n 1, 1) := by decide +kernel
theorem dX3_readNumbers_23 : decode cX3_readNumbers 23 = .ok (.getfield 85, 3) := by decide +kernel
theorem dX3_readNumbers_26 : decode cX3_readNumbers 26 = .ok (.aload_n 2, 1) := by decide +kernel
theorem dX3_readNumbers_27 : decode cX3_readNumbers 27 = .ok (.iload 4, 2) := by decide +kernel
theorem dX3_readNumbers_29 : decode cX3_readNumbers 29 = .ok (.iaload, 1) := by decide +kernel
theorem dX3_readNumbers_30 : decode cX3_readNumbers 30 = .ok (.if_icmp .lt 16, 3) := by decide +kernel
theorem dX3_readNumbers_33 : decode cX3_readNumbers 33 = .ok (.aload_n 1, 1) := by decide +kernel
theorem dX3_readNumbers_34 : decode cX3_readNumbers 34 = .ok (.getfield 85, 3) := by decide +kernel
theorem dX3_readNumbers_37 : decode cX3_readNumbers 37 = .ok (.aload_n 3, 1) := by decide +kernel
theorem dX3_readNumbers_38 : decode cX3_readNumbers 38 = .ok (.iload 4, 2) := by decide +kernel
theorem dX3_readNumbers_40 : decode cX3_readNumbers 40 = .ok (.invokestatic 126, 3) := by decide +kernel
theorem dX3_readNumbers_43 : decode cX3_readNumbers 43 = .ok (.if_icmp .le 5, 3) := by decide +kernel
theorem dX3_readNumbers_46 : decode cX3_readNumbers 46 = .ok (.iconst 0, 1) := by decide +kernel
theorem dX3_readNumbers_47 : decode cX3_readNumbers 47 = .ok (.ireturn, 1) := by decide +kernel
theorem dX3_readNumbers_48 : decode cX3_readNumbers 48 = .ok (.aload_n 0, 1) := by decide +kernel
theorem dX3_readNumbers_49 : decode cX3_readNumbers 49 = .ok (.getfield 24, 3) := by decide +kernel
theorem dX3_readNumbers_52 : decode cX3_readNumbers 52 = .ok (.iload 4, 2) := by decide +kernel
theorem dX3_readNumbers_54 : decode cX3_readNumbers 54 = .ok (.aload_n 1, 1) := by decide +kernel
theorem dX3_readNumbers_55 : decode cX3_readNumbers 55 = .ok (.getfield 85, 3) := by decide +kernel
theorem dX3_readNumbers_58 : decode cX3_readNumbers 58 = .ok (.invokestatic 130, 3) := by decide +kernel
theorem dX3_readNumbers_61 : decode cX3_readNumbers 61 = .ok (.iinc 4 1, 3) := by decide +kernel
theorem dX3_readNumbers_64 : decode cX3_readNumbers 64 = .ok (.goto (-61), 3) := by decide +kernel
theorem dX3_readNumbers_67 : decode cX3_readNumbers 67 = .ok (.aload_n 1, 1) := by decide +kernel
theorem dX3_readNumbers_68 : decode cX3_readNumbers 68 = .ok (.invokevirtual 72, 3) := by decide +kernel
theorem dX3_readNumbers_71 : decode cX3_readNumbers 71 = .ok (.aload_n 1, 1) := by decide +kernel
theorem dX3_readNumbers_72 : decode cX3_readNumbers 72 = .ok (.getfield 75, 3) := by decide +kernel
theorem dX3_readNumbers_75 : decode cX3_readNumbers 75 = .ok (.iconst 3, 1) := by decide +kernel
theorem dX3_readNumbers_76 : decode cX3_readNumbers 76 = .ok (.if_icmp .ne 7, 3) := by decide +kernel
theorem dX3_readNumbers_79 : decode cX3_readNumbers 79 = .ok (.iconst 1, 1) := by decide +kernel
theorem dX3_readNumbers_80 : decode cX3_readNumbers 80 = .ok (.goto 4, 3) := by decide +kernel
theorem dX3_readNumbers_83 : decode cX3_readNumbers 83 = .ok (.iconst 0, 1) := by decide +kernel
theorem dX3_readNumbers_84 : decode cX3_readNumbers 84 = .ok (.ireturn, 1) := by decide +kernel
theorem dX3_tellTrays_0 : decode cX3_tellTrays 0 = .ok (.aload_n 0, 1) := by decide +kernel
theorem dX3_tellTrays_1 : decode cX3_tellTrays 1 = .ok (.getfield 24, 3) := by decide +kernel
theorem dX3_tellTrays_4 : decode cX3_tellTrays 4 = .ok (.aload_n 0, 1) := by decide +kernel
theorem dX3_tellTrays_5 : decode cX3_tellTrays 5 = .ok (.getfield 9, 3) := by decide +kernel
theorem dX3_tellTrays_8 : decode cX3_tellTrays 8 = .ok (.invokestatic 134, 3) := by decide +kernel
theorem dX3_tellTrays_11 : decode cX3_tellTrays 11 = .ok (.aload_n 0, 1) := by decide +kernel
theorem dX3_tellTrays_12 : decode cX3_tellTrays 12 = .ok (.iconst 1, 1) := by decide +kernel
theorem dX3_tellTrays_13 : decode cX3_tellTrays 13 = .ok (.putfield 47, 3) := by decide +kernel
theorem dX3_tellTrays_16 : decode cX3_tellTrays 16 = .ok (.iconst 1, 1) := by decide +kernel
theorem dX3_tellTrays_17 : decode cX3_tellTrays 17 = .ok (.ireturn, 1) := by decide +kernel
theorem dX3_tellToner_0 : decode cX3_tellToner 0 = .ok (.aload_n 0, 1) := by decide +kernel
theorem dX3_tellToner_1 : decode cX3_tellToner 1 = .ok (.aload_n 0, 1) := by decide +kernel
theorem dX3_tellToner_2 : decode cX3_tellToner 2 = .ok (.getfield 24, 3) := by decide +kernel
theorem dX3_tellToner_5 : decode cX3_tellToner 5 = .ok (.iconst 0, 1) := by decide +kernel
theorem dX3_tellToner_6 : decode cX3_tellToner 6 = .ok (.invokestatic 126, 3) := by decide +kernel
theorem dX3_tellToner_9 : decode cX3_tellToner 9 = .ok (.putfield 37, 3) := by decide +kernel
theorem dX3_tellToner_12 : decode cX3_tellToner 12 = .ok (.aload_n 0, 1) := by decide +kernel
theorem dX3_tellToner_13 : decode cX3_tellToner 13 = .ok (.iconst 1, 1) := by decide +kernel
theorem dX3_tellToner_14 : decode cX3_tellToner 14 = .ok (.putfield 51, 3) := by decide +kernel
theorem dX3_tellToner_17 : decode cX3_tellToner 17 = .ok (.iconst 1, 1) := by decide +kernel
theorem dX3_tellToner_18 : decode cX3_tellToner 18 = .ok (.ireturn, 1) := by decide +kernel
theorem dX3_tellBins_0 : decode cX3_tellBins 0 = .ok (.aload_n 0, 1) := by decide +kernel
theorem dX3_tellBins_1 : decode cX3_tellBins 1 = .ok (.aload_n 0, 1) := by decide +kernel
theorem dX3_tellBins_2 : decode cX3_tellBins 2 = .ok (.getfield 24, 3) := by decide +kernel
theorem dX3_tellBins_5 : decode cX3_tellBins 5 = .ok (.iconst 0, 1) := by decide +kernel
theorem dX3_tellBins_6 : decode cX3_tellBins 6 = .ok (.invokestatic 126, 3) := by decide +kernel
theorem dX3_tellBins_9 : decode cX3_tellBins 9 = .ok (.putfield 41, 3) := by decide +kernel
theorem dX3_tellBins_12 : decode cX3_tellBins 12 = .ok (.aload_n 0, 1) := by decide +kernel
theorem dX3_tellBins_13 : decode cX3_tellBins 13 = .ok (.iconst 1, 1) := by decide +kernel
theorem dX3_tellBins_14 : decode cX3_tellBins 14 = .ok (.putfield 54, 3) := by decide +kernel
theorem dX3_tellBins_17 : decode cX3_tellBins 17 = .ok (.iconst 1, 1) := by decide +kernel
theorem dX3_tellBins_18 : decode cX3_tellBins 18 = .ok (.ireturn, 1) := by decide +kernel
theorem dX3_tellJob_0 : decode cX3_tellJob 0 = .ok (.aload_n 0, 1) := by decide +kernel
theorem dX3_tellJob_1 : decode cX3_tellJob 1 = .ok (.dup, 1) := by decide +kernel
theorem dX3_tellJob_2 : decode cX3_tellJob 2 = .ok (.getfield 44, 3) := by decide +kernel
theorem dX3_tellJob_5 : decode cX3_tellJob 5 = .ok (.iconst 1, 1) := by decide +kernel
theorem dX3_tellJob_6 : decode cX3_tellJob 6 = .ok (.iadd, 1) := by decide +kernel
theorem dX3_tellJob_7 : decode cX3_tellJob 7 = .ok (.putfield 44, 3) := by decide +kernel
theorem dX3_tellJob_10 : decode cX3_tellJob 10 = .ok (.aload_n 0, 1) := by decide +kernel
theorem dX3_tellJob_11 : decode cX3_tellJob 11 = .ok (.aload_n 0, 1) := by decide +kernel
theorem dX3_tellJob_12 : decode cX3_tellJob 12 = .ok (.getfield 44, 3) := by decide +kernel
theorem dX3_tellJob_15 : decode cX3_tellJob 15 = .ok (.iconst 1, 1) := by decide +kernel
theorem dX3_tellJob_16 : decode cX3_tellJob 16 = .ok (.isub, 1) := by decide +kernel
theorem dX3_tellJob_17 : decode cX3_tellJob 17 = .ok (.invokevirtual 138, 3) := by decide +kernel
theorem dX3_tellJob_20 : decode cX3_tellJob 20 = .ok (.astore_n 1, 1) := by decide +kernel
theorem dX3_tellJob_21 : decode cX3_tellJob 21 = .ok (.aload_n 1, 1) := by decide +kernel
theorem dX3_tellJob_22 : decode cX3_tellJob 22 = .ok (.ifnull 11, 3) := by decide +kernel
theorem dX3_tellJob_25 : decode cX3_tellJob 25 = .ok (.aload_n 1, 1) := by decide +kernel
theorem dX3_tellJob_26 : decode cX3_tellJob 26 = .ok (.aload_n 0, 1) := by decide +kernel
theorem dX3_tellJob_27 : decode cX3_tellJob 27 = .ok (.getfield 24, 3) := by decide +kernel
theorem dX3_tellJob_30 : decode cX3_tellJob 30 = .ok (.invokevirtual 142, 3) := by decide +kernel
theorem dX3_tellJob_33 : decode cX3_tellJob 33 = .ok (.aload_n 1, 1) := by decide +kernel
theorem dX3_tellJob_34 : decode cX3_tellJob 34 = .ok (.ifnull 7, 3) := by decide +kernel
theorem dX3_tellJob_37 : decode cX3_tellJob 37 = .ok (.iconst 1, 1) := by decide +kernel
theorem dX3_tellJob_38 : decode cX3_tellJob 38 = .ok (.goto 4, 3) := by decide +kernel
theorem dX3_tellJob_41 : decode cX3_tellJob 41 = .ok (.iconst 0, 1) := by decide +kernel
theorem dX3_tellJob_42 : decode cX3_tellJob 42 = .ok (.ireturn, 1) := by decide +kernel
theorem dX4_init_0 : decode cX4_init 0 = .ok (.aload_n 0, 1) := by decide +kernel
theorem dX4_init_1 : decode cX4_init 1 = .ok (.invokespecial 3, 3) := by decide +kernel
theorem dX4_init_4 : decode cX4_init 4 = .ok (.aload_n 0, 1) := by decide +kernel
theorem dX4_init_5 : decode cX4_init 5 = .ok (.bipush 6, 2) := by decide +kernel
theorem dX4_init_7 : decode cX4_init 7 = .ok (.newarray .int, 2) := by decide +kernel
theorem dX4_init_9 : decode cX4_init 9 = .ok (.putfield 9, 3) := by decide +kernel
theorem dX4_init_12 : decode cX4_init 12 = .ok (.aload_n 0, 1) := by decide +kernel
theorem dX4_init_13 : decode cX4_init 13 = .ok (.bipush 6, 2) := by decide +kernel
theorem dX4_init_15 : decode cX4_init 15 = .ok (.newarray .int, 2) := by decide +kernel
theorem dX4_init_17 : decode cX4_init 17 = .ok (.putfield 15, 3) := by decide +kernel
theorem dX4_init_20 : decode cX4_init 20 = .ok (.aload_n 0, 1) := by decide +kernel
theorem dX4_init_21 : decode cX4_init 21 = .ok (.bipush 6, 2) := by decide +kernel
theorem dX4_init_23 : decode cX4_init 23 = .ok (.newarray .int, 2) := by decide +kernel
theorem dX4_init_25 : decode cX4_init 25 = .ok (.putfield 18, 3) := by decide +kernel
theorem dX4_init_28 : decode cX4_init 28 = .ok (.aload_n 0, 1) := by decide +kernel
theorem dX4_init_29 : decode cX4_init 29 = .ok (.bipush 10, 2) := by decide +kernel
theorem dX4_init_31 : decode cX4_init 31 = .ok (.newarray .int, 2) := by decide +kernel
theorem dX4_init_33 : decode cX4_init 33 = .ok (.putfield 21, 3) := by decide +kernel
theorem dX4_init_36 : decode cX4_init 36 = .ok (.return_, 1) := by decide +kernel
theorem dX4_add_0 : decode cX4_add 0 = .ok (.aload_n 0, 1) := by decide +kernel
theorem dX4_add_1 : decode cX4_add 1 = .ok (.getfield 9, 3) := by decide +kernel
theorem dX4_add_4 : decode cX4_add 4 = .ok (.aload_n 0, 1) := by decide +kernel
theorem dX4_add_5 : decode cX4_add 5 = .ok (.getfield 24, 3) := by decide +kernel
theorem dX4_add_8 : decode cX4_add 8 = .ok (.iload_n 1, 1) := by decide +kernel
theorem dX4_add_9 : decode cX4_add 9 = .ok (.invokestatic 28, 3) := by decide +kernel
theorem dX4_add_12 : decode cX4_add 12 = .ok (.aload_n 0, 1) := by decide +kernel
theorem dX4_add_13 : decode cX4_add 13 = .ok (.getfield 15, 3) := by decide +kernel
theorem dX4_add_16 : decode cX4_add 16 = .ok (.aload_n 0, 1) := by decide +kernel
theorem dX4_add_17 : decode cX4_add 17 = .ok (.getfield 24, 3) := by decide +kernel
theorem dX4_add_20 : decode cX4_add 20 = .ok (.iload_n 2, 1) := by decide +kernel
theorem dX4_add_21 : decode cX4_add 21 = .ok (.invokestatic 28, 3) := by decide +kernel
theorem dX4_add_24 : decode cX4_add 24 = .ok (.aload_n 0, 1) := by decide +kernel
end
section
theorem dX4_add_25 : decode cX4_add 25 = .ok (.getfield 18, 3) := by decide +kernel
theorem dX4_add_28 : decode cX4_add 28 = .ok (.aload_n 0, 1) := by decide +kernel
theorem dX4_add_29 : decode cX4_add 29 = .ok (.getfield 24, 3) := by decide +kernel
theorem dX4_add_32 : decode cX4_add 32 = .ok (.iload_n 3, 1) := by decide +kernel
theorem dX4_add_33 : decode cX4_add 33 = .ok (.invokestatic 28, 3) := by decide +kernel
theorem dX4_add_36 : decode cX4_add 36 = .ok (.aload_n 0, 1) := by decide +kernel
theorem dX4_add_37 : decode cX4_add 37 = .ok (.dup, 1) := by decide +kernel
theorem dX4_add_38 : decode cX4_add 38 = .ok (.getfield 24, 3) := by decide +kernel
theorem dX4_add_41 : decode cX4_add 41 = .ok (.iconst 1, 1) := by decide +kernel
theorem dX4_add_42 : decode cX4_add 42 = .ok (.iadd, 1) := by decide +kernel
theorem dX4_add_43 : decode cX4_add 43 = .ok (.putfield 24, 3) := by decide +kernel
theorem dX4_add_46 : decode cX4_add 46 = .ok (.aload_n 0, 1) := by decide +kernel
theorem dX4_add_47 : decode cX4_add 47 = .ok (.getfield 24, 3) := by decide +kernel
theorem dX4_add_50 : decode cX4_add 50 = .ok (.ireturn, 1) := by decide +kernel
theorem dX4_forgetAll_0 : decode cX4_forgetAll 0 = .ok (.aload_n 0, 1) := by decide +kernel
theorem dX4_forgetAll_1 : decode cX4_forgetAll 1 = .ok (.getfield 24, 3) := by decide +kernel
theorem dX4_forgetAll_4 : decode cX4_forgetAll 4 = .ok (.istore_n 1, 1) := by decide +kernel
theorem dX4_forgetAll_5 : decode cX4_forgetAll 5 = .ok (.aload_n 0, 1) := by decide +kernel
theorem dX4_forgetAll_6 : decode cX4_forgetAll 6 = .ok (.iconst 0, 1) := by decide +kernel
theorem dX4_forgetAll_7 : decode cX4_forgetAll 7 = .ok (.putfield 24, 3) := by decide +kernel
theorem dX4_forgetAll_10 : decode cX4_forgetAll 10 = .ok (.iload_n 1, 1) := by decide +kernel
theorem dX4_forgetAll_11 : decode cX4_forgetAll 11 = .ok (.ireturn, 1) := by decide +kernel
theorem dX4_fits_0 : decode cX4_fits 0 = .ok (.iconst 0, 1) := by decide +kernel
theorem dX4_fits_1 : decode cX4_fits 1 = .ok (.istore_n 2, 1) := by decide +kernel
theorem dX4_fits_2 : decode cX4_fits 2 = .ok (.iload_n 2, 1) := by decide +kernel
theorem dX4_fits_3 : decode cX4_fits 3 = .ok (.aload_n 0, 1) := by decide +kernel
theorem dX4_fits_4 : decode cX4_fits 4 = .ok (.getfield 24, 3) := by decide +kernel
theorem dX4_fits_7 : decode cX4_fits 7 = .ok (.if_icmp .ge 73, 3) := by decide +kernel
theorem dX4_fits_10 : decode cX4_fits 10 = .ok (.aload_n 0, 1) := by decide +kernel
theorem dX4_fits_11 : decode cX4_fits 11 = .ok (.getfield 9, 3) := by decide +kernel
theorem dX4_fits_14 : decode cX4_fits 14 = .ok (.iload_n 2, 1) := by decide +kernel
theorem dX4_fits_15 : decode cX4_fits 15 = .ok (.invokestatic 32, 3) := by decide +kernel
theorem dX4_fits_18 : decode cX4_fits 18 = .ok (.istore_n 3, 1) := by decide +kernel
theorem dX4_fits_19 : decode cX4_fits 19 = .ok (.aload_n 1, 1) := by decide +kernel
theorem dX4_fits_20 : decode cX4_fits 20 = .ok (.iload_n 3, 1) := by decide +kernel
theorem dX4_fits_21 : decode cX4_fits 21 = .ok (.invokevirtual 36, 3) := by decide +kernel
theorem dX4_fits_24 : decode cX4_fits 24 = .ok (.ifCond .eq 23, 3) := by decide +kernel
theorem dX4_fits_27 : decode cX4_fits 27 = .ok (.aload_n 1, 1) := by decide +kernel
theorem dX4_fits_28 : decode cX4_fits 28 = .ok (.iload_n 3, 1) := by decide +kernel
theorem dX4_fits_29 : decode cX4_fits 29 = .ok (.invokevirtual 42, 3) := by decide +kernel
theorem dX4_fits_32 : decode cX4_fits 32 = .ok (.aload_n 0, 1) := by decide +kernel
theorem dX4_fits_33 : decode cX4_fits 33 = .ok (.getfield 15, 3) := by decide +kernel
theorem dX4_fits_36 : decode cX4_fits 36 = .ok (.iload_n 2, 1) := by decide +kernel
theorem dX4_fits_37 : decode cX4_fits 37 = .ok (.invokestatic 32, 3) := by decide +kernel
theorem dX4_fits_40 : decode cX4_fits 40 = .ok (.if_icmp .ne 7, 3) := by decide +kernel
theorem dX4_fits_43 : decode cX4_fits 43 = .ok (.iconst 1, 1) := by decide +kernel
theorem dX4_fits_44 : decode cX4_fits 44 = .ok (.goto 4, 3) := by decide +kernel
theorem dX4_fits_47 : decode cX4_fits 47 = .ok (.iconst 0, 1) := by decide +kernel
theorem dX4_fits_48 : decode cX4_fits 48 = .ok (.istore 4, 2) := by decide +kernel
theorem dX4_fits_50 : decode cX4_fits 50 = .ok (.iload 4, 2) := by decide +kernel
theorem dX4_fits_52 : decode cX4_fits 52 = .ok (.aload_n 0, 1) := by decide +kernel
theorem dX4_fits_53 : decode cX4_fits 53 = .ok (.getfield 18, 3) := by decide +kernel
theorem dX4_fits_56 : decode cX4_fits 56 = .ok (.iload_n 2, 1) := by decide +kernel
theorem dX4_fits_57 : decode cX4_fits 57 = .ok (.invokestatic 32, 3) := by decide +kernel
theorem dX4_fits_60 : decode cX4_fits 60 = .ok (.iconst 1, 1) := by decide +kernel
theorem dX4_fits_61 : decode cX4_fits 61 = .ok (.if_icmp .ne 7, 3) := by decide +kernel
theorem dX4_fits_64 : decode cX4_fits 64 = .ok (.iconst 1, 1) := by decide +kernel
theorem dX4_fits_65 : decode cX4_fits 65 = .ok (.goto 4, 3) := by decide +kernel
theorem dX4_fits_68 : decode cX4_fits 68 = .ok (.iconst 0, 1) := by decide +kernel
theorem dX4_fits_69 : decode cX4_fits 69 = .ok (.if_icmp .eq 5, 3) := by decide +kernel
theorem dX4_fits_72 : decode cX4_fits 72 = .ok (.iconst 0, 1) := by decide +kernel
theorem dX4_fits_73 : decode cX4_fits 73 = .ok (.ireturn, 1) := by decide +kernel
theorem dX4_fits_74 : decode cX4_fits 74 = .ok (.iinc 2 1, 3) := by decide +kernel
theorem dX4_fits_77 : decode cX4_fits 77 = .ok (.goto (-75), 3) := by decide +kernel
theorem dX4_fits_80 : decode cX4_fits 80 = .ok (.iconst 1, 1) := by decide +kernel
theorem dX4_fits_81 : decode cX4_fits 81 = .ok (.ireturn, 1) := by decide +kernel
theorem dX4_countFronts_0 : decode cX4_countFronts 0 = .ok (.aload_n 0, 1) := by decide +kernel
theorem dX4_countFronts_1 : decode cX4_countFronts 1 = .ok (.getfield 21, 3) := by decide +kernel
theorem dX4_countFronts_4 : decode cX4_countFronts 4 = .ok (.iconst 0, 1) := by decide +kernel
theorem dX4_countFronts_5 : decode cX4_countFronts 5 = .ok (.invokestatic 46, 3) := by decide +kernel
theorem dX4_countFronts_8 : decode cX4_countFronts 8 = .ok (.iconst 0, 1) := by decide +kernel
theorem dX4_countFronts_9 : decode cX4_countFronts 9 = .ok (.istore 4, 2) := by decide +kernel
theorem dX4_countFronts_11 : decode cX4_countFronts 11 = .ok (.iload 4, 2) := by decide +kernel
theorem dX4_countFronts_13 : decode cX4_countFronts 13 = .ok (.bipush 6, 2) := by decide +kernel
theorem dX4_countFronts_15 : decode cX4_countFronts 15 = .ok (.if_icmp .ge 68, 3) := by decide +kernel
theorem dX4_countFronts_18 : decode cX4_countFronts 18 = .ok (.aload_n 1, 1) := by decide +kernel
theorem dX4_countFronts_19 : decode cX4_countFronts 19 = .ok (.iload 4, 2) := by decide +kernel
theorem dX4_countFronts_21 : decode cX4_countFronts 21 = .ok (.invokevirtual 52, 3) := by decide +kernel
theorem dX4_countFronts_24 : decode cX4_countFronts 24 = .ok (.astore 5, 2) := by decide +kernel
theorem dX4_countFronts_26 : decode cX4_countFronts 26 = .ok (.iload_n 2, 1) := by decide +kernel
theorem dX4_countFronts_27 : decode cX4_countFronts 27 = .ok (.iload 4, 2) := by decide +kernel
theorem dX4_countFronts_29 : decode cX4_countFronts 29 = .ok (.ishr, 1) := by decide +kernel
theorem dX4_countFronts_30 : decode cX4_countFronts 30 = .ok (.iconst 1, 1) := by decide +kernel
theorem dX4_countFronts_31 : decode cX4_countFronts 31 = .ok (.iand, 1) := by decide +kernel
theorem dX4_countFronts_32 : decode cX4_countFronts 32 = .ok (.ifCond .eq 45, 3) := by decide +kernel
theorem dX4_countFronts_35 : decode cX4_countFronts 35 = .ok (.aload 5, 2) := by decide +kernel
theorem dX4_countFronts_37 : decode cX4_countFronts 37 = .ok (.ifnull 40, 3) := by decide +kernel
theorem dX4_countFronts_40 : decode cX4_countFronts 40 = .ok (.aload 5, 2) := by decide +kernel
theorem dX4_countFronts_42 : decode cX4_countFronts 42 = .ok (.iload_n 3, 1) := by decide +kernel
theorem dX4_countFronts_43 : decode cX4_countFronts 43 = .ok (.invokevirtual 36, 3) := by decide +kernel
theorem dX4_countFronts_46 : decode cX4_countFronts 46 = .ok (.ifCond .eq 31, 3) := by decide +kernel
theorem dX4_countFronts_49 : decode cX4_countFronts 49 = .ok (.aload 5, 2) := by decide +kernel
theorem dX4_countFronts_51 : decode cX4_countFronts 51 = .ok (.iload_n 3, 1) := by decide +kernel
theorem dX4_countFronts_52 : decode cX4_countFronts 52 = .ok (.invokevirtual 42, 3) := by decide +kernel
theorem dX4_countFronts_55 : decode cX4_countFronts 55 = .ok (.istore 6, 2) := by decide +kernel
theorem dX4_countFronts_57 : decode cX4_countFronts 57 = .ok (.aload_n 0, 1) := by decide +kernel
theorem dX4_countFronts_58 : decode cX4_countFronts 58 = .ok (.getfield 21, 3) := by decide +kernel
theorem dX4_countFronts_61 : decode cX4_countFronts 61 = .ok (.iload 6, 2) := by decide +kernel
theorem dX4_countFronts_63 : decode cX4_countFronts 63 = .ok (.aload_n 0, 1) := by decide +kernel
theorem dX4_countFronts_64 : decode cX4_countFronts 64 = .ok (.getfield 21, 3) := by decide +kernel
theorem dX4_countFronts_67 : decode cX4_countFronts 67 = .ok (.iload 6, 2) := by decide +kernel
theorem dX4_countFronts_69 : decode cX4_countFronts 69 = .ok (.invokestatic 32, 3) := by decide +kernel
theorem dX4_countFronts_72 : decode cX4_countFronts 72 = .ok (.iconst 1, 1) := by decide +kernel
theorem dX4_countFronts_73 : decode cX4_countFronts 73 = .ok (.iadd, 1) := by decide +kernel
theorem dX4_countFronts_74 : decode cX4_countFronts 74 = .ok (.invokestatic 28, 3) := by decide +kernel
theorem dX4_countFronts_77 : decode cX4_countFronts 77 = .ok (.iinc 4 1, 3) := by decide +kernel
theorem dX4_countFronts_80 : decode cX4_countFronts 80 = .ok (.goto (-69), 3) := by decide +kernel
theorem dX4_countFronts_83 : decode cX4_countFronts 83 = .ok (.return_, 1) := by decide +kernel
theorem dX5_init_0 : decode cX5_init 0 = .ok (.aload_n 0, 1) := by decide +kernel
theorem dX5_init_1 : decode cX5_init 1 = .ok (.invokespecial 3, 3) := by decide +kernel
theorem dX5_init_4 : decode cX5_init 4 = .ok (.aload_n 0, 1) := by decide +kernel
theorem dX5_init_5 : decode cX5_init 5 = .ok (.bipush 120, 2) := by decide +kernel
theorem dX5_init_7 : decode cX5_init 7 = .ok (.newarray .int, 2) := by decide +kernel
theorem dX5_init_9 : decode cX5_init 9 = .ok (.putfield 9, 3) := by decide +kernel
theorem dX5_init_12 : decode cX5_init 12 = .ok (.return_, 1) := by decide +kernel
theorem dX5_isFull_0 : decode cX5_isFull 0 = .ok (.aload_n 0, 1) := by decide +kernel
theorem dX5_isFull_1 : decode cX5_isFull 1 = .ok (.getfield 15, 3) := by decide +kernel
theorem dX5_isFull_4 : decode cX5_isFull 4 = .ok (.aload_n 0, 1) := by decide +kernel
theorem dX5_isFull_5 : decode cX5_isFull 5 = .ok (.getfield 9, 3) := by decide +kernel
theorem dX5_isFull_8 : decode cX5_isFull 8 = .ok (.arraylength, 1) := by decide +kernel
theorem dX5_isFull_9 : decode cX5_isFull 9 = .ok (.if_icmp .lt 7, 3) := by decide +kernel
theorem dX5_isFull_12 : decode cX5_isFull 12 = .ok (.iconst 1, 1) := by decide +kernel
theorem dX5_isFull_13 : decode cX5_isFull 13 = .ok (.goto 4, 3) := by decide +kernel
theorem dX5_isFull_16 : decode cX5_isFull 16 = .ok (.iconst 0, 1) := by decide +kernel
theorem dX5_isFull_17 : decode cX5_isFull 17 = .ok (.ireturn, 1) := by decide +kernel
theorem dX5_add_0 : decode cX5_add 0 = .ok (.aload_n 0, 1) := by decide +kernel
theorem dX5_add_1 : decode cX5_add 1 = .ok (.getfield 9, 3) := by decide +kernel
theorem dX5_add_4 : decode cX5_add 4 = .ok (.aload_n 0, 1) := by decide +kernel
theorem dX5_add_5 : decode cX5_add 5 = .ok (.getfield 15, 3) := by decide +kernel
theorem dX5_add_8 : decode cX5_add 8 = .ok (.iload_n 1, 1) := by decide +kernel
theorem dX5_add_9 : decode cX5_add 9 = .ok (.invokestatic 19, 3) := by decide +kernel
theorem dX5_add_12 : decode cX5_add 12 = .ok (.aload_n 0, 1) := by decide +kernel
theorem dX5_add_13 : decode cX5_add 13 = .ok (.dup, 1) := by decide +kernel
theorem dX5_add_14 : decode cX5_add 14 = .ok (.getfield 15, 3) := by decide +kernel
theorem dX5_add_17 : decode cX5_add 17 = .ok (.iconst 1, 1) := by decide +kernel
theorem dX5_add_18 : decode cX5_add 18 = .ok (.iadd, 1) := by decide +kernel
theorem dX5_add_19 : decode cX5_add 19 = .ok (.putfield 15, 3) := by decide +kernel
theorem dX5_add_22 : decode cX5_add 22 = .ok (.aload_n 0, 1) := by decide +kernel
theorem dX5_add_23 : decode cX5_add 23 = .ok (.getfield 15, 3) := by decide +kernel
theorem dX5_add_26 : decode cX5_add 26 = .ok (.ireturn, 1) := by decide +kernel
theorem dX5_wipe_0 : decode cX5_wipe 0 = .ok (.aload_n 0, 1) := by decide +kernel
theorem dX5_wipe_1 : decode cX5_wipe 1 = .ok (.getfield 15, 3) := by decide +kernel
theorem dX5_wipe_4 : decode cX5_wipe 4 = .ok (.istore_n 1, 1) := by decide +kernel
theorem dX5_wipe_5 : decode cX5_wipe 5 = .ok (.aload_n 0, 1) := by decide +kernel
theorem dX5_wipe_6 : decode cX5_wipe 6 = .ok (.iconst 0, 1) := by decide +kernel
theorem dX5_wipe_7 : decode cX5_wipe 7 = .ok (.putfield 15, 3) := by decide +kernel
theorem dX5_wipe_10 : decode cX5_wipe 10 = .ok (.iload_n 1, 1) := by decide +kernel
theorem dX5_wipe_11 : decode cX5_wipe 11 = .ok (.ireturn, 1) := by decide +kernel
theorem dX5_rewind_0 : decode cX5_rewind 0 = .ok (.aload_n 0, 1) := by decide +kernel
theorem dX5_rewind_1 : decode cX5_rewind 1 = .ok (.iconst 0, 1) := by decide +kernel
theorem dX5_rewind_2 : decode cX5_rewind 2 = .ok (.putfield 23, 3) := by decide +kernel
theorem dX5_rewind_5 : decode cX5_rewind 5 = .ok (.return_, 1) := by decide +kernel
theorem dX5_readToken_0 : decode cX5_readToken 0 = .ok (.aload_n 0, 1) := by decide +kernel
theorem dX5_readToken_1 : decode cX5_readToken 1 = .ok (.getfield 23, 3) := by decide +kernel
theorem dX5_readToken_4 : decode cX5_readToken 4 = .ok (.aload_n 0, 1) := by decide +kernel
theorem dX5_readToken_5 : decode cX5_readToken 5 = .ok (.getfield 15, 3) := by decide +kernel
theorem dX5_readToken_8 : decode cX5_readToken 8 = .ok (.if_icmp .ge 32, 3) := by decide +kernel
theorem dX5_readToken_11 : decode cX5_readToken 11 = .ok (.aload_n 0, 1) := by decide +kernel
theorem dX5_readToken_12 : decode cX5_readToken 12 = .ok (.getfield 9, 3) := by decide +kernel
theorem dX5_readToken_15 : decode cX5_readToken 15 = .ok (.aload_n 0, 1) := by decide +kernel
theorem dX5_readToken_16 : decode cX5_readToken 16 = .ok (.getfield 23, 3) := by decide +kernel
theorem dX5_readToken_19 : decode cX5_readToken 19 = .ok (.invokestatic 26, 3) := by decide +kernel
theorem dX5_readToken_22 : decode cX5_readToken 22 = .ok (.bipush 32, 2) := by decide +kernel
theorem dX5_readToken_24 : decode cX5_readToken 24 = .ok (.if_icmp .ne 16, 3) := by decide +kernel
theorem dX5_readToken_27 : decode cX5_readToken 27 = .ok (.aload_n 0, 1) := by decide +kernel
theorem dX5_readToken_28 : decode cX5_readToken 28 = .ok (.dup, 1) := by decide +kernel
theorem dX5_readToken_29 : decode cX5_readToken 29 = .ok (.getfield 23, 3) := by decide +kernel
theorem dX5_readToken_32 : decode cX5_readToken 32 = .ok (.iconst 1, 1) := by decide +kernel
theorem dX5_readToken_33 : decode cX5_readToken 33 = .ok (.iadd, 1) := by decide +kernel
theorem dX5_readToken_34 : decode cX5_readToken 34 = .ok (.putfield 23, 3) := by decide +kernel
theorem dX5_readToken_37 : decode cX5_readToken 37 = .ok (.goto (-37), 3) := by decide +kernel
theorem dX5_readToken_40 : decode cX5_readToken 40 = .ok (.aload_n 0, 1) := by decide +kernel
theorem dX5_readToken_41 : decode cX5_readToken 41 = .ok (.aload_n 0, 1) := by decide +kernel
theorem dX5_readToken_42 : decode cX5_readToken 42 = .ok (.getfield 23, 3) := by decide +kernel
theorem dX5_readToken_45 : decode cX5_readToken 45 = .ok (.putfield 30, 3) := by decide +kernel
theorem dX5_readToken_48 : decode cX5_readToken 48 = .ok (.aload_n 0, 1) := by decide +kernel
theorem dX5_readToken_49 : decode cX5_readToken 49 = .ok (.iconst 0, 1) := by decide +kernel
theorem dX5_readToken_50 : decode cX5_readToken 50 = .ok (.putfield 33, 3) := by decide +kernel
theorem dX5_readToken_53 : decode cX5_readToken 53 = .ok (.aload_n 0, 1) := by decide +kernel
theorem dX5_readToken_54 : decode cX5_readToken 54 = .ok (.getfield 9, 3) := by decide +kernel
theorem dX5_readToken_57 : decode cX5_readToken 57 = .ok (.aload_n 0, 1) := by decide +kernel
theorem dX5_readToken_58 : decode cX5_readToken 58 = .ok (.getfield 23, 3) := by decide +kernel
theorem dX5_readToken_61 : decode cX5_readToken 61 = .ok (.invokestatic 26, 3) := by decide +kernel
theorem dX5_readToken_64 : decode cX5_readToken 64 = .ok (.istore_n 1, 1) := by decide +kernel
theorem dX5_readToken_65 : decode cX5_readToken 65 = .ok (.aload_n 0, 1) := by decide +kernel
theorem dX5_readToken_66 : decode cX5_readToken 66 = .ok (.getfield 23, 3) := by decide +kernel
theorem dX5_readToken_69 : decode cX5_readToken 69 = .ok (.aload_n 0, 1) := by decide +kernel
theorem dX5_readToken_70 : decode cX5_readToken 70 = .ok (.getfield 15, 3) := by decide +kernel
theorem dX5_readToken_73 : decode cX5_readToken 73 = .ok (.if_icmp .lt 11, 3) := by decide +kernel
theorem dX5_readToken_76 : decode cX5_readToken 76 = .ok (.aload_n 0, 1) := by decide +kernel
theorem dX5_readToken_77 : decode cX5_readToken 77 = .ok (.iconst 0, 1) := by decide +kernel
theorem dX5_readToken_78 : decode cX5_readToken 78 = .ok (.putfield 36, 3) := by decide +kernel
theorem dX5_readToken_81 : decode cX5_readToken 81 = .ok (.goto 56, 3) := by decide +kernel
theorem dX5_readToken_84 : decode cX5_readToken 84 = .ok (.iload_n 1, 1) := by decide +kernel
theorem dX5_readToken_85 : decode cX5_readToken 85 = .ok (.invokestatic 39, 3) := by decide +kernel
theorem dX5_readToken_88 : decode cX5_readToken 88 = .ok (.ifCond .eq 10, 3) := by decide +kernel
theorem dX5_readToken_91 : decode cX5_readToken 91 = .ok (.aload_n 0, 1) := by decide +kernel
theorem dX5_readToken_92 : decode cX5_readToken 92 = .ok (.invokevirtual 43, 3) := by decide +kernel
theorem dX5_readToken_95 : decode cX5_readToken 95 = .ok (.goto 42, 3) := by decide +kernel
theorem dX5_readToken_98 : decode cX5_readToken 98 = .ok (.iload_n 1, 1) := by decide +kernel
theorem dX5_readToken_99 : decode cX5_readToken 99 = .ok (.invokestatic 46, 3) := by decide +kernel
theorem dX5_readToken_102 : decode cX5_readToken 102 = .ok (.ifCond .eq 10, 3) := by decide +kernel
theorem dX5_readToken_105 : decode cX5_readToken 105 = .ok (.aload_n 0, 1) := by decide +kernel
theorem dX5_readToken_106 : decode cX5_readToken 106 = .ok (.invokevirtual 49, 3) := by decide +kernel
theorem dX5_readToken_109 : decode cX5_readToken 109 = .ok (.goto 28, 3) := by decide +kernel
theorem dX5_readToken_112 : decode cX5_readToken 112 = .ok (.aload_n 0, 1) := by decide +kernel
theorem dX5_readToken_113 : decode cX5_readToken 113 = .ok (.iload_n 1, 1) := by decide +kernel
theorem dX5_readToken_114 : decode cX5_readToken 114 = .ok (.bipush 59, 2) := by decide +kernel
theorem dX5_readToken_116 : decode cX5_readToken 116 = .ok (.if_icmp .ne 7, 3) := by decide +kernel
theorem dX5_readToken_119 : decode cX5_readToken 119 = .ok (.iconst 3, 1) := by decide +kernel
theorem dX5_readToken_120 : decode cX5_readToken 120 = .ok (.goto 4, 3) := by decide +kernel
theorem dX5_readToken_123 : decode cX5_readToken 123 = .ok (.iconst 4, 1) := by decide +kernel
theorem dX5_readToken_124 : decode cX5_readToken 124 = .ok (.putfield 36, 3) := by decide +kernel
theorem dX5_readToken_127 : decode cX5_readToken 127 = .ok (.aload_n 0, 1) := by decide +kernel
theorem dX5_readToken_128 : decode cX5_readToken 128 = .ok (.dup, 1) := by decide +kernel
theorem dX5_readToken_129 : decode cX5_readToken 129 = .ok (.getfield 23, 3) := by decide +kernel
theorem dX5_readToken_132 : decode cX5_readToken 132 = .ok (.iconst 1, 1) := by decide +kernel
theorem dX5_readToken_133 : decode cX5_readToken 133 = .ok (.iadd, 1) := by decide +kernel
theorem dX5_readToken_134 : decode cX5_readToken 134 = .ok (.putfield 23, 3) := by decide +kernel
theorem dX5_readToken_137 : decode cX5_readToken 137 = .ok (.return_, 1) := by decide +kernel
theorem dX5_readLetters_0 : decode cX5_readLetters 0 = .ok (.aload_n 0, 1) := by decide +kernel
theorem dX5_readLetters_1 : decode cX5_readLetters 1 = .ok (.getfield 23, 3) := by decide +kernel
theorem dX5_readLetters_4 : decode cX5_readLetters 4 = .ok (.aload_n 0, 1) := by decide +kernel
theorem dX5_readLetters_5 : decode cX5_readLetters 5 = .ok (.getfield 15, 3) := by decide +kernel
theorem dX5_readLetters_8 : decode cX5_readLetters 8 = .ok (.if_icmp .ge 33, 3) := by decide +kernel
theorem dX5_readLetters_11 : decode cX5_readLetters 11 = .ok (.aload_n 0, 1) := by decide +kernel
theorem dX5_readLetters_12 : decode cX5_readLetters 12 = .ok (.getfield 9, 3) := by decide +kernel
theorem dX5_readLetters_15 : decode cX5_readLetters 15 = .ok (.aload_n 0, 1) := by decide +kernel
theorem dX5_readLetters_16 : decode cX5_readLetters 16 = .ok (.getfield 23, 3) := by decide +kernel
theorem dX5_readLetters_19 : decode cX5_readLetters 19 = .ok (.invokestatic 26, 3) := by decide +kernel
theorem dX5_readLetters_22 : decode cX5_readLetters 22 = .ok (.invokestatic 39, 3) := by decide +kernel
theorem dX5_readLetters_25 : decode cX5_readLetters 25 = .ok (.ifCond .eq 16, 3) := by decide +kernel
theorem dX5_readLetters_28 : decode cX5_readLetters 28 = .ok (.aload_n 0, 1) := by decide +kernel
theorem dX5_readLetters_29 : decode cX5_readLetters 29 = .ok (.dup, 1) := by decide +kernel
theorem dX5_readLetters_30 : decode cX5_readLetters 30 = .ok (.getfield 23, 3) := by decide +kernel
theorem dX5_readLetters_33 : decode cX5_readLetters 33 = .ok (.iconst 1, 1) := by decide +kernel
theorem dX5_readLetters_34 : decode cX5_readLetters 34 = .ok (.iadd, 1) := by decide +kernel
theorem dX5_readLetters_35 : decode cX5_readLetters 35 = .ok (.putfield 23, 3) := by decide +kernel
theorem dX5_readLetters_38 : decode cX5_readLetters 38 = .ok (.goto (-38), 3) := by decide +kernel
theorem dX5_readLetters_41 : decode cX5_readLetters 41 = .ok (.aload_n 0, 1) := by decide +kernel
theorem dX5_readLetters_42 : decode cX5_readLetters 42 = .ok (.iconst 1, 1) := by decide +kernel
theorem dX5_readLetters_43 : decode cX5_readLetters 43 = .ok (.putfield 36, 3) := by decide +kernel
theorem dX5_readLetters_46 : decode cX5_readLetters 46 = .ok (.aload_n 0, 1) := by decide +kernel
theorem dX5_readLetters_47 : decode cX5_readLetters 47 = .ok (.aload_n 0, 1) := by decide +kernel
theorem dX5_readLetters_48 : decode cX5_readLetters 48 = .ok (.getfield 23, 3) := by decide +kernel
theorem dX5_readLetters_51 : decode cX5_readLetters 51 = .ok (.aload_n 0, 1) := by decide +kernel
theorem dX5_readLetters_52 : decode cX5_readLetters 52 = .ok (.getfield 30, 3) := by decide +kernel
theorem dX5_readLetters_55 : decode cX5_readLetters 55 = .ok (.isub, 1) := by decide +kernel
theorem dX5_readLetters_56 : decode cX5_readLetters 56 = .ok (.iconst 1, 1) := by decide +kernel
theorem dX5_readLetters_57 : decode cX5_readLetters 57 = .ok (.if_icmp .ne 17, 3) := by decide +kernel
theorem dX5_readLetters_60 : decode cX5_readLetters 60 = .ok (.aload_n 0, 1) := by decide +kernel
theorem dX5_readLetters_61 : decode cX5_readLetters 61 = .ok (.getfield 9, 3) := by decide +kernel
theorem dX5_readLetters_64 : decode cX5_readLetters 64 = .ok (.aload_n 0, 1) := by decide +kernel
theorem dX5_readLetters_65 : decode cX5_readLetters 65 = .ok (.getfield 30, 3) := by decide +kernel
theorem dX5_readLetters_68 : decode cX5_readLetters 68 = .ok (.invokestatic 26, 3) := by decide +kernel
theorem dX5_readLetters_71 : decode cX5_readLetters 71 = .ok (.goto 4, 3) := by decide +kernel
theorem dX5_readLetters_74 : decode cX5_readLetters 74 = .ok (.iconst 0, 1) := by decide +kernel
theorem dX5_readLetters_75 : decode cX5_readLetters 75 = .ok (.putfield 33, 3) := by decide +kernel
theorem dX5_readLetters_78 : decode cX5_readLetters 78 = .ok (.return_, 1) := by decide +kernel
theorem dX5_readNumber_0 : decode cX5_readNumber 0 = .ok (.aload_n 0, 1) := by decide +kernel
theorem dX5_readNumber_1 : decode cX5_readNumber 1 = .ok (.getfield 23, 3) := by decide +kernel
theorem dX5_readNumber_4 : decode cX5_readNumber 4 = .ok (.aload_n 0, 1) := by decide +kernel
theorem dX5_readNumber_5 : decode cX5_readNumber 5 = .ok (.getfield 15, 3) := by decide +kernel
theorem dX5_readNumber_8 : decode cX5_readNumber 8 = .ok (.if_icmp .ge 65, 3) := by decide +kernel
theorem dX5_readNumber_11 : decode cX5_readNumber 11 = .ok (.aload_n 0, 1) := by decide +kernel
theorem dX5_readNumber_12 : decode cX5_readNumber 12 = .ok (.getfield 9, 3) := by decide +kernel
theorem dX5_readNumber_15 : decode cX5_readNumber 15 = .ok (.aload_n 0, 1) := by decide +kernel
theorem dX5_readNumber_16 : decode cX5_readNumber 16 = .ok (.getfield 23, 3) := by decide +kernel
theorem dX5_readNumber_19 : decode cX5_readNumber 19 = .ok (.invokestatic 26, 3) := by decide +kernel
theorem dX5_readNumber_22 : decode cX5_readNumber 22 = .ok (.invokestatic 46, 3) := by decide +kernel
theorem dX5_readNumber_25 : decode cX5_readNumber 25 = .ok (.ifCond .eq 48, 3) := by decide +kernel
theorem dX5_readNumber_28 : decode cX5_readNumber 28 = .ok (.aload_n 0, 1) := by decide +kernel
theorem dX5_readNumber_29 : decode cX5_readNumber 29 = .ok (.sipush 1000, 3) := by decide +kernel
theorem dX5_readNumber_32 : decode cX5_readNumber 32 = .ok (.aload_n 0, 1) := by decide +kernel
theorem dX5_readNumber_33 : decode cX5_readNumber 33 = .ok (.getfield 33, 3) := by decide +kernel
theorem dX5_readNumber_36 : decode cX5_readNumber 36 = .ok (.bipush 10, 2) := by decide +kernel
theorem dX5_readNumber_38 : decode cX5_readNumber 38 = .ok (.imul, 1) := by decide +kernel
theorem dX5_readNumber_39 : decode cX5_readNumber 39 = .ok (.aload_n 0, 1) := by decide +kernel
theorem dX5_readNumber_40 : decode cX5_readNumber 40 = .ok (.getfield 9, 3) := by decide +kernel
theorem dX5_readNumber_43 : decode cX5_readNumber 43 = .ok (.aload_n 0, 1) := by decide +kernel
theorem dX5_readNumber_44 : decode cX5_readNumber 44 = .ok (.getfield 23, 3) := by decide +kernel
theorem dX5_readNumber_47 : decode cX5_readNumber 47 = .ok (.invokestatic 26, 3) := by decide +kernel
theorem dX5_readNumber_50 : decode cX5_readNumber 50 = .ok (.iadd, 1) := by decide +kernel
theorem dX5_readNumber_51 : decode cX5_readNumber 51 = .ok (.bipush 48, 2) := by decide +kernel
theorem dX5_readNumber_53 : decode cX5_readNumber 53 = .ok (.isub, 1) := by decide +kernel
theorem dX5_readNumber_54 : decode cX5_readNumber 54 = .ok (.invokestatic 52, 3) := by decide +kernel
theorem dX5_readNumber_57 : decode cX5_readNumber 57 = .ok (.putfield 33, 3) := by decide +kernel
theorem dX5_readNumber_60 : decode cX5_readNumber 60 = .ok (.aload_n 0, 1) := by decide +kernel
theorem dX5_readNumber_61 : decode cX5_readNumber 61 = .ok (.dup, 1) := by decide +kernel
theorem dX5_readNumber_62 : decode cX5_readNumber 62 = .ok (.getfield 23, 3) := by decide +kernel
theorem dX5_readNumber_65 : decode cX5_readNumber 65 = .ok (.iconst 1, 1) := by decide +kernel
theorem dX5_readNumber_66 : decode cX5_readNumber 66 = .ok (.iadd, 1) := by decide +kernel
theorem dX5_readNumber_67 : decode cX5_readNumber 67 = .ok (.putfield 23, 3) := by decide +kernel
theorem dX5_readNumber_70 : decode cX5_readNumber 70 = .ok (.goto (-70), 3) := by decide +kernel
theorem dX5_readNumber_73 : decode cX5_readNumber 73 = .ok (.aload_n 0, 1) := by decide +kernel
theorem dX5_readNumber_74 : decode cX5_readNumber 74 = .ok (.getfield 9, 3) := by decide +kernel
theorem dX5_readNumber_77 : decode cX5_readNumber 77 = .ok (.aload_n 0, 1) := by decide +kernel
theorem dX5_readNumber_78 : decode cX5_readNumber 78 = .ok (.getfield 30, 3) := by decide +kernel
theorem dX5_readNumber_81 : decode cX5_readNumber 81 = .ok (.invokestatic 26, 3) := by decide +kernel
theorem dX5_readNumber_84 : decode cX5_readNumber 84 = .ok (.bipush 48, 2) := by decide +kernel
theorem dX5_readNumber_86 : decode cX5_readNumber 86 = .ok (.if_icmp .ne 20, 3) := by decide +kernel
theorem dX5_readNumber_89 : decode cX5_readNumber 89 = .ok (.aload_n 0, 1) := by decide +kernel
theorem dX5_readNumber_90 : decode cX5_readNumber 90 = .ok (.getfield 23, 3) := by decide +kernel
theorem dX5_readNumber_93 : decode cX5_readNumber 93 = .ok (.aload_n 0, 1) := by decide +kernel
theorem dX5_readNumber_94 : decode cX5_readNumber 94 = .ok (.getfield 30, 3) := by decide +kernel
theorem dX5_readNumber_97 : decode cX5_readNumber 97 = .ok (.isub, 1) := by decide +kernel
theorem dX5_readNumber_98 : decode cX5_readNumber 98 = .ok (.iconst 1, 1) := by decide +kernel
theorem dX5_readNumber_99 : decode cX5_readNumber 99 = .ok (.if_icmp .le 7, 3) := by decide +kernel
theorem dX5_readNumber_102 : decode cX5_readNumber 102 = .ok (.iconst 1, 1) := by decide +kernel
theorem dX5_readNumber_103 : decode cX5_readNumber 103 = .ok (.goto 4, 3) := by decide +kernel
theorem dX5_readNumber_106 : decode cX5_readNumber 106 = .ok (.iconst 0, 1) := by decide +kernel
theorem dX5_readNumber_107 : decode cX5_readNumber 107 = .ok (.istore_n 1, 1) := by decide +kernel
theorem dX5_readNumber_108 : decode cX5_readNumber 108 = .ok (.aload_n 0, 1) := by decide +kernel
theorem dX5_readNumber_109 : decode cX5_readNumber 109 = .ok (.iload_n 1, 1) := by decide +kernel
theorem dX5_readNumber_110 : decode cX5_readNumber 110 = .ok (.ifCond .ne 13, 3) := by decide +kernel
theorem dX5_readNumber_113 : decode cX5_readNumber 113 = .ok (.aload_n 0, 1) := by decide +kernel
theorem dX5_readNumber_114 : decode cX5_readNumber 114 = .ok (.getfield 33, 3) := by decide +kernel
theorem dX5_readNumber_117 : decode cX5_readNumber 117 = .ok (.sipush 999, 3) := by decide +kernel
theorem dX5_readNumber_120 : decode cX5_readNumber 120 = .ok (.if_icmp .le 7, 3) := by decide +kernel
theorem dX5_readNumber_123 : decode cX5_readNumber 123 = .ok (.iconst 4, 1) := by decide +kernel
theorem dX5_readNumber_124 : decode cX5_readNumber 124 = .ok (.goto 4, 3) := by decide +kernel
theorem dX5_readNumber_127 : decode cX5_readNumber 127 = .ok (.iconst 2, 1) := by decide +kernel
theorem dX5_readNumber_128 : decode cX5_readNumber 128 = .ok (.putfield 36, 3) := by decide +kernel
theorem dX5_readNumber_131 : decode cX5_readNumber 131 = .ok (.return_, 1) := by decide +kernel
theorem dX5_isLetter_0 : decode cX5_isLetter 0 = .ok (.iload_n 0, 1) := by decide +kernel
theorem dX5_isLetter_1 : decode cX5_isLetter 1 = .ok (.bipush 97, 2) := by decide +kernel
theorem dX5_isLetter_3 : decode cX5_isLetter 3 = .ok (.if_icmp .lt 13, 3) := by decide +kernel
theorem dX5_isLetter_6 : decode cX5_isLetter 6 = .ok (.iload_n 0, 1) := by decide +kernel
theorem dX5_isLetter_7 : decode cX5_isLetter 7 = .ok (.bipush 122, 2) := by decide +kernel
theorem dX5_isLetter_9 : decode cX5_isLetter 9 = .ok (.if_icmp .gt 7, 3) := by decide +kernel
theorem dX5_isLetter_12 : decode cX5_isLetter 12 = .ok (.iconst 1, 1) := by decide +kernel
theorem dX5_isLetter_13 : decode cX5_isLetter 13 = .ok (.goto 4, 3) := by decide +kernel
theorem dX5_isLetter_16 : decode cX5_isLetter 16 = .ok (.iconst 0, 1) := by decide +kernel
theorem dX5_isLetter_17 : decode cX5_isLetter 17 = .ok (.ireturn, 1) := by decide +kernel
theorem dX5_isDigit_0 : decode cX5_isDigit 0 = .ok (.iload_n 0, 1) := by decide +kernel
theorem dX5_isDigit_1 : decode cX5_isDigit 1 = .ok (.bipush 48, 2) := by decide +kernel
theorem dX5_isDigit_3 : decode cX5_isDigit 3 = .ok (.if_icmp .lt 13, 3) := by decide +kernel
theorem dX5_isDigit_6 : decode cX5_isDigit 6 = .ok (.iload_n 0, 1) := by decide +kernel
theorem dX5_isDigit_7 : decode cX5_isDigit 7 = .ok (.bipush 57, 2) := by decide +kernel
theorem dX5_isDigit_9 : decode cX5_isDigit 9 = .ok (.if_icmp .gt 7, 3) := by decide +kernel
theorem dX5_isDigit_12 : decode cX5_isDigit 12 = .ok (.iconst 1, 1) := by decide +kernel
theorem dX5_isDigit_13 : decode cX5_isDigit 13 = .ok (.goto 4, 3) := by decide +kernel
theorem dX5_isDigit_16 : decode cX5_isDigit 16 = .ok (.iconst 0, 1) := by decide +kernel
theorem dX5_isDigit_17 : decode cX5_isDigit 17 = .ok (.ireturn, 1) := by decide +kernel
theorem dX6_init_0 : decode cX6_init 0 = .ok (.aload_n 0, 1) := by decide +kernel
theorem dX6_init_1 : decode cX6_init 1 = .ok (.invokespecial 1, 3) := by decide +kernel
theorem dX6_init_4 : decode cX6_init 4 = .ok (.aload_n 0, 1) := by decide +kernel
theorem dX6_init_5 : decode cX6_init 5 = .ok (.new 7, 3) := by decide +kernel
theorem dX6_init_8 : decode cX6_init 8 = .ok (.dup, 1) := by decide +kernel
theorem dX6_init_9 : decode cX6_init 9 = .ok (.invokespecial 9, 3) := by decide +kernel
theorem dX6_init_12 : decode cX6_init 12 = .ok (.putfield 10, 3) := by decide +kernel
theorem dX6_init_15 : decode cX6_init 15 = .ok (.aload_n 0, 1) := by decide +kernel
theorem dX6_init_16 : decode cX6_init 16 = .ok (.new 16, 3) := by decide +kernel
theorem dX6_init_19 : decode cX6_init 19 = .ok (.dup, 1) := by decide +kernel
theorem dX6_init_20 : decode cX6_init 20 = .ok (.invokespecial 18, 3) := by decide +kernel
theorem dX6_init_23 : decode cX6_init 23 = .ok (.putfield 19, 3) := by decide +kernel
theorem dX6_init_26 : decode cX6_init 26 = .ok (.aload_n 0, 1) := by decide +kernel
theorem dX6_init_27 : decode cX6_init 27 = .ok (.new 23, 3) := by decide +kernel
theorem dX6_init_30 : decode cX6_init 30 = .ok (.dup, 1) := by decide +kernel
theorem dX6_init_31 : decode cX6_init 31 = .ok (.invokespecial 25, 3) := by decide +kernel
theorem dX6_init_34 : decode cX6_init 34 = .ok (.putfield 26, 3) := by decide +kernel
theorem dX6_init_37 : decode cX6_init 37 = .ok (.aload_n 0, 1) := by decide +kernel
theorem dX6_init_38 : decode cX6_init 38 = .ok (.new 30, 3) := by decide +kernel
theorem dX6_init_41 : decode cX6_init 41 = .ok (.dup, 1) := by decide +kernel
theorem dX6_init_42 : decode cX6_init 42 = .ok (.invokespecial 32, 3) := by decide +kernel
theorem dX6_init_45 : decode cX6_init 45 = .ok (.putfield 33, 3) := by decide +kernel
theorem dX6_init_48 : decode cX6_init 48 = .ok (.aload_n 0, 1) := by decide +kernel
theorem dX6_init_49 : decode cX6_init 49 = .ok (.iconst 2, 1) := by decide +kernel
theorem dX6_init_50 : decode cX6_init 50 = .ok (.anewarray 16, 3) := by decide +kernel
theorem dX6_init_53 : decode cX6_init 53 = .ok (.putfield 37, 3) := by decide +kernel
theorem dX6_init_56 : decode cX6_init 56 = .ok (.aload_n 0, 1) := by decide +kernel
theorem dX6_init_57 : decode cX6_init 57 = .ok (.iconst 2, 1) := by decide +kernel
theorem dX6_init_58 : decode cX6_init 58 = .ok (.newarray .boolean, 2) := by decide +kernel
theorem dX6_init_60 : decode cX6_init 60 = .ok (.putfield 41, 3) := by decide +kernel
theorem dX6_init_63 : decode cX6_init 63 = .ok (.aload_n 0, 1) := by decide +kernel
theorem dX6_init_64 : decode cX6_init 64 = .ok (.new 45, 3) := by decide +kernel
theorem dX6_init_67 : decode cX6_init 67 = .ok (.dup, 1) := by decide +kernel
theorem dX6_init_68 : decode cX6_init 68 = .ok (.invokespecial 47, 3) := by decide +kernel
theorem dX6_init_71 : decode cX6_init 71 = .ok (.putfield 48, 3) := by decide +kernel
theorem dX6_init_74 : decode cX6_init 74 = .ok (.aload_n 0, 1) := by decide +kernel
theorem dX6_init_75 : decode cX6_init 75 = .ok (.new 45, 3) := by decide +kernel
theorem dX6_init_78 : decode cX6_init 78 = .ok (.dup, 1) := by decide +kernel
theorem dX6_init_79 : decode cX6_init 79 = .ok (.invokespecial 47, 3) := by decide +kernel
theorem dX6_init_82 : decode cX6_init 82 = .ok (.putfield 52, 3) := by decide +kernel
theorem dX6_init_85 : decode cX6_init 85 = .ok (.iconst 0, 1) := by decide +kernel
theorem dX6_init_86 : decode cX6_init 86 = .ok (.istore_n 1, 1) := by decide +kernel
theorem dX6_init_87 : decode cX6_init 87 = .ok (.iload_n 1, 1) := by decide +kernel
theorem dX6_init_88 : decode cX6_init 88 = .ok (.aload_n 0, 1) := by decide +kernel
theorem dX6_init_89 : decode cX6_init 89 = .ok (.getfield 37, 3) := by decide +kernel
theorem dX6_init_92 : decode cX6_init 92 = .ok (.arraylength, 1) := by decide +kernel
theorem dX6_init_93 : decode cX6_init 93 = .ok (.if_icmp .ge 22, 3) := by decide +kernel
theorem dX6_init_96 : decode cX6_init 96 = .ok (.aload_n 0, 1) := by decide +kernel
theorem dX6_init_97 : decode cX6_init 97 = .ok (.getfield 37, 3) := by decide +kernel
theorem dX6_init_100 : decode cX6_init 100 = .ok (.iload_n 1, 1) := by decide +kernel
theorem dX6_init_101 : decode cX6_init 101 = .ok (.new 16, 3) := by decide +kernel
theorem dX6_init_104 : decode cX6_init 104 = .ok (.dup, 1) := by decide +kernel
theorem dX6_init_105 : decode cX6_init 105 = .ok (.invokespecial 18, 3) := by decide +kernel
theorem dX6_init_108 : decode cX6_init 108 = .ok (.aastore, 1) := by decide +kernel
theorem dX6_init_109 : decode cX6_init 109 = .ok (.iinc 1 1, 3) := by decide +kernel
theorem dX6_init_112 : decode cX6_init 112 = .ok (.goto (-25), 3) := by decide +kernel
theorem dX6_init_115 : decode cX6_init 115 = .ok (.aload_n 0, 1) := by decide +kernel
theorem dX6_init_116 : decode cX6_init 116 = .ok (.getfield 19, 3) := by decide +kernel
theorem dX6_init_119 : decode cX6_init 119 = .ok (.aload_n 0, 1) := by decide +kernel
theorem dX6_init_120 : decode cX6_init 120 = .ok (.getfield 48, 3) := by decide +kernel
theorem dX6_init_123 : decode cX6_init 123 = .ok (.invokevirtual 55, 3) := by decide +kernel
theorem dX6_init_126 : decode cX6_init 126 = .ok (.return_, 1) := by decide +kernel
theorem dX6_type_0 : decode cX6_type 0 = .ok (.iload_n 1, 1) := by decide +kernel
theorem dX6_type_1 : decode cX6_type 1 = .ok (.ifCond .lt 10, 3) := by decide +kernel
theorem dX6_type_4 : decode cX6_type 4 = .ok (.iload_n 1, 1) := by decide +kernel
theorem dX6_type_5 : decode cX6_type 5 = .ok (.sipush 255, 3) := by decide +kernel
theorem dX6_type_8 : decode cX6_type 8 = .ok (.if_icmp .le 5, 3) := by decide +kernel
theorem dX6_type_11 : decode cX6_type 11 = .ok (.iconst (-1), 1) := by decide +kernel
theorem dX6_type_12 : decode cX6_type 12 = .ok (.ireturn, 1) := by decide +kernel
theorem dX6_type_13 : decode cX6_type 13 = .ok (.aload_n 0, 1) := by decide +kernel
theorem dX6_type_14 : decode cX6_type 14 = .ok (.getfield 10, 3) := by decide +kernel
theorem dX6_type_17 : decode cX6_type 17 = .ok (.invokevirtual 59, 3) := by decide +kernel
theorem dX6_type_20 : decode cX6_type 20 = .ok (.ifCond .eq 8, 3) := by decide +kernel
theorem dX6_type_23 : decode cX6_type 23 = .ok (.bipush (-3), 2) := by decide +kernel
theorem dX6_type_25 : decode cX6_type 25 = .ok (.goto 11, 3) := by decide +kernel
theorem dX6_type_28 : decode cX6_type 28 = .ok (.aload_n 0, 1) := by decide +kernel
theorem dX6_type_29 : decode cX6_type 29 = .ok (.getfield 10, 3) := by decide +kernel
theorem dX6_type_32 : decode cX6_type 32 = .ok (.iload_n 1, 1) := by decide +kernel
theorem dX6_type_33 : decode cX6_type 33 = .ok (.invokevirtual 63, 3) := by decide +kernel
theorem dX6_type_36 : decode cX6_type 36 = .ok (.ireturn, 1) := by decide +kernel
theorem dX6_clear_0 : decode cX6_clear 0 = .ok (.aload_n 0, 1) := by decide +kernel
theorem dX6_clear_1 : decode cX6_clear 1 = .ok (.getfield 10, 3) := by decide +kernel
theorem dX6_clear_4 : decode cX6_clear 4 = .ok (.invokevirtual 67, 3) := by decide +kernel
theorem dX6_clear_7 : decode cX6_clear 7 = .ok (.ireturn, 1) := by decide +kernel
theorem dX6_office_0 : decode cX6_office 0 = .ok (.aload_n 0, 1) := by decide +kernel
theorem dX6_office_1 : decode cX6_office 1 = .ok (.getfield 52, 3) := by decide +kernel
theorem dX6_office_4 : decode cX6_office 4 = .ok (.aload_n 0, 1) := by decide +kernel
theorem dX6_office_5 : decode cX6_office 5 = .ok (.getfield 10, 3) := by decide +kernel
theorem dX6_office_8 : decode cX6_office 8 = .ok (.invokevirtual 71, 3) := by decide +kernel
theorem dX6_office_11 : decode cX6_office 11 = .ok (.istore_n 1, 1) := by decide +kernel
theorem dX6_office_12 : decode cX6_office 12 = .ok (.iload_n 1, 1) := by decide +kernel
theorem dX6_office_13 : decode cX6_office 13 = .ok (.ifCond .ge 5, 3) := by decide +kernel
theorem dX6_office_16 : decode cX6_office 16 = .ok (.iload_n 1, 1) := by decide +kernel
theorem dX6_office_17 : decode cX6_office 17 = .ok (.ireturn, 1) := by decide +kernel
theorem dX6_office_18 : decode cX6_office 18 = .ok (.aload_n 0, 1) := by decide +kernel
theorem dX6_office_19 : decode cX6_office 19 = .ok (.getfield 48, 3) := by decide +kernel
theorem dX6_office_22 : decode cX6_office 22 = .ok (.astore_n 2, 1) := by decide +kernel
theorem dX6_office_23 : decode cX6_office 23 = .ok (.aload_n 0, 1) := by decide +kernel
theorem dX6_office_24 : decode cX6_office 24 = .ok (.aload_n 0, 1) := by decide +kernel
theorem dX6_office_25 : decode cX6_office 25 = .ok (.getfield 52, 3) := by decide +kernel
theorem dX6_office_28 : decode cX6_office 28 = .ok (.putfield 48, 3) := by decide +kernel
theorem dX6_office_31 : decode cX6_office 31 = .ok (.aload_n 0, 1) := by decide +kernel
theorem dX6_office_32 : decode cX6_office 32 = .ok (.aload_n 2, 1) := by decide +kernel
theorem dX6_office_33 : decode cX6_office 33 = .ok (.putfield 52, 3) := by decide +kernel
theorem dX6_office_36 : decode cX6_office 36 = .ok (.aload_n 0, 1) := by decide +kernel
theorem dX6_office_37 : decode cX6_office 37 = .ok (.getfield 10, 3) := by decide +kernel
theorem dX6_office_40 : decode cX6_office 40 = .ok (.invokevirtual 67, 3) := by decide +kernel
theorem dX6_office_43 : decode cX6_office 43 = .ok (.pop, 1) := by decide +kernel
theorem dX6_office_44 : decode cX6_office 44 = .ok (.aload_n 0, 1) := by decide +kernel
theorem dX6_office_45 : decode cX6_office 45 = .ok (.getfield 19, 3) := by decide +kernel
theorem dX6_office_48 : decode cX6_office 48 = .ok (.aload_n 0, 1) := by decide +kernel
theorem dX6_office_49 : decode cX6_office 49 = .ok (.getfield 48, 3) := by decide +kernel
theorem dX6_office_52 : decode cX6_office 52 = .ok (.invokevirtual 55, 3) := by decide +kernel
theorem dX6_office_55 : decode cX6_office 55 = .ok (.aload_n 0, 1) := by decide +kernel
theorem dX6_office_56 : decode cX6_office 56 = .ok (.getfield 33, 3) := by decide +kernel
theorem dX6_office_59 : decode cX6_office 59 = .ok (.invokevirtual 75, 3) := by decide +kernel
theorem dX6_office_62 : decode cX6_office 62 = .ok (.pop, 1) := by decide +kernel
theorem dX6_office_63 : decode cX6_office 63 = .ok (.iconst 0, 1) := by decide +kernel
theorem dX6_office_64 : decode cX6_office 64 = .ok (.istore_n 3, 1) := by decide +kernel
theorem dX6_office_65 : decode cX6_office 65 = .ok (.iload_n 3, 1) := by decide +kernel
theorem dX6_office_66 : decode cX6_office 66 = .ok (.aload_n 0, 1) := by decide +kernel
theorem dX6_office_67 : decode cX6_office 67 = .ok (.getfield 41, 3) := by decide +kernel
theorem dX6_office_70 : decode cX6_office 70 = .ok (.arraylength, 1) := by decide +kernel
theorem dX6_office_71 : decode cX6_office 71 = .ok (.if_icmp .ge 16, 3) := by decide +kernel
theorem dX6_office_74 : decode cX6_office 74 = .ok (.aload_n 0, 1) := by decide +kernel
theorem dX6_office_75 : decode cX6_office 75 = .ok (.getfield 41, 3) := by decide +kernel
theorem dX6_office_78 : decode cX6_office 78 = .ok (.iload_n 3, 1) := by decide +kernel
theorem dX6_office_79 : decode cX6_office 79 = .ok (.iconst 0, 1) := by decide +kernel
theorem dX6_office_80 : decode cX6_office 80 = .ok (.bastore, 1) := by decide +kernel
theorem dX6_office_81 : decode cX6_office 81 = .ok (.iinc 3 1, 3) := by decide +kernel
theorem dX6_office_84 : decode cX6_office 84 = .ok (.goto (-19), 3) := by decide +kernel
theorem dX6_office_87 : decode cX6_office 87 = .ok (.iload_n 1, 1) := by decide +kernel
theorem dX6_office_88 : decode cX6_office 88 = .ok (.ireturn, 1) := by decide +kernel
theorem dX6_job_0 : decode cX6_job 0 = .ok (.aload_n 0, 1) := by decide +kernel
theorem dX6_job_1 : decode cX6_job 1 = .ok (.getfield 48, 3) := by decide +kernel
theorem dX6_job_4 : decode cX6_job 4 = .ok (.iload_n 1, 1) := by decide +kernel
theorem dX6_job_5 : decode cX6_job 5 = .ok (.invokevirtual 78, 3) := by decide +kernel
theorem dX6_job_8 : decode cX6_job 8 = .ok (.astore_n 3, 1) := by decide +kernel
theorem dX6_job_9 : decode cX6_job 9 = .ok (.aload_n 3, 1) := by decide +kernel
theorem dX6_job_10 : decode cX6_job 10 = .ok (.ifnonnull 5, 3) := by decide +kernel
theorem dX6_job_13 : decode cX6_job 13 = .ok (.iconst (-1), 1) := by decide +kernel
theorem dX6_job_14 : decode cX6_job 14 = .ok (.ireturn, 1) := by decide +kernel
theorem dX6_job_15 : decode cX6_job 15 = .ok (.iload_n 2, 1) := by decide +kernel
theorem dX6_job_16 : decode cX6_job 16 = .ok (.tableswitch 164 0 10 #[60, 65, 70, 83, 96, 101, 106, 118, 130, 142, 148], 60) := by decide +kernel
theorem dX6_job_76 : decode cX6_job 76 = .ok (.aload_n 3, 1) := by decide +kernel
theorem dX6_job_77 : decode cX6_job 77 = .ok (.getfield 82, 3) := by decide +kernel
theorem dX6_job_80 : decode cX6_job 80 = .ok (.ireturn, 1) := by decide +kernel
theorem dX6_job_81 : decode cX6_job 81 = .ok (.aload_n 3, 1) := by decide +kernel
theorem dX6_job_82 : decode cX6_job 82 = .ok (.getfield 88, 3) := by decide +kernel
theorem dX6_job_85 : decode cX6_job 85 = .ok (.ireturn, 1) := by decide +kernel
theorem dX6_job_86 : decode cX6_job 86 = .ok (.aload_n 3, 1) := by decide +kernel
theorem dX6_job_87 : decode cX6_job 87 = .ok (.getfield 91, 3) := by decide +kernel
theorem dX6_job_90 : decode cX6_job 90 = .ok (.ifCond .eq 7, 3) := by decide +kernel
theorem dX6_job_93 : decode cX6_job 93 = .ok (.iconst 1, 1) := by decide +kernel
theorem dX6_job_94 : decode cX6_job 94 = .ok (.goto 4, 3) := by decide +kernel
theorem dX6_job_97 : decode cX6_job 97 = .ok (.iconst 0, 1) := by decide +kernel
theorem dX6_job_98 : decode cX6_job 98 = .ok (.ireturn, 1) := by decide +kernel
theorem dX6_job_99 : decode cX6_job 99 = .ok (.aload_n 3, 1) := by decide +kernel
theorem dX6_job_100 : decode cX6_job 100 = .ok (.getfield 95, 3) := by decide +kernel
theorem dX6_job_103 : decode cX6_job 103 = .ok (.ifCond .eq 7, 3) := by decide +kernel
theorem dX6_job_106 : decode cX6_job 106 = .ok (.iconst 1, 1) := by decide +kernel
theorem dX6_job_107 : decode cX6_job 107 = .ok (.goto 4, 3) := by decide +kernel
theorem dX6_job_110 : decode cX6_job 110 = .ok (.iconst 0, 1) := by decide +kernel
theorem dX6_job_111 : decode cX6_job 111 = .ok (.ireturn, 1) := by decide +kernel
theorem dX6_job_112 : decode cX6_job 112 = .ok (.aload_n 3, 1) := by decide +kernel
theorem dX6_job_113 : decode cX6_job 113 = .ok (.getfield 98, 3) := by decide +kernel
theorem dX6_job_116 : decode cX6_job 116 = .ok (.ireturn, 1) := by decide +kernel
theorem dX6_job_117 : decode cX6_job 117 = .ok (.aload_n 3, 1) := by decide +kernel
theorem dX6_job_118 : decode cX6_job 118 = .ok (.invokevirtual 101, 3) := by decide +kernel
theorem dX6_job_121 : decode cX6_job 121 = .ok (.ireturn, 1) := by decide +kernel
theorem dX6_job_122 : decode cX6_job 122 = .ok (.aload_n 0, 1) := by decide +kernel
theorem dX6_job_123 : decode cX6_job 123 = .ok (.getfield 19, 3) := by decide +kernel
theorem dX6_job_126 : decode cX6_job 126 = .ok (.getfield 104, 3) := by decide +kernel
theorem dX6_job_129 : decode cX6_job 129 = .ok (.iload_n 1, 1) := by decide +kernel
theorem dX6_job_130 : decode cX6_job 130 = .ok (.invokevirtual 107, 3) := by decide +kernel
theorem dX6_job_133 : decode cX6_job 133 = .ok (.ireturn, 1) := by decide +kernel
theorem dX6_job_134 : decode cX6_job 134 = .ok (.aload_n 0, 1) := by decide +kernel
theorem dX6_job_135 : decode cX6_job 135 = .ok (.getfield 19, 3) := by decide +kernel
theorem dX6_job_138 : decode cX6_job 138 = .ok (.getfield 104, 3) := by decide +kernel
theorem dX6_job_141 : decode cX6_job 141 = .ok (.iload_n 1, 1) := by decide +kernel
theorem dX6_job_142 : decode cX6_job 142 = .ok (.invokevirtual 110, 3) := by decide +kernel
theorem dX6_job_145 : decode cX6_job 145 = .ok (.ireturn, 1) := by decide +kernel
theorem dX6_job_146 : decode cX6_job 146 = .ok (.aload_n 0, 1) := by decide +kernel
theorem dX6_job_147 : decode cX6_job 147 = .ok (.getfield 19, 3) := by decide +kernel
theorem dX6_job_150 : decode cX6_job 150 = .ok (.getfield 104, 3) := by decide +kernel
theorem dX6_job_153 : decode cX6_job 153 = .ok (.iload_n 1, 1) := by decide +kernel
theorem dX6_job_154 : decode cX6_job 154 = .ok (.invokevirtual 113, 3) := by decide +kernel
theorem dX6_job_157 : decode cX6_job 157 = .ok (.ireturn, 1) := by decide +kernel
theorem dX6_job_158 : decode cX6_job 158 = .ok (.aload_n 0, 1) := by decide +kernel
theorem dX6_job_159 : decode cX6_job 159 = .ok (.iload_n 1, 1) := by decide +kernel
theorem dX6_job_160 : decode cX6_job 160 = .ok (.invokevirtual 116, 3) := by decide +kernel
theorem dX6_job_163 : decode cX6_job 163 = .ok (.ireturn, 1) := by decide +kernel
theorem dX6_job_164 : decode cX6_job 164 = .ok (.aload_n 0, 1) := by decide +kernel
theorem dX6_job_165 : decode cX6_job 165 = .ok (.getfield 19, 3) := by decide +kernel
theorem dX6_job_168 : decode cX6_job 168 = .ok (.getfield 104, 3) := by decide +kernel
theorem dX6_job_171 : decode cX6_job 171 = .ok (.aload_n 0, 1) := by decide +kernel
theorem dX6_job_172 : decode cX6_job 172 = .ok (.getfield 48, 3) := by decide +kernel
theorem dX6_job_175 : decode cX6_job 175 = .ok (.iload_n 1, 1) := by decide +kernel
theorem dX6_job_176 : decode cX6_job 176 = .ok (.invokevirtual 119, 3) := by decide +kernel
theorem dX6_job_179 : decode cX6_job 179 = .ok (.ireturn, 1) := by decide +kernel
theorem dX6_job_180 : decode cX6_job 180 = .ok (.iconst (-1), 1) := by decide +kernel
theorem dX6_job_181 : decode cX6_job 181 = .ok (.ireturn, 1) := by decide +kernel
theorem dX6_sheet_0 : decode cX6_sheet 0 = .ok (.aload_n 0, 1) := by decide +kernel
theorem dX6_sheet_1 : decode cX6_sheet 1 = .ok (.getfield 48, 3) := by decide +kernel
theorem dX6_sheet_4 : decode cX6_sheet 4 = .ok (.iload_n 1, 1) := by decide +kernel
theorem dX6_sheet_5 : decode cX6_sheet 5 = .ok (.invokevirtual 78, 3) := by decide +kernel
theorem dX6_sheet_8 : decode cX6_sheet 8 = .ok (.astore 4, 2) := by decide +kernel
theorem dX6_sheet_10 : decode cX6_sheet 10 = .ok (.aload 4, 2) := by decide +kernel
theorem dX6_sheet_12 : decode cX6_sheet 12 = .ok (.ifnull 12, 3) := by decide +kernel
theorem dX6_sheet_15 : decode cX6_sheet 15 = .ok (.aload 4, 2) := by decide +kernel
theorem dX6_sheet_17 : decode cX6_sheet 17 = .ok (.iload_n 2, 1) := by decide +kernel
theorem dX6_sheet_18 : decode cX6_sheet 18 = .ok (.invokevirtual 123, 3) := by decide +kernel
theorem dX6_sheet_21 : decode cX6_sheet 21 = .ok (.ifCond .ne 5, 3) := by decide +kernel
theorem dX6_sheet_24 : decode cX6_sheet 24 = .ok (.iconst (-1), 1) := by decide +kernel
theorem dX6_sheet_25 : decode cX6_sheet 25 = .ok (.ireturn, 1) := by decide +kernel
theorem dX6_sheet_26 : decode cX6_sheet 26 = .ok (.iload_n 3, 1) := by decide +kernel
theorem dX6_sheet_27 : decode cX6_sheet 27 = .ok (.tableswitch 61 0 3 #[29, 36, 43, 50], 29) := by decide +kernel
theorem dX6_sheet_56 : decode cX6_sheet 56 = .ok (.aload 4, 2) := by decide +kernel
theorem dX6_sheet_58 : decode cX6_sheet 58 = .ok (.iload_n 2, 1) := by decide +kernel
theorem dX6_sheet_59 : decode cX6_sheet 59 = .ok (.invokevirtual 127, 3) := by decide +kernel
theorem dX6_sheet_62 : decode cX6_sheet 62 = .ok (.ireturn, 1) := by decide +kernel
theorem dX6_sheet_63 : decode cX6_sheet 63 = .ok (.aload 4, 2) := by decide +kernel
theorem dX6_sheet_65 : decode cX6_sheet 65 = .ok (.iload_n 2, 1) := by decide +kernel
theorem dX6_sheet_66 : decode cX6_sheet 66 = .ok (.invokevirtual 130, 3) := by decide +kernel
theorem dX6_sheet_69 : decode cX6_sheet 69 = .ok (.ireturn, 1) := by decide +kernel
theorem dX6_sheet_70 : decode cX6_sheet 70 = .ok (.aload 4, 2) := by decide +kernel
theorem dX6_sheet_72 : decode cX6_sheet 72 = .ok (.iload_n 2, 1) := by decide +kernel
theorem dX6_sheet_73 : decode cX6_sheet 73 = .ok (.invokevirtual 133, 3) := by decide +kernel
theorem dX6_sheet_76 : decode cX6_sheet 76 = .ok (.ireturn, 1) := by decide +kernel
theorem dX6_sheet_77 : decode cX6_sheet 77 = .ok (.aload_n 0, 1) := by decide +kernel
theorem dX6_sheet_78 : decode cX6_sheet 78 = .ok (.getfield 48, 3) := by decide +kernel
theorem dX6_sheet_81 : decode cX6_sheet 81 = .ok (.aload 4, 2) := by decide +kernel
theorem dX6_sheet_83 : decode cX6_sheet 83 = .ok (.iload_n 2, 1) := by decide +kernel
theorem dX6_sheet_84 : decode cX6_sheet 84 = .ok (.invokevirtual 136, 3) := by decide +kernel
theorem dX6_sheet_87 : decode cX6_sheet 87 = .ok (.ireturn, 1) := by decide +kernel
theorem dX6_sheet_88 : decode cX6_sheet 88 = .ok (.iconst (-1), 1) := by decide +kernel
theorem dX6_sheet_89 : decode cX6_sheet 89 = .ok (.ireturn, 1) := by decide +kernel
theorem dX6_where_0 : decode cX6_where 0 = .ok (.aload_n 0, 1) := by decide +kernel
theorem dX6_where_1 : decode cX6_where 1 = .ok (.getfield 48, 3) := by decide +kernel
theorem dX6_where_4 : decode cX6_where 4 = .ok (.iload_n 1, 1) := by decide +kernel
theorem dX6_where_5 : decode cX6_where 5 = .ok (.invokevirtual 78, 3) := by decide +kernel
theorem dX6_where_8 : decode cX6_where 8 = .ok (.astore 4, 2) := by decide +kernel
theorem dX6_where_10 : decode cX6_where 10 = .ok (.aload 4, 2) := by decide +kernel
theorem dX6_where_12 : decode cX6_where 12 = .ok (.ifnull 25, 3) := by decide +kernel
theorem dX6_where_15 : decode cX6_where 15 = .ok (.aload 4, 2) := by decide +kernel
theorem dX6_where_17 : decode cX6_where 17 = .ok (.iload_n 2, 1) := by decide +kernel
theorem dX6_where_18 : decode cX6_where 18 = .ok (.invokevirtual 140, 3) := by decide +kernel
theorem dX6_where_21 : decode cX6_where 21 = .ok (.ifCond .eq 16, 3) := by decide +kernel
theorem dX6_where_24 : decode cX6_where 24 = .ok (.iload_n 3, 1) := by decide +kernel
theorem dX6_where_25 : decode cX6_where 25 = .ok (.ifCond .lt 12, 3) := by decide +kernel
theorem dX6_where_28 : decode cX6_where 28 = .ok (.iload_n 3, 1) := by decide +kernel
theorem dX6_where_29 : decode cX6_where 29 = .ok (.aload 4, 2) := by decide +kernel
theorem dX6_where_31 : decode cX6_where 31 = .ok (.getfield 88, 3) := by decide +kernel
theorem dX6_where_34 : decode cX6_where 34 = .ok (.if_icmp .lt 5, 3) := by decide +kernel
theorem dX6_where_37 : decode cX6_where 37 = .ok (.iconst (-1), 1) := by decide +kernel
theorem dX6_where_38 : decode cX6_where 38 = .ok (.ireturn, 1) := by decide +kernel
theorem dX6_where_39 : decode cX6_where 39 = .ok (.aload 4, 2) := by decide +kernel
theorem dX6_where_41 : decode cX6_where 41 = .ok (.iload_n 2, 1) := by decide +kernel
theorem dX6_where_42 : decode cX6_where 42 = .ok (.iload_n 3, 1) := by decide +kernel
theorem dX6_where_43 : decode cX6_where 43 = .ok (.invokevirtual 143, 3) := by decide +kernel
theorem dX6_where_46 : decode cX6_where 46 = .ok (.ireturn, 1) := by decide +kernel
theorem dX6_tray_0 : decode cX6_tray 0 = .ok (.iload_n 1, 1) := by decide +kernel
theorem dX6_tray_1 : decode cX6_tray 1 = .ok (.ifCond .lt 8, 3) := by decide +kernel
theorem dX6_tray_4 : decode cX6_tray 4 = .ok (.iload_n 1, 1) := by decide +kernel
theorem dX6_tray_5 : decode cX6_tray 5 = .ok (.iconst 3, 1) := by decide +kernel
theorem dX6_tray_6 : decode cX6_tray 6 = .ok (.if_icmp .lt 5, 3) := by decide +kernel
theorem dX6_tray_9 : decode cX6_tray 9 = .ok (.iconst (-1), 1) := by decide +kernel
theorem dX6_tray_10 : decode cX6_tray 10 = .ok (.ireturn, 1) := by decide +kernel
theorem dX6_tray_11 : decode cX6_tray 11 = .ok (.iload_n 2, 1) := by decide +kernel
theorem dX6_tray_12 : decode cX6_tray 12 = .ok (.lookupswitch 59 #[(0, 28), (1, 43)], 28) := by decide +kernel
theorem dX6_tray_40 : decode cX6_tray 40 = .ok (.aload_n 0, 1) := by decide +kernel
theorem dX6_tray_41 : decode cX6_tray 41 = .ok (.getfield 19, 3) := by decide +kernel
theorem dX6_tray_44 : decode cX6_tray 44 = .ok (.getfield 104, 3) := by decide +kernel
theorem dX6_tray_47 : decode cX6_tray 47 = .ok (.getfield 147, 3) := by decide +kernel
theorem dX6_tray_50 : decode cX6_tray 50 = .ok (.iload_n 1, 1) := by decide +kernel
theorem dX6_tray_51 : decode cX6_tray 51 = .ok (.invokestatic 151, 3) := by decide +kernel
theorem dX6_tray_54 : decode cX6_tray 54 = .ok (.ireturn, 1) := by decide +kernel
theorem dX6_tray_55 : decode cX6_tray 55 = .ok (.aload_n 0, 1) := by decide +kernel
theorem dX6_tray_56 : decode cX6_tray 56 = .ok (.getfield 19, 3) := by decide +kernel
theorem dX6_tray_59 : decode cX6_tray 59 = .ok (.getfield 104, 3) := by decide +kernel
theorem dX6_tray_62 : decode cX6_tray 62 = .ok (.aload_n 0, 1) := by decide +kernel
theorem dX6_tray_63 : decode cX6_tray 63 = .ok (.getfield 48, 3) := by decide +kernel
theorem dX6_tray_66 : decode cX6_tray 66 = .ok (.iload_n 1, 1) := by decide +kernel
theorem dX6_tray_67 : decode cX6_tray 67 = .ok (.invokevirtual 155, 3) := by decide +kernel
theorem dX6_tray_70 : decode cX6_tray 70 = .ok (.ireturn, 1) := by decide +kernel
theorem dX6_tray_71 : decode cX6_tray 71 = .ok (.iconst (-1), 1) := by decide +kernel
theorem dX6_tray_72 : decode cX6_tray 72 = .ok (.ireturn, 1) := by decide +kernel
theorem dX6_bin_0 : decode cX6_bin 0 = .ok (.aload_n 0, 1) := by decide +kernel
theorem dX6_bin_1 : decode cX6_bin 1 = .ok (.getfield 48, 3) := by decide +kernel
theorem dX6_bin_4 : decode cX6_bin 4 = .ok (.iload_n 1, 1) := by decide +kernel
theorem dX6_bin_5 : decode cX6_bin 5 = .ok (.invokevirtual 158, 3) := by decide +kernel
theorem dX6_bin_8 : decode cX6_bin 8 = .ok (.ifCond .eq 20, 3) := by decide +kernel
theorem dX6_bin_11 : decode cX6_bin 11 = .ok (.aload_n 0, 1) := by decide +kernel
theorem dX6_bin_12 : decode cX6_bin 12 = .ok (.getfield 19, 3) := by decide +kernel
theorem dX6_bin_15 : decode cX6_bin 15 = .ok (.getfield 104, 3) := by decide +kernel
theorem dX6_bin_18 : decode cX6_bin 18 = .ok (.getfield 161, 3) := by decide +kernel
theorem dX6_bin_21 : decode cX6_bin 21 = .ok (.iload_n 1, 1) := by decide +kernel
theorem dX6_bin_22 : decode cX6_bin 22 = .ok (.invokestatic 151, 3) := by decide +kernel
theorem dX6_bin_25 : decode cX6_bin 25 = .ok (.goto 4, 3) := by decide +kernel
theorem dX6_bin_28 : decode cX6_bin 28 = .ok (.iconst (-1), 1) := by decide +kernel
theorem dX6_bin_29 : decode cX6_bin 29 = .ok (.ireturn, 1) := by decide +kernel
theorem dX6_ticks_0 : decode cX6_ticks 0 = .ok (.iload_n 1, 1) := by decide +kernel
theorem dX6_ticks_1 : decode cX6_ticks 1 = .ok (.iconst 1, 1) := by decide +kernel
theorem dX6_ticks_2 : decode cX6_ticks 2 = .ok (.if_icmp .lt 9, 3) := by decide +kernel
theorem dX6_ticks_5 : decode cX6_ticks 5 = .ok (.iload_n 1, 1) := by decide +kernel
theorem dX6_ticks_6 : decode cX6_ticks 6 = .ok (.bipush 20, 2) := by decide +kernel
theorem dX6_ticks_8 : decode cX6_ticks 8 = .ok (.if_icmp .le 5, 3) := by decide +kernel
theorem dX6_ticks_11 : decode cX6_ticks 11 = .ok (.iconst (-1), 1) := by decide +kernel
theorem dX6_ticks_12 : decode cX6_ticks 12 = .ok (.ireturn, 1) := by decide +kernel
theorem dX6_ticks_13 : decode cX6_ticks 13 = .ok (.aload_n 0, 1) := by decide +kernel
theorem dX6_ticks_14 : decode cX6_ticks 14 = .ok (.getfield 19, 3) := by decide +kernel
theorem dX6_ticks_17 : decode cX6_ticks 17 = .ok (.getfield 104, 3) := by decide +kernel
theorem dX6_ticks_20 : decode cX6_ticks 20 = .ok (.getfield 164, 3) := by decide +kernel
theorem dX6_ticks_23 : decode cX6_ticks 23 = .ok (.iload_n 1, 1) := by decide +kernel
theorem dX6_ticks_24 : decode cX6_ticks 24 = .ok (.iadd, 1) := by decide +kernel
theorem dX6_ticks_25 : decode cX6_ticks 25 = .ok (.sipush 9999, 3) := by decide +kernel
theorem dX6_ticks_28 : decode cX6_ticks 28 = .ok (.if_icmp .le 6, 3) := by decide +kernel
theorem dX6_ticks_31 : decode cX6_ticks 31 = .ok (.bipush (-2), 2) := by decide +kernel
theorem dX6_ticks_33 : decode cX6_ticks 33 = .ok (.ireturn, 1) := by decide +kernel
theorem dX6_ticks_34 : decode cX6_ticks 34 = .ok (.aload_n 0, 1) := by decide +kernel
theorem dX6_ticks_35 : decode cX6_ticks 35 = .ok (.getfield 19, 3) := by decide +kernel
theorem dX6_ticks_38 : decode cX6_ticks 38 = .ok (.invokevirtual 167, 3) := by decide +kernel
theorem dX6_ticks_41 : decode cX6_ticks 41 = .ok (.iconst 0, 1) := by decide +kernel
theorem dX6_ticks_42 : decode cX6_ticks 42 = .ok (.istore_n 2, 1) := by decide +kernel
theorem dX6_ticks_43 : decode cX6_ticks 43 = .ok (.iconst 0, 1) := by decide +kernel
theorem dX6_ticks_44 : decode cX6_ticks 44 = .ok (.istore_n 3, 1) := by decide +kernel
theorem dX6_ticks_45 : decode cX6_ticks 45 = .ok (.iload_n 3, 1) := by decide +kernel
theorem dX6_ticks_46 : decode cX6_ticks 46 = .ok (.iload_n 1, 1) := by decide +kernel
theorem dX6_ticks_47 : decode cX6_ticks 47 = .ok (.if_icmp .ge 29, 3) := by decide +kernel
theorem dX6_ticks_50 : decode cX6_ticks 50 = .ok (.aload_n 0, 1) := by decide +kernel
theorem dX6_ticks_51 : decode cX6_ticks 51 = .ok (.getfield 19, 3) := by decide +kernel
theorem dX6_ticks_54 : decode cX6_ticks 54 = .ok (.getfield 104, 3) := by decide +kernel
theorem dX6_ticks_57 : decode cX6_ticks 57 = .ok (.aload_n 0, 1) := by decide +kernel
theorem dX6_ticks_58 : decode cX6_ticks 58 = .ok (.getfield 48, 3) := by decide +kernel
theorem dX6_ticks_61 : decode cX6_ticks 61 = .ok (.invokevirtual 170, 3) := by decide +kernel
theorem dX6_ticks_64 : decode cX6_ticks 64 = .ok (.ifCond .eq 6, 3) := by decide +kernel
theorem dX6_ticks_67 : decode cX6_ticks 67 = .ok (.iinc 2 1, 3) := by decide +kernel
theorem dX6_ticks_70 : decode cX6_ticks 70 = .ok (.iinc 3 1, 3) := by decide +kernel
theorem dX6_ticks_73 : decode cX6_ticks 73 = .ok (.goto (-28), 3) := by decide +kernel
theorem dX6_ticks_76 : decode cX6_ticks 76 = .ok (.iload_n 2, 1) := by decide +kernel
theorem dX6_ticks_77 : decode cX6_ticks 77 = .ok (.ireturn, 1) := by decide +kernel
theorem dX6_ahead_0 : decode cX6_ahead 0 = .ok (.aload_n 0, 1) := by decide +kernel
theorem dX6_ahead_1 : decode cX6_ahead 1 = .ok (.getfield 48, 3) := by decide +kernel
theorem dX6_ahead_4 : decode cX6_ahead 4 = .ok (.iload_n 1, 1) := by decide +kernel
theorem dX6_ahead_5 : decode cX6_ahead 5 = .ok (.invokevirtual 78, 3) := by decide +kernel
theorem dX6_ahead_8 : decode cX6_ahead 8 = .ok (.ifnonnull 5, 3) := by decide +kernel
theorem dX6_ahead_11 : decode cX6_ahead 11 = .ok (.iconst (-1), 1) := by decide +kernel
theorem dX6_ahead_12 : decode cX6_ahead 12 = .ok (.ireturn, 1) := by decide +kernel
theorem dX6_ahead_13 : decode cX6_ahead 13 = .ok (.aload_n 0, 1) := by decide +kernel
theorem dX6_ahead_14 : decode cX6_ahead 14 = .ok (.getfield 19, 3) := by decide +kernel
theorem dX6_ahead_17 : decode cX6_ahead 17 = .ok (.getfield 104, 3) := by decide +kernel
theorem dX6_ahead_20 : decode cX6_ahead 20 = .ok (.iload_n 1, 1) := by decide +kernel
theorem dX6_ahead_21 : decode cX6_ahead 21 = .ok (.invokevirtual 110, 3) := by decide +kernel
theorem dX6_ahead_24 : decode cX6_ahead 24 = .ok (.istore_n 2, 1) := by decide +kernel
theorem dX6_ahead_25 : decode cX6_ahead 25 = .ok (.iload_n 2, 1) := by decide +kernel
theorem dX6_ahead_26 : decode cX6_ahead 26 = .ok (.bipush (-9), 2) := by decide +kernel
theorem dX6_ahead_28 : decode cX6_ahead 28 = .ok (.if_icmp .eq 7, 3) := by decide +kernel
theorem dX6_ahead_31 : decode cX6_ahead 31 = .ok (.iload_n 2, 1) := by decide +kernel
theorem dX6_ahead_32 : decode cX6_ahead 32 = .ok (.ifCond .ne 6, 3) := by decide +kernel
theorem dX6_ahead_35 : decode cX6_ahead 35 = .ok (.bipush (-2), 2) := by decide +kernel
theorem dX6_ahead_37 : decode cX6_ahead 37 = .ok (.ireturn, 1) := by decide +kernel
theorem dX6_ahead_38 : decode cX6_ahead 38 = .ok (.aload_n 0, 1) := by decide +kernel
theorem dX6_ahead_39 : decode cX6_ahead 39 = .ok (.getfield 19, 3) := by decide +kernel
theorem dX6_ahead_42 : decode cX6_ahead 42 = .ok (.invokevirtual 167, 3) := by decide +kernel
theorem dX6_ahead_45 : decode cX6_ahead 45 = .ok (.aload_n 0, 1) := by decide +kernel
theorem dX6_ahead_46 : decode cX6_ahead 46 = .ok (.getfield 19, 3) := by decide +kernel
theorem dX6_ahead_49 : decode cX6_ahead 49 = .ok (.getfield 104, 3) := by decide +kernel
theorem dX6_ahead_52 : decode cX6_ahead 52 = .ok (.invokevirtual 174, 3) := by decide +kernel
theorem dX6_ahead_55 : decode cX6_ahead 55 = .ok (.istore_n 3, 1) := by decide +kernel
theorem dX6_ahead_56 : decode cX6_ahead 56 = .ok (.aload_n 0, 1) := by decide +kernel
theorem dX6_ahead_57 : decode cX6_ahead 57 = .ok (.getfield 19, 3) := by decide +kernel
theorem dX6_ahead_60 : decode cX6_ahead 60 = .ok (.getfield 104, 3) := by decide +kernel
theorem dX6_ahead_63 : decode cX6_ahead 63 = .ok (.iload_n 1, 1) := by decide +kernel
theorem dX6_ahead_64 : decode cX6_ahead 64 = .ok (.invokevirtual 177, 3) := by decide +kernel
theorem dX6_ahead_67 : decode cX6_ahead 67 = .ok (.iload_n 3, 1) := by decide +kernel
theorem dX6_ahead_68 : decode cX6_ahead 68 = .ok (.ireturn, 1) := by decide +kernel
theorem dX6_breaks_0 : decode cX6_breaks 0 = .ok (.aload_n 0, 1) := by decide +kernel
theorem dX6_breaks_1 : decode cX6_breaks 1 = .ok (.getfield 48, 3) := by decide +kernel
theorem dX6_breaks_4 : decode cX6_breaks 4 = .ok (.iload_n 1, 1) := by decide +kernel
theorem dX6_breaks_5 : decode cX6_breaks 5 = .ok (.invokevirtual 78, 3) := by decide +kernel
theorem dX6_breaks_8 : decode cX6_breaks 8 = .ok (.ifnonnull 5, 3) := by decide +kernel
theorem dX6_breaks_11 : decode cX6_breaks 11 = .ok (.iconst (-1), 1) := by decide +kernel
theorem dX6_breaks_12 : decode cX6_breaks 12 = .ok (.ireturn, 1) := by decide +kernel
theorem dX6_breaks_13 : decode cX6_breaks 13 = .ok (.aload_n 0, 1) := by decide +kernel
theorem dX6_breaks_14 : decode cX6_breaks 14 = .ok (.getfield 19, 3) := by decide +kernel
theorem dX6_breaks_17 : decode cX6_breaks 17 = .ok (.getfield 104, 3) := by decide +kernel
theorem dX6_breaks_20 : decode cX6_breaks 20 = .ok (.iload_n 1, 1) := by decide +kernel
theorem dX6_breaks_21 : decode cX6_breaks 21 = .ok (.invokevirtual 110, 3) := by decide +kernel
theorem dX6_breaks_24 : decode cX6_breaks 24 = .ok (.bipush (-9), 2) := by decide +kernel
theorem dX6_breaks_26 : decode cX6_breaks 26 = .ok (.if_icmp .ne 6, 3) := by decide +kernel
theorem dX6_breaks_29 : decode cX6_breaks 29 = .ok (.bipush (-2), 2) := by decide +kernel
theorem dX6_breaks_31 : decode cX6_breaks 31 = .ok (.ireturn, 1) := by decide +kernel
theorem dX6_breaks_32 : decode cX6_breaks 32 = .ok (.aload_n 0, 1) := by decide +kernel
theorem dX6_breaks_33 : decode cX6_breaks 33 = .ok (.getfield 19, 3) := by decide +kernel
theorem dX6_breaks_36 : decode cX6_breaks 36 = .ok (.invokevirtual 167, 3) := by decide +kernel
theorem dX6_breaks_39 : decode cX6_breaks 39 = .ok (.aload_n 0, 1) := by decide +kernel
theorem dX6_breaks_40 : decode cX6_breaks 40 = .ok (.getfield 19, 3) := by decide +kernel
theorem dX6_breaks_43 : decode cX6_breaks 43 = .ok (.getfield 104, 3) := by decide +kernel
theorem dX6_breaks_46 : decode cX6_breaks 46 = .ok (.iload_n 1, 1) := by decide +kernel
theorem dX6_breaks_47 : decode cX6_breaks 47 = .ok (.invokevirtual 181, 3) := by decide +kernel
theorem dX6_breaks_50 : decode cX6_breaks 50 = .ok (.aload_n 0, 1) := by decide +kernel
theorem dX6_breaks_51 : decode cX6_breaks 51 = .ok (.getfield 19, 3) := by decide +kernel
theorem dX6_breaks_54 : decode cX6_breaks 54 = .ok (.getfield 104, 3) := by decide +kernel
theorem dX6_breaks_57 : decode cX6_breaks 57 = .ok (.getfield 184, 3) := by decide +kernel
theorem dX6_breaks_60 : decode cX6_breaks 60 = .ok (.ireturn, 1) := by decide +kernel
theorem dX6_fills_0 : decode cX6_fills 0 = .ok (.iload_n 1, 1) := by decide +kernel
theorem dX6_fills_1 : decode cX6_fills 1 = .ok (.ifCond .lt 19, 3) := by decide +kernel
theorem dX6_fills_4 : decode cX6_fills 4 = .ok (.iload_n 1, 1) := by decide +kernel
theorem dX6_fills_5 : decode cX6_fills 5 = .ok (.iconst 3, 1) := by decide +kernel
theorem dX6_fills_6 : decode cX6_fills 6 = .ok (.if_icmp .ge 14, 3) := by decide +kernel
theorem dX6_fills_9 : decode cX6_fills 9 = .ok (.iload_n 2, 1) := by decide +kernel
theorem dX6_fills_10 : decode cX6_fills 10 = .ok (.iconst 1, 1) := by decide +kernel
theorem dX6_fills_11 : decode cX6_fills 11 = .ok (.if_icmp .lt 9, 3) := by decide +kernel
theorem dX6_fills_14 : decode cX6_fills 14 = .ok (.iload_n 2, 1) := by decide +kernel
theorem dX6_fills_15 : decode cX6_fills 15 = .ok (.bipush 99, 2) := by decide +kernel
theorem dX6_fills_17 : decode cX6_fills 17 = .ok (.if_icmp .le 5, 3) := by decide +kernel
theorem dX6_fills_20 : decode cX6_fills 20 = .ok (.iconst (-1), 1) := by decide +kernel
theorem dX6_fills_21 : decode cX6_fills 21 = .ok (.ireturn, 1) := by decide +kernel
theorem dX6_fills_22 : decode cX6_fills 22 = .ok (.aload_n 0, 1) := by decide +kernel
theorem dX6_fills_23 : decode cX6_fills 23 = .ok (.getfield 19, 3) := by decide +kernel
theorem dX6_fills_26 : decode cX6_fills 26 = .ok (.getfield 104, 3) := by decide +kernel
theorem dX6_fills_29 : decode cX6_fills 29 = .ok (.getfield 147, 3) := by decide +kernel
theorem dX6_fills_32 : decode cX6_fills 32 = .ok (.iload_n 1, 1) := by decide +kernel
theorem dX6_fills_33 : decode cX6_fills 33 = .ok (.invokestatic 151, 3) := by decide +kernel
theorem dX6_fills_36 : decode cX6_fills 36 = .ok (.istore_n 3, 1) := by decide +kernel
theorem dX6_fills_37 : decode cX6_fills 37 = .ok (.iload_n 3, 1) := by decide +kernel
theorem dX6_fills_38 : decode cX6_fills 38 = .ok (.bipush 99, 2) := by decide +kernel
theorem dX6_fills_40 : decode cX6_fills 40 = .ok (.if_icmp .lt 6, 3) := by decide +kernel
theorem dX6_fills_43 : decode cX6_fills 43 = .ok (.bipush (-2), 2) := by decide +kernel
theorem dX6_fills_45 : decode cX6_fills 45 = .ok (.ireturn, 1) := by decide +kernel
theorem dX6_fills_46 : decode cX6_fills 46 = .ok (.aload_n 0, 1) := by decide +kernel
theorem dX6_fills_47 : decode cX6_fills 47 = .ok (.getfield 19, 3) := by decide +kernel
theorem dX6_fills_50 : decode cX6_fills 50 = .ok (.invokevirtual 167, 3) := by decide +kernel
theorem dX6_fills_53 : decode cX6_fills 53 = .ok (.aload_n 0, 1) := by decide +kernel
theorem dX6_fills_54 : decode cX6_fills 54 = .ok (.getfield 19, 3) := by decide +kernel
theorem dX6_fills_57 : decode cX6_fills 57 = .ok (.getfield 104, 3) := by decide +kernel
theorem dX6_fills_60 : decode cX6_fills 60 = .ok (.getfield 147, 3) := by decide +kernel
theorem dX6_fills_63 : decode cX6_fills 63 = .ok (.iload_n 1, 1) := by decide +kernel
theorem dX6_fills_64 : decode cX6_fills 64 = .ok (.bipush 99, 2) := by decide +kernel
theorem dX6_fills_66 : decode cX6_fills 66 = .ok (.iload_n 3, 1) := by decide +kernel
theorem dX6_fills_67 : decode cX6_fills 67 = .ok (.iload_n 2, 1) := by decide +kernel
theorem dX6_fills_68 : decode cX6_fills 68 = .ok (.iadd, 1) := by decide +kernel
theorem dX6_fills_69 : decode cX6_fills 69 = .ok (.invokestatic 187, 3) := by decide +kernel
theorem dX6_fills_72 : decode cX6_fills 72 = .ok (.invokestatic 192, 3) := by decide +kernel
theorem dX6_fills_75 : decode cX6_fills 75 = .ok (.aload_n 0, 1) := by decide +kernel
theorem dX6_fills_76 : decode cX6_fills 76 = .ok (.getfield 19, 3) := by decide +kernel
theorem dX6_fills_79 : decode cX6_fills 79 = .ok (.getfield 104, 3) := by decide +kernel
theorem dX6_fills_82 : decode cX6_fills 82 = .ok (.getfield 147, 3) := by decide +kernel
theorem dX6_fills_85 : decode cX6_fills 85 = .ok (.iload_n 1, 1) := by decide +kernel
theorem dX6_fills_86 : decode cX6_fills 86 = .ok (.invokestatic 151, 3) := by decide +kernel
theorem dX6_fills_89 : decode cX6_fills 89 = .ok (.ireturn, 1) := by decide +kernel
theorem dX6_toner_0 : decode cX6_toner 0 = .ok (.iload_n 1, 1) := by decide +kernel
theorem dX6_toner_1 : decode cX6_toner 1 = .ok (.iconst 1, 1) := by decide +kernel
theorem dX6_toner_2 : decode cX6_toner 2 = .ok (.if_icmp .lt 10, 3) := by decide +kernel
theorem dX6_toner_5 : decode cX6_toner 5 = .ok (.iload_n 1, 1) := by decide +kernel
theorem dX6_toner_6 : decode cX6_toner 6 = .ok (.sipush 999, 3) := by decide +kernel
theorem dX6_toner_9 : decode cX6_toner 9 = .ok (.if_icmp .le 5, 3) := by decide +kernel
theorem dX6_toner_12 : decode cX6_toner 12 = .ok (.iconst (-1), 1) := by decide +kernel
theorem dX6_toner_13 : decode cX6_toner 13 = .ok (.ireturn, 1) := by decide +kernel
theorem dX6_toner_14 : decode cX6_toner 14 = .ok (.aload_n 0, 1) := by decide +kernel
theorem dX6_toner_15 : decode cX6_toner 15 = .ok (.getfield 19, 3) := by decide +kernel
theorem dX6_toner_18 : decode cX6_toner 18 = .ok (.getfield 104, 3) := by decide +kernel
theorem dX6_toner_21 : decode cX6_toner 21 = .ok (.getfield 196, 3) := by decide +kernel
theorem dX6_toner_24 : decode cX6_toner 24 = .ok (.sipush 999, 3) := by decide +kernel
theorem dX6_toner_27 : decode cX6_toner 27 = .ok (.if_icmp .lt 6, 3) := by decide +kernel
theorem dX6_toner_30 : decode cX6_toner 30 = .ok (.bipush (-2), 2) := by decide +kernel
theorem dX6_toner_32 : decode cX6_toner 32 = .ok (.ireturn, 1) := by decide +kernel
theorem dX6_toner_33 : decode cX6_toner 33 = .ok (.aload_n 0, 1) := by decide +kernel
theorem dX6_toner_34 : decode cX6_toner 34 = .ok (.getfield 19, 3) := by decide +kernel
theorem dX6_toner_37 : decode cX6_toner 37 = .ok (.invokevirtual 167, 3) := by decide +kernel
theorem dX6_toner_40 : decode cX6_toner 40 = .ok (.aload_n 0, 1) := by decide +kernel
theorem dX6_toner_41 : decode cX6_toner 41 = .ok (.getfield 19, 3) := by decide +kernel
theorem dX6_toner_44 : decode cX6_toner 44 = .ok (.getfield 104, 3) := by decide +kernel
theorem dX6_toner_47 : decode cX6_toner 47 = .ok (.sipush 999, 3) := by decide +kernel
theorem dX6_toner_50 : decode cX6_toner 50 = .ok (.aload_n 0, 1) := by decide +kernel
theorem dX6_toner_51 : decode cX6_toner 51 = .ok (.getfield 19, 3) := by decide +kernel
theorem dX6_toner_54 : decode cX6_toner 54 = .ok (.getfield 104, 3) := by decide +kernel
theorem dX6_toner_57 : decode cX6_toner 57 = .ok (.getfield 196, 3) := by decide +kernel
theorem dX6_toner_60 : decode cX6_toner 60 = .ok (.iload_n 1, 1) := by decide +kernel
theorem dX6_toner_61 : decode cX6_toner 61 = .ok (.iadd, 1) := by decide +kernel
theorem dX6_toner_62 : decode cX6_toner 62 = .ok (.invokestatic 187, 3) := by decide +kernel
theorem dX6_toner_65 : decode cX6_toner 65 = .ok (.putfield 196, 3) := by decide +kernel
theorem dX6_toner_68 : decode cX6_toner 68 = .ok (.aload_n 0, 1) := by decide +kernel
theorem dX6_toner_69 : decode cX6_toner 69 = .ok (.getfield 19, 3) := by decide +kernel
theorem dX6_toner_72 : decode cX6_toner 72 = .ok (.getfield 104, 3) := by decide +kernel
theorem dX6_toner_75 : decode cX6_toner 75 = .ok (.getfield 196, 3) := by decide +kernel
theorem dX6_toner_78 : decode cX6_toner 78 = .ok (.ireturn, 1) := by decide +kernel
theorem dX6_empties_0 : decode cX6_empties 0 = .ok (.aload_n 0, 1) := by decide +kernel
theorem dX6_empties_1 : decode cX6_empties 1 = .ok (.getfield 48, 3) := by decide +kernel
theorem dX6_empties_4 : decode cX6_empties 4 = .ok (.iload_n 1, 1) := by decide +kernel
theorem dX6_empties_5 : decode cX6_empties 5 = .ok (.invokevirtual 158, 3) := by decide +kernel
theorem dX6_empties_8 : decode cX6_empties 8 = .ok (.ifCond .ne 5, 3) := by decide +kernel
theorem dX6_empties_11 : decode cX6_empties 11 = .ok (.iconst (-1), 1) := by decide +kernel
theorem dX6_empties_12 : decode cX6_empties 12 = .ok (.ireturn, 1) := by decide +kernel
theorem dX6_empties_13 : decode cX6_empties 13 = .ok (.aload_n 0, 1) := by decide +kernel
theorem dX6_empties_14 : decode cX6_empties 14 = .ok (.getfield 19, 3) := by decide +kernel
theorem dX6_empties_17 : decode cX6_empties 17 = .ok (.getfield 104, 3) := by decide +kernel
theorem dX6_empties_20 : decode cX6_empties 20 = .ok (.getfield 161, 3) := by decide +kernel
theorem dX6_empties_23 : decode cX6_empties 23 = .ok (.iload_n 1, 1) := by decide +kernel
theorem dX6_empties_24 : decode cX6_empties 24 = .ok (.invokestatic 151, 3) := by decide +kernel
theorem dX6_empties_27 : decode cX6_empties 27 = .ok (.istore_n 2, 1) := by decide +kernel
theorem dX6_empties_28 : decode cX6_empties 28 = .ok (.iload_n 2, 1) := by decide +kernel
theorem dX6_empties_29 : decode cX6_empties 29 = .ok (.ifCond .ne 6, 3) := by decide +kernel
theorem dX6_empties_32 : decode cX6_empties 32 = .ok (.bipush (-2), 2) := by decide +kernel
theorem dX6_empties_34 : decode cX6_empties 34 = .ok (.ireturn, 1) := by decide +kernel
theorem dX6_empties_35 : decode cX6_empties 35 = .ok (.aload_n 0, 1) := by decide +kernel
theorem dX6_empties_36 : decode cX6_empties 36 = .ok (.getfield 19, 3) := by decide +kernel
theorem dX6_empties_39 : decode cX6_empties 39 = .ok (.invokevirtual 167, 3) := by decide +kernel
theorem dX6_empties_42 : decode cX6_empties 42 = .ok (.aload_n 0, 1) := by decide +kernel
theorem dX6_empties_43 : decode cX6_empties 43 = .ok (.getfield 19, 3) := by decide +kernel
theorem dX6_empties_46 : decode cX6_empties 46 = .ok (.getfield 104, 3) := by decide +kernel
theorem dX6_empties_49 : decode cX6_empties 49 = .ok (.getfield 161, 3) := by decide +kernel
theorem dX6_empties_52 : decode cX6_empties 52 = .ok (.iload_n 1, 1) := by decide +kernel
theorem dX6_empties_53 : decode cX6_empties 53 = .ok (.iconst 0, 1) := by decide +kernel
theorem dX6_empties_54 : decode cX6_empties 54 = .ok (.invokestatic 192, 3) := by decide +kernel
theorem dX6_empties_57 : decode cX6_empties 57 = .ok (.iload_n 2, 1) := by decide +kernel
theorem dX6_empties_58 : decode cX6_empties 58 = .ok (.ireturn, 1) := by decide +kernel
theorem dX6_undo_0 : decode cX6_undo 0 = .ok (.aload_n 0, 1) := by decide +kernel
theorem dX6_undo_1 : decode cX6_undo 1 = .ok (.getfield 19, 3) := by decide +kernel
theorem dX6_undo_4 : decode cX6_undo 4 = .ok (.getfield 199, 3) := by decide +kernel
theorem dX6_undo_7 : decode cX6_undo 7 = .ok (.ifCond .ne 6, 3) := by decide +kernel
theorem dX6_undo_10 : decode cX6_undo 10 = .ok (.bipush (-2), 2) := by decide +kernel
theorem dX6_undo_12 : decode cX6_undo 12 = .ok (.ireturn, 1) := by decide +kernel
theorem dX6_undo_13 : decode cX6_undo 13 = .ok (.aload_n 0, 1) := by decide +kernel
theorem dX6_undo_14 : decode cX6_undo 14 = .ok (.getfield 19, 3) := by decide +kernel
theorem dX6_undo_17 : decode cX6_undo 17 = .ok (.invokevirtual 202, 3) := by decide +kernel
theorem dX6_undo_20 : decode cX6_undo 20 = .ok (.aload_n 0, 1) := by decide +kernel
theorem dX6_undo_21 : decode cX6_undo 21 = .ok (.getfield 19, 3) := by decide +kernel
theorem dX6_undo_24 : decode cX6_undo 24 = .ok (.getfield 199, 3) := by decide +kernel
theorem dX6_undo_27 : decode cX6_undo 27 = .ok (.ireturn, 1) := by decide +kernel
theorem dX6_now_0 : decode cX6_now 0 = .ok (.aload_n 0, 1) := by decide +kernel
theorem dX6_now_1 : decode cX6_now 1 = .ok (.getfield 19, 3) := by decide +kernel
theorem dX6_now_4 : decode cX6_now 4 = .ok (.getfield 104, 3) := by decide +kernel
theorem dX6_now_7 : decode cX6_now 7 = .ok (.astore_n 2, 1) := by decide +kernel
theorem dX6_now_8 : decode cX6_now 8 = .ok (.iload_n 1, 1) := by decide +kernel
theorem dX6_now_9 : decode cX6_now 9 = .ok (.tableswitch 103 0 7 #[47, 52, 57, 62, 71, 84, 89, 94], 47) := by decide +kernel
theorem dX6_now_56 : decode cX6_now 56 = .ok (.aload_n 2, 1) := by decide +kernel
theorem dX6_now_57 : decode cX6_now 57 = .ok (.getfield 164, 3) := by decide +kernel
theorem dX6_now_60 : decode cX6_now 60 = .ok (.ireturn, 1) := by decide +kernel
theorem dX6_now_61 : decode cX6_now 61 = .ok (.aload_n 2, 1) := by decide +kernel
theorem dX6_now_62 : decode cX6_now 62 = .ok (.getfield 196, 3) := by decide +kernel
theorem dX6_now_65 : decode cX6_now 65 = .ok (.ireturn, 1) := by decide +kernel
theorem dX6_now_66 : decode cX6_now 66 = .ok (.aload_n 2, 1) := by decide +kernel
theorem dX6_now_67 : decode cX6_now 67 = .ok (.invokevirtual 174, 3) := by decide +kernel
theorem dX6_now_70 : decode cX6_now 70 = .ok (.ireturn, 1) := by decide +kernel
theorem dX6_now_71 : decode cX6_now 71 = .ok (.aload_n 2, 1) := by decide +kernel
theorem dX6_now_72 : decode cX6_now 72 = .ok (.aload_n 0, 1) := by decide +kernel
theorem dX6_now_73 : decode cX6_now 73 = .ok (.getfield 48, 3) := by decide +kernel
theorem dX6_now_76 : decode cX6_now 76 = .ok (.invokevirtual 205, 3) := by decide +kernel
theorem dX6_now_79 : decode cX6_now 79 = .ok (.ireturn, 1) := by decide +kernel
theorem dX6_now_80 : decode cX6_now 80 = .ok (.aload_n 2, 1) := by decide +kernel
theorem dX6_now_81 : decode cX6_now 81 = .ok (.getfield 209, 3) := by decide +kernel
theorem dX6_now_84 : decode cX6_now 84 = .ok (.ifCond .eq 7, 3) := by decide +kernel
theorem dX6_now_87 : decode cX6_now 87 = .ok (.iconst 1, 1) := by decide +kernel
theorem dX6_now_88 : decode cX6_now 88 = .ok (.goto 4, 3) := by decide +kernel
theorem dX6_now_91 : decode cX6_now 91 = .ok (.iconst 0, 1) := by decide +kernel
theorem dX6_now_92 : decode cX6_now 92 = .ok (.ireturn, 1) := by decide +kernel
theorem dX6_now_93 : decode cX6_now 93 = .ok (.aload_n 2, 1) := by decide +kernel
theorem dX6_now_94 : decode cX6_now 94 = .ok (.getfield 184, 3) := by decide +kernel
theorem dX6_now_97 : decode cX6_now 97 = .ok (.ireturn, 1) := by decide +kernel
theorem dX6_now_98 : decode cX6_now 98 = .ok (.aload_n 2, 1) := by decide +kernel
theorem dX6_now_99 : decode cX6_now 99 = .ok (.invokevirtual 212, 3) := by decide +kernel
theorem dX6_now_102 : decode cX6_now 102 = .ok (.ireturn, 1) := by decide +kernel
theorem dX6_now_103 : decode cX6_now 103 = .ok (.aload_n 2, 1) := by decide +kernel
theorem dX6_now_104 : decode cX6_now 104 = .ok (.aload_n 0, 1) := by decide +kernel
theorem dX6_now_105 : decode cX6_now 105 = .ok (.getfield 48, 3) := by decide +kernel
theorem dX6_now_108 : decode cX6_now 108 = .ok (.invokevirtual 215, 3) := by decide +kernel
theorem dX6_now_111 : decode cX6_now 111 = .ok (.ireturn, 1) := by decide +kernel
theorem dX6_now_112 : decode cX6_now 112 = .ok (.iconst (-1), 1) := by decide +kernel
theorem dX6_now_113 : decode cX6_now 113 = .ok (.ireturn, 1) := by decide +kernel
theorem dX6_soon_0 : decode cX6_soon 0 = .ok (.iload_n 1, 1) := by decide +kernel
theorem dX6_soon_1 : decode cX6_soon 1 = .ok (.ifCond .eq 10, 3) := by decide +kernel
theorem dX6_soon_4 : decode cX6_soon 4 = .ok (.iload_n 1, 1) := by decide +kernel
theorem dX6_soon_5 : decode cX6_soon 5 = .ok (.iconst 1, 1) := by decide +kernel
theorem dX6_soon_6 : decode cX6_soon 6 = .ok (.if_icmp .eq 5, 3) := by decide +kernel
theorem dX6_soon_9 : decode cX6_soon 9 = .ok (.iconst (-1), 1) := by decide +kernel
theorem dX6_soon_10 : decode cX6_soon 10 = .ok (.ireturn, 1) := by decide +kernel
theorem dX6_soon_11 : decode cX6_soon 11 = .ok (.iconst 0, 1) := by decide +kernel
theorem dX6_soon_12 : decode cX6_soon 12 = .ok (.istore_n 2, 1) := by decide +kernel
theorem dX6_soon_13 : decode cX6_soon 13 = .ok (.iconst 0, 1) := by decide +kernel
theorem dX6_soon_14 : decode cX6_soon 14 = .ok (.istore_n 3, 1) := by decide +kernel
theorem dX6_soon_15 : decode cX6_soon 15 = .ok (.iconst 0, 1) := by decide +kernel
theorem dX6_soon_16 : decode cX6_soon 16 = .ok (.istore 4, 2) := by decide +kernel
theorem dX6_soon_18 : decode cX6_soon 18 = .ok (.iconst 0, 1) := by decide +kernel
theorem dX6_soon_19 : decode cX6_soon 19 = .ok (.istore 5, 2) := by decide +kernel
theorem dX6_soon_21 : decode cX6_soon 21 = .ok (.iconst 0, 1) := by decide +kernel
theorem dX6_soon_22 : decode cX6_soon 22 = .ok (.istore 6, 2) := by decide +kernel
theorem dX6_soon_24 : decode cX6_soon 24 = .ok (.iload 6, 2) := by decide +kernel
theorem dX6_soon_26 : decode cX6_soon 26 = .ok (.aload_n 0, 1) := by decide +kernel
theorem dX6_soon_27 : decode cX6_soon 27 = .ok (.getfield 19, 3) := by decide +kernel
theorem dX6_soon_30 : decode cX6_soon 30 = .ok (.getfield 104, 3) := by decide +kernel
theorem dX6_soon_33 : decode cX6_soon 33 = .ok (.getfield 184, 3) := by decide +kernel
theorem dX6_soon_36 : decode cX6_soon 36 = .ok (.if_icmp .ge 72, 3) := by decide +kernel
theorem dX6_soon_39 : decode cX6_soon 39 = .ok (.aload_n 0, 1) := by decide +kernel
theorem dX6_soon_40 : decode cX6_soon 40 = .ok (.iload 5, 2) := by decide +kernel
theorem dX6_soon_42 : decode cX6_soon 42 = .ok (.invokevirtual 218, 3) := by decide +kernel
theorem dX6_soon_45 : decode cX6_soon 45 = .ok (.istore 7, 2) := by decide +kernel
theorem dX6_soon_47 : decode cX6_soon 47 = .ok (.iload 7, 2) := by decide +kernel
theorem dX6_soon_49 : decode cX6_soon 49 = .ok (.bipush (-9), 2) := by decide +kernel
theorem dX6_soon_51 : decode cX6_soon 51 = .ok (.if_icmp .ne 6, 3) := by decide +kernel
theorem dX6_soon_54 : decode cX6_soon 54 = .ok (.goto 54, 3) := by decide +kernel
theorem dX6_soon_57 : decode cX6_soon 57 = .ok (.iload 5, 2) := by decide +kernel
theorem dX6_soon_59 : decode cX6_soon 59 = .ok (.iconst 1, 1) := by decide +kernel
theorem dX6_soon_60 : decode cX6_soon 60 = .ok (.iload 7, 2) := by decide +kernel
theorem dX6_soon_62 : decode cX6_soon 62 = .ok (.ishl, 1) := by decide +kernel
theorem dX6_soon_63 : decode cX6_soon 63 = .ok (.ior, 1) := by decide +kernel
theorem dX6_soon_64 : decode cX6_soon 64 = .ok (.istore 5, 2) := by decide +kernel
theorem dX6_soon_66 : decode cX6_soon 66 = .ok (.iload 4, 2) := by decide +kernel
theorem dX6_soon_68 : decode cX6_soon 68 = .ok (.aload_n 0, 1) := by decide +kernel
theorem dX6_soon_69 : decode cX6_soon 69 = .ok (.getfield 19, 3) := by decide +kernel
theorem dX6_soon_72 : decode cX6_soon 72 = .ok (.getfield 104, 3) := by decide +kernel
theorem dX6_soon_75 : decode cX6_soon 75 = .ok (.aload_n 0, 1) := by decide +kernel
theorem dX6_soon_76 : decode cX6_soon 76 = .ok (.getfield 48, 3) := by decide +kernel
theorem dX6_soon_79 : decode cX6_soon 79 = .ok (.iload 7, 2) := by decide +kernel
theorem dX6_soon_81 : decode cX6_soon 81 = .ok (.invokevirtual 119, 3) := by decide +kernel
theorem dX6_soon_84 : decode cX6_soon 84 = .ok (.iadd, 1) := by decide +kernel
theorem dX6_soon_85 : decode cX6_soon 85 = .ok (.istore 4, 2) := by decide +kernel
theorem dX6_soon_87 : decode cX6_soon 87 = .ok (.iload_n 2, 1) := by decide +kernel
theorem dX6_soon_88 : decode cX6_soon 88 = .ok (.iload 4, 2) := by decide +kernel
theorem dX6_soon_90 : decode cX6_soon 90 = .ok (.iadd, 1) := by decide +kernel
theorem dX6_soon_91 : decode cX6_soon 91 = .ok (.istore_n 2, 1) := by decide +kernel
theorem dX6_soon_92 : decode cX6_soon 92 = .ok (.iload_n 3, 1) := by decide +kernel
theorem dX6_soon_93 : decode cX6_soon 93 = .ok (.bipush 10, 2) := by decide +kernel
theorem dX6_soon_95 : decode cX6_soon 95 = .ok (.imul, 1) := by decide +kernel
theorem dX6_soon_96 : decode cX6_soon 96 = .ok (.iload 7, 2) := by decide +kernel
theorem dX6_soon_98 : decode cX6_soon 98 = .ok (.iadd, 1) := by decide +kernel
theorem dX6_soon_99 : decode cX6_soon 99 = .ok (.iconst 1, 1) := by decide +kernel
theorem dX6_soon_100 : decode cX6_soon 100 = .ok (.iadd, 1) := by decide +kernel
theorem dX6_soon_101 : decode cX6_soon 101 = .ok (.istore_n 3, 1) := by decide +kernel
theorem dX6_soon_102 : decode cX6_soon 102 = .ok (.iinc 6 1, 3) := by decide +kernel
theorem dX6_soon_105 : decode cX6_soon 105 = .ok (.goto (-81), 3) := by decide +kernel
theorem dX6_soon_108 : decode cX6_soon 108 = .ok (.iload_n 1, 1) := by decide +kernel
theorem dX6_soon_109 : decode cX6_soon 109 = .ok (.ifCond .ne 7, 3) := by decide +kernel
theorem dX6_soon_112 : decode cX6_soon 112 = .ok (.iload_n 2, 1) := by decide +kernel
theorem dX6_soon_113 : decode cX6_soon 113 = .ok (.goto 4, 3) := by decide +kernel
theorem dX6_soon_116 : decode cX6_soon 116 = .ok (.iload_n 3, 1) := by decide +kernel
theorem dX6_soon_117 : decode cX6_soon 117 = .ok (.ireturn, 1) := by decide +kernel
theorem dX6_odds_0 : decode cX6_odds 0 = .ok (.aload_n 0, 1) := by decide +kernel
theorem dX6_odds_1 : decode cX6_odds 1 = .ok (.getfield 48, 3) := by decide +kernel
theorem dX6_odds_4 : decode cX6_odds 4 = .ok (.iload_n 1, 1) := by decide +kernel
theorem dX6_odds_5 : decode cX6_odds 5 = .ok (.invokevirtual 78, 3) := by decide +kernel
theorem dX6_odds_8 : decode cX6_odds 8 = .ok (.astore 5, 2) := by decide +kernel
theorem dX6_odds_10 : decode cX6_odds 10 = .ok (.aload 5, 2) := by decide +kernel
theorem dX6_odds_12 : decode cX6_odds 12 = .ok (.ifnull 33, 3) := by decide +kernel
theorem dX6_odds_15 : decode cX6_odds 15 = .ok (.iload_n 2, 1) := by decide +kernel
theorem dX6_odds_16 : decode cX6_odds 16 = .ok (.iconst 1, 1) := by decide +kernel
theorem dX6_odds_17 : decode cX6_odds 17 = .ok (.if_icmp .lt 28, 3) := by decide +kernel
theorem dX6_odds_20 : decode cX6_odds 20 = .ok (.iload_n 2, 1) := by decide +kernel
theorem dX6_odds_21 : decode cX6_odds 21 = .ok (.iconst 4, 1) := by decide +kernel
theorem dX6_odds_22 : decode cX6_odds 22 = .ok (.if_icmp .gt 23, 3) := by decide +kernel
theorem dX6_odds_25 : decode cX6_odds 25 = .ok (.aload 5, 2) := by decide +kernel
theorem dX6_odds_27 : decode cX6_odds 27 = .ok (.iload_n 3, 1) := by decide +kernel
theorem dX6_odds_28 : decode cX6_odds 28 = .ok (.invokevirtual 140, 3) := by decide +kernel
theorem dX6_odds_31 : decode cX6_odds 31 = .ok (.ifCond .eq 14, 3) := by decide +kernel
theorem dX6_odds_34 : decode cX6_odds 34 = .ok (.iload 4, 2) := by decide +kernel
theorem dX6_odds_36 : decode cX6_odds 36 = .ok (.ifCond .lt 9, 3) := by decide +kernel
theorem dX6_odds_39 : decode cX6_odds 39 = .ok (.iload 4, 2) := by decide +kernel
theorem dX6_odds_41 : decode cX6_odds 41 = .ok (.iconst 1, 1) := by decide +kernel
theorem dX6_odds_42 : decode cX6_odds 42 = .ok (.if_icmp .le 5, 3) := by decide +kernel
theorem dX6_odds_45 : decode cX6_odds 45 = .ok (.iconst (-1), 1) := by decide +kernel
theorem dX6_odds_46 : decode cX6_odds 46 = .ok (.ireturn, 1) := by decide +kernel
theorem dX6_odds_47 : decode cX6_odds 47 = .ok (.aload 5, 2) := by decide +kernel
theorem dX6_odds_49 : decode cX6_odds 49 = .ok (.invokevirtual 101, 3) := by decide +kernel
theorem dX6_odds_52 : decode cX6_odds 52 = .ok (.iload_n 2, 1) := by decide +kernel
theorem dX6_odds_53 : decode cX6_odds 53 = .ok (.if_icmp .ge 6, 3) := by decide +kernel
theorem dX6_odds_56 : decode cX6_odds 56 = .ok (.bipush (-2), 2) := by decide +kernel
theorem dX6_odds_58 : decode cX6_odds 58 = .ok (.ireturn, 1) := by decide +kernel
theorem dX6_odds_59 : decode cX6_odds 59 = .ok (.aload 5, 2) := by decide +kernel
theorem dX6_odds_61 : decode cX6_odds 61 = .ok (.invokevirtual 101, 3) := by decide +kernel
theorem dX6_odds_64 : decode cX6_odds 64 = .ok (.iload_n 2, 1) := by decide +kernel
theorem dX6_odds_65 : decode cX6_odds 65 = .ok (.invokestatic 221, 3) := by decide +kernel
theorem dX6_odds_68 : decode cX6_odds 68 = .ok (.istore 6, 2) := by decide +kernel
theorem dX6_odds_70 : decode cX6_odds 70 = .ok (.iload 6, 2) := by decide +kernel
theorem dX6_odds_72 : decode cX6_odds 72 = .ok (.aload 5, 2) := by decide +kernel
theorem dX6_odds_74 : decode cX6_odds 74 = .ok (.invokevirtual 101, 3) := by decide +kernel
theorem dX6_odds_77 : decode cX6_odds 77 = .ok (.aload 5, 2) := by decide +kernel
theorem dX6_odds_79 : decode cX6_odds 79 = .ok (.getfield 88, 3) := by decide +kernel
theorem dX6_odds_82 : decode cX6_odds 82 = .ok (.isub, 1) := by decide +kernel
theorem dX6_odds_83 : decode cX6_odds 83 = .ok (.iload_n 2, 1) := by decide +kernel
theorem dX6_odds_84 : decode cX6_odds 84 = .ok (.invokestatic 221, 3) := by decide +kernel
theorem dX6_odds_87 : decode cX6_odds 87 = .ok (.isub, 1) := by decide +kernel
theorem dX6_odds_88 : decode cX6_odds 88 = .ok (.istore 7, 2) := by decide +kernel
theorem dX6_odds_90 : decode cX6_odds 90 = .ok (.iload 7, 2) := by decide +kernel
theorem dX6_odds_92 : decode cX6_odds 92 = .ok (.iload 6, 2) := by decide +kernel
theorem dX6_odds_94 : decode cX6_odds 94 = .ok (.invokestatic 224, 3) := by decide +kernel
theorem dX6_odds_97 : decode cX6_odds 97 = .ok (.istore 8, 2) := by decide +kernel
theorem dX6_odds_99 : decode cX6_odds 99 = .ok (.iload 8, 2) := by decide +kernel
theorem dX6_odds_101 : decode cX6_odds 101 = .ok (.ifCond .gt 5, 3) := by decide +kernel
theorem dX6_odds_104 : decode cX6_odds 104 = .ok (.iconst 0, 1) := by decide +kernel
theorem dX6_odds_105 : decode cX6_odds 105 = .ok (.ireturn, 1) := by decide +kernel
theorem dX6_odds_106 : decode cX6_odds 106 = .ok (.iload 4, 2) := by decide +kernel
theorem dX6_odds_108 : decode cX6_odds 108 = .ok (.ifCond .ne 8, 3) := by decide +kernel
theorem dX6_odds_111 : decode cX6_odds 111 = .ok (.iload 7, 2) := by decide +kernel
theorem dX6_odds_113 : decode cX6_odds 113 = .ok (.goto 5, 3) := by decide +kernel
theorem dX6_odds_116 : decode cX6_odds 116 = .ok (.iload 6, 2) := by decide +kernel
theorem dX6_odds_118 : decode cX6_odds 118 = .ok (.iload 8, 2) := by decide +kernel
theorem dX6_odds_120 : decode cX6_odds 120 = .ok (.idiv, 1) := by decide +kernel
theorem dX6_odds_121 : decode cX6_odds 121 = .ok (.ireturn, 1) := by decide +kernel
theorem dX6_sees_0 : decode cX6_sees 0 = .ok (.iload_n 1, 1) := by decide +kernel
theorem dX6_sees_1 : decode cX6_sees 1 = .ok (.ifCond .lt 29, 3) := by decide +kernel
theorem dX6_sees_4 : decode cX6_sees 4 = .ok (.iload_n 1, 1) := by decide +kernel
theorem dX6_sees_5 : decode cX6_sees 5 = .ok (.bipush 80, 2) := by decide +kernel
theorem dX6_sees_7 : decode cX6_sees 7 = .ok (.if_icmp .gt 23, 3) := by decide +kernel
theorem dX6_sees_10 : decode cX6_sees 10 = .ok (.iload_n 2, 1) := by decide +kernel
theorem dX6_sees_11 : decode cX6_sees 11 = .ok (.iconst 1, 1) := by decide +kernel
theorem dX6_sees_12 : decode cX6_sees 12 = .ok (.if_icmp .lt 18, 3) := by decide +kernel
theorem dX6_sees_15 : decode cX6_sees 15 = .ok (.iload_n 2, 1) := by decide +kernel
theorem dX6_sees_16 : decode cX6_sees 16 = .ok (.bipush 9, 2) := by decide +kernel
theorem dX6_sees_18 : decode cX6_sees 18 = .ok (.if_icmp .gt 12, 3) := by decide +kernel
theorem dX6_sees_21 : decode cX6_sees 21 = .ok (.iload_n 3, 1) := by decide +kernel
theorem dX6_sees_22 : decode cX6_sees 22 = .ok (.ifCond .lt 8, 3) := by decide +kernel
theorem dX6_sees_25 : decode cX6_sees 25 = .ok (.iload_n 3, 1) := by decide +kernel
theorem dX6_sees_26 : decode cX6_sees 26 = .ok (.iconst 1, 1) := by decide +kernel
theorem dX6_sees_27 : decode cX6_sees 27 = .ok (.if_icmp .le 5, 3) := by decide +kernel
theorem dX6_sees_30 : decode cX6_sees 30 = .ok (.iconst (-1), 1) := by decide +kernel
theorem dX6_sees_31 : decode cX6_sees 31 = .ok (.ireturn, 1) := by decide +kernel
theorem dX6_sees_32 : decode cX6_sees 32 = .ok (.aload_n 0, 1) := by decide +kernel
theorem dX6_sees_33 : decode cX6_sees 33 = .ok (.getfield 33, 3) := by decide +kernel
theorem dX6_sees_36 : decode cX6_sees 36 = .ok (.getfield 227, 3) := by decide +kernel
theorem dX6_sees_39 : decode cX6_sees 39 = .ok (.bipush 6, 2) := by decide +kernel
theorem dX6_sees_41 : decode cX6_sees 41 = .ok (.if_icmp .lt 8, 3) := by decide +kernel
theorem dX6_sees_44 : decode cX6_sees 44 = .ok (.bipush (-3), 2) := by decide +kernel
theorem dX6_sees_46 : decode cX6_sees 46 = .ok (.goto 13, 3) := by decide +kernel
theorem dX6_sees_49 : decode cX6_sees 49 = .ok (.aload_n 0, 1) := by decide +kernel
theorem dX6_sees_50 : decode cX6_sees 50 = .ok (.getfield 33, 3) := by decide +kernel
theorem dX6_sees_53 : decode cX6_sees 53 = .ok (.iload_n 1, 1) := by decide +kernel
theorem dX6_sees_54 : decode cX6_sees 54 = .ok (.iload_n 2, 1) := by decide +kernel
theorem dX6_sees_55 : decode cX6_sees 55 = .ok (.iload_n 3, 1) := by decide +kernel
theorem dX6_sees_56 : decode cX6_sees 56 = .ok (.invokevirtual 230, 3) := by decide +kernel
theorem dX6_sees_59 : decode cX6_sees 59 = .ok (.ireturn, 1) := by decide +kernel
theorem dX6_forget_0 : decode cX6_forget 0 = .ok (.aload_n 0, 1) := by decide +kernel
theorem dX6_forget_1 : decode cX6_forget 1 = .ok (.getfield 33, 3) := by decide +kernel
theorem dX6_forget_4 : decode cX6_forget 4 = .ok (.invokevirtual 75, 3) := by decide +kernel
theorem dX6_forget_7 : decode cX6_forget 7 = .ok (.ireturn, 1) := by decide +kernel
theorem dX6_whose_0 : decode cX6_whose 0 = .ok (.iconst 0, 1) := by decide +kernel
theorem dX6_whose_1 : decode cX6_whose 1 = .ok (.istore_n 1, 1) := by decide +kernel
theorem dX6_whose_2 : decode cX6_whose 2 = .ok (.iconst 0, 1) := by decide +kernel
theorem dX6_whose_3 : decode cX6_whose 3 = .ok (.istore_n 2, 1) := by decide +kernel
theorem dX6_whose_4 : decode cX6_whose 4 = .ok (.iload_n 2, 1) := by decide +kernel
theorem dX6_whose_5 : decode cX6_whose 5 = .ok (.aload_n 0, 1) := by decide +kernel
theorem dX6_whose_6 : decode cX6_whose 6 = .ok (.getfield 48, 3) := by decide +kernel
theorem dX6_whose_9 : decode cX6_whose 9 = .ok (.getfield 233, 3) := by decide +kernel
theorem dX6_whose_12 : decode cX6_whose 12 = .ok (.if_icmp .ge 39, 3) := by decide +kernel
theorem dX6_whose_15 : decode cX6_whose 15 = .ok (.aload_n 0, 1) := by decide +kernel
theorem dX6_whose_16 : decode cX6_whose 16 = .ok (.getfield 48, 3) := by decide +kernel
theorem dX6_whose_19 : decode cX6_whose 19 = .ok (.iload_n 2, 1) := by decide +kernel
theorem dX6_whose_20 : decode cX6_whose 20 = .ok (.invokevirtual 78, 3) := by decide +kernel
theorem dX6_whose_23 : decode cX6_whose 23 = .ok (.astore_n 3, 1) := by decide +kernel
theorem dX6_whose_24 : decode cX6_whose 24 = .ok (.aload_n 3, 1) := by decide +kernel
theorem dX6_whose_25 : decode cX6_whose 25 = .ok (.ifnull 20, 3) := by decide +kernel
theorem dX6_whose_28 : decode cX6_whose 28 = .ok (.aload_n 0, 1) := by decide +kernel
theorem dX6_whose_29 : decode cX6_whose 29 = .ok (.getfield 33, 3) := by decide +kernel
theorem dX6_whose_32 : decode cX6_whose 32 = .ok (.aload_n 3, 1) := by decide +kernel
theorem dX6_whose_33 : decode cX6_whose 33 = .ok (.invokevirtual 236, 3) := by decide +kernel
theorem dX6_whose_36 : decode cX6_whose 36 = .ok (.ifCond .eq 9, 3) := by decide +kernel
theorem dX6_whose_39 : decode cX6_whose 39 = .ok (.iload_n 1, 1) := by decide +kernel
theorem dX6_whose_40 : decode cX6_whose 40 = .ok (.iconst 1, 1) := by decide +kernel
theorem dX6_whose_41 : decode cX6_whose 41 = .ok (.iload_n 2, 1) := by decide +kernel
theorem dX6_whose_42 : decode cX6_whose 42 = .ok (.ishl, 1) := by decide +kernel
theorem dX6_whose_43 : decode cX6_whose 43 = .ok (.ior, 1) := by decide +kernel
theorem dX6_whose_44 : decode cX6_whose 44 = .ok (.istore_n 1, 1) := by decide +kernel
theorem dX6_whose_45 : decode cX6_whose 45 = .ok (.iinc 2 1, 3) := by decide +kernel
theorem dX6_whose_48 : decode cX6_whose 48 = .ok (.goto (-44), 3) := by decide +kernel
theorem dX6_whose_51 : decode cX6_whose 51 = .ok (.iload_n 1, 1) := by decide +kernel
theorem dX6_whose_52 : decode cX6_whose 52 = .ok (.ireturn, 1) := by decide +kernel
theorem dX6_look_0 : decode cX6_look 0 = .ok (.aload_n 0, 1) := by decide +kernel
theorem dX6_look_1 : decode cX6_look 1 = .ok (.invokevirtual 240, 3) := by decide +kernel
theorem dX6_look_4 : decode cX6_look 4 = .ok (.istore_n 1, 1) := by decide +kernel
theorem dX6_look_5 : decode cX6_look 5 = .ok (.iload_n 1, 1) := by decide +kernel
theorem dX6_look_6 : decode cX6_look 6 = .ok (.invokestatic 243, 3) := by decide +kernel
theorem dX6_look_9 : decode cX6_look 9 = .ok (.istore_n 2, 1) := by decide +kernel
theorem dX6_look_10 : decode cX6_look 10 = .ok (.iload_n 2, 1) := by decide +kernel
theorem dX6_look_11 : decode cX6_look 11 = .ok (.istore_n 3, 1) := by decide +kernel
theorem dX6_look_12 : decode cX6_look 12 = .ok (.bipush (-9), 2) := by decide +kernel
theorem dX6_look_14 : decode cX6_look 14 = .ok (.istore 4, 2) := by decide +kernel
theorem dX6_look_16 : decode cX6_look 16 = .ok (.iconst 0, 1) := by decide +kernel
theorem dX6_look_17 : decode cX6_look 17 = .ok (.istore 5, 2) := by decide +kernel
theorem dX6_look_19 : decode cX6_look 19 = .ok (.iload 5, 2) := by decide +kernel
theorem dX6_look_21 : decode cX6_look 21 = .ok (.bipush 80, 2) := by decide +kernel
theorem dX6_look_23 : decode cX6_look 23 = .ok (.if_icmp .gt 83, 3) := by decide +kernel
theorem dX6_look_26 : decode cX6_look 26 = .ok (.aload_n 0, 1) := by decide +kernel
theorem dX6_look_27 : decode cX6_look 27 = .ok (.getfield 33, 3) := by decide +kernel
theorem dX6_look_30 : decode cX6_look 30 = .ok (.aload_n 0, 1) := by decide +kernel
theorem dX6_look_31 : decode cX6_look 31 = .ok (.getfield 48, 3) := by decide +kernel
theorem dX6_look_34 : decode cX6_look 34 = .ok (.iload_n 1, 1) := by decide +kernel
theorem dX6_look_35 : decode cX6_look 35 = .ok (.iload 5, 2) := by decide +kernel
theorem dX6_look_37 : decode cX6_look 37 = .ok (.invokevirtual 248, 3) := by decide +kernel
theorem dX6_look_40 : decode cX6_look 40 = .ok (.iconst 1, 1) := by decide +kernel
theorem dX6_look_41 : decode cX6_look 41 = .ok (.istore 6, 2) := by decide +kernel
theorem dX6_look_43 : decode cX6_look 43 = .ok (.iload 6, 2) := by decide +kernel
theorem dX6_look_45 : decode cX6_look 45 = .ok (.bipush 9, 2) := by decide +kernel
theorem dX6_look_47 : decode cX6_look 47 = .ok (.if_icmp .gt 53, 3) := by decide +kernel
theorem dX6_look_50 : decode cX6_look 50 = .ok (.aload_n 0, 1) := by decide +kernel
theorem dX6_look_51 : decode cX6_look 51 = .ok (.getfield 33, 3) := by decide +kernel
theorem dX6_look_54 : decode cX6_look 54 = .ok (.getfield 252, 3) := by decide +kernel
theorem dX6_look_57 : decode cX6_look 57 = .ok (.iload 6, 2) := by decide +kernel
theorem dX6_look_59 : decode cX6_look 59 = .ok (.invokestatic 151, 3) := by decide +kernel
theorem dX6_look_62 : decode cX6_look 62 = .ok (.istore 7, 2) := by decide +kernel
theorem dX6_look_64 : decode cX6_look 64 = .ok (.iload 7, 2) := by decide +kernel
theorem dX6_look_66 : decode cX6_look 66 = .ok (.iload_n 2, 1) := by decide +kernel
theorem dX6_look_67 : decode cX6_look 67 = .ok (.iload 7, 2) := by decide +kernel
theorem dX6_look_69 : decode cX6_look 69 = .ok (.isub, 1) := by decide +kernel
theorem dX6_look_70 : decode cX6_look 70 = .ok (.invokestatic 255, 3) := by decide +kernel
theorem dX6_look_73 : decode cX6_look 73 = .ok (.istore 8, 2) := by decide +kernel
theorem dX6_look_75 : decode cX6_look 75 = .ok (.iload 8, 2) := by decide +kernel
theorem dX6_look_77 : decode cX6_look 77 = .ok (.iload_n 3, 1) := by decide +kernel
theorem dX6_look_78 : decode cX6_look 78 = .ok (.if_icmp .ge 16, 3) := by decide +kernel
theorem dX6_look_81 : decode cX6_look 81 = .ok (.iload 8, 2) := by decide +kernel
theorem dX6_look_83 : decode cX6_look 83 = .ok (.istore_n 3, 1) := by decide +kernel
theorem dX6_look_84 : decode cX6_look 84 = .ok (.bipush 10, 2) := by decide +kernel
theorem dX6_look_86 : decode cX6_look 86 = .ok (.iload 5, 2) := by decide +kernel
theorem dX6_look_88 : decode cX6_look 88 = .ok (.imul, 1) := by decide +kernel
theorem dX6_look_89 : decode cX6_look 89 = .ok (.iload 6, 2) := by decide +kernel
theorem dX6_look_91 : decode cX6_look 91 = .ok (.iadd, 1) := by decide +kernel
theorem dX6_look_92 : decode cX6_look 92 = .ok (.istore 4, 2) := by decide +kernel
theorem dX6_look_94 : decode cX6_look 94 = .ok (.iinc 6 1, 3) := by decide +kernel
theorem dX6_look_97 : decode cX6_look 97 = .ok (.goto (-54), 3) := by decide +kernel
theorem dX6_look_100 : decode cX6_look 100 = .ok (.iinc 5 1, 3) := by decide +kernel
theorem dX6_look_103 : decode cX6_look 103 = .ok (.goto (-84), 3) := by decide +kernel
theorem dX6_look_106 : decode cX6_look 106 = .ok (.iload 4, 2) := by decide +kernel
theorem dX6_look_108 : decode cX6_look 108 = .ok (.ireturn, 1) := by decide +kernel
theorem dX6_mark_0 : decode cX6_mark 0 = .ok (.aload_n 0, 1) := by decide +kernel
theorem dX6_mark_1 : decode cX6_mark 1 = .ok (.getfield 48, 3) := by decide +kernel
theorem dX6_mark_4 : decode cX6_mark 4 = .ok (.iload_n 2, 1) := by decide +kernel
theorem dX6_mark_5 : decode cX6_mark 5 = .ok (.invokevirtual 78, 3) := by decide +kernel
theorem dX6_mark_8 : decode cX6_mark 8 = .ok (.astore_n 3, 1) := by decide +kernel
theorem dX6_mark_9 : decode cX6_mark 9 = .ok (.aload_n 3, 1) := by decide +kernel
theorem dX6_mark_10 : decode cX6_mark 10 = .ok (.ifnull 15, 3) := by decide +kernel
theorem dX6_mark_13 : decode cX6_mark 13 = .ok (.iload_n 1, 1) := by decide +kernel
theorem dX6_mark_14 : decode cX6_mark 14 = .ok (.ifCond .lt 11, 3) := by decide +kernel
theorem dX6_mark_17 : decode cX6_mark 17 = .ok (.iload_n 1, 1) := by decide +kernel
theorem dX6_mark_18 : decode cX6_mark 18 = .ok (.getstatic 258, 3) := by decide +kernel
theorem dX6_mark_21 : decode cX6_mark 21 = .ok (.arraylength, 1) := by decide +kernel
theorem dX6_mark_22 : decode cX6_mark 22 = .ok (.if_icmp .lt 7, 3) := by decide +kernel
theorem dX6_mark_25 : decode cX6_mark 25 = .ok (.ldc_w 261, 3) := by decide +kernel
theorem dX6_mark_28 : decode cX6_mark 28 = .ok (.ireturn, 1) := by decide +kernel
theorem dX6_mark_29 : decode cX6_mark 29 = .ok (.aload_n 0, 1) := by decide +kernel
theorem dX6_mark_30 : decode cX6_mark 30 = .ok (.iload_n 1, 1) := by decide +kernel
theorem dX6_mark_31 : decode cX6_mark 31 = .ok (.aload_n 3, 1) := by decide +kernel
theorem dX6_mark_32 : decode cX6_mark 32 = .ok (.iload_n 2, 1) := by decide +kernel
theorem dX6_mark_33 : decode cX6_mark 33 = .ok (.iconst 0, 1) := by decide +kernel
theorem dX6_mark_34 : decode cX6_mark 34 = .ok (.invokevirtual 262, 3) := by decide +kernel
theorem dX6_mark_37 : decode cX6_mark 37 = .ok (.ireturn, 1) := by decide +kernel
theorem dX6_keep_0 : decode cX6_keep 0 = .ok (.aload_n 0, 1) := by decide +kernel
theorem dX6_keep_1 : decode cX6_keep 1 = .ok (.iload_n 1, 1) := by decide +kernel
theorem dX6_keep_2 : decode cX6_keep 2 = .ok (.invokevirtual 266, 3) := by decide +kernel
theorem dX6_keep_5 : decode cX6_keep 5 = .ok (.astore_n 2, 1) := by decide +kernel
theorem dX6_keep_6 : decode cX6_keep 6 = .ok (.aload_n 2, 1) := by decide +kernel
theorem dX6_keep_7 : decode cX6_keep 7 = .ok (.ifnull 16, 3) := by decide +kernel
theorem dX6_keep_10 : decode cX6_keep 10 = .ok (.iload_n 1, 1) := by decide +kernel
theorem dX6_keep_11 : decode cX6_keep 11 = .ok (.ifCond .lt 12, 3) := by decide +kernel
theorem dX6_keep_14 : decode cX6_keep 14 = .ok (.iload_n 1, 1) := by decide +kernel
theorem dX6_keep_15 : decode cX6_keep 15 = .ok (.aload_n 0, 1) := by decide +kernel
theorem dX6_keep_16 : decode cX6_keep 16 = .ok (.getfield 41, 3) := by decide +kernel
theorem dX6_keep_19 : decode cX6_keep 19 = .ok (.arraylength, 1) := by decide +kernel
theorem dX6_keep_20 : decode cX6_keep 20 = .ok (.if_icmp .lt 5, 3) := by decide +kernel
end
section
theorem dX6_keep_23 : decode cX6_keep 23 = .ok (.iconst (-1), 1) := by decide +kernel
theorem dX6_keep_24 : decode cX6_keep 24 = .ok (.ireturn, 1) := by decide +kernel
theorem dX6_keep_25 : decode cX6_keep 25 = .ok (.aload_n 2, 1) := by decide +kernel
theorem dX6_keep_26 : decode cX6_keep 26 = .ok (.aload_n 0, 1) := by decide +kernel
theorem dX6_keep_27 : decode cX6_keep 27 = .ok (.getfield 19, 3) := by decide +kernel
theorem dX6_keep_30 : decode cX6_keep 30 = .ok (.invokevirtual 270, 3) := by decide +kernel
theorem dX6_keep_33 : decode cX6_keep 33 = .ok (.aload_n 0, 1) := by decide +kernel
theorem dX6_keep_34 : decode cX6_keep 34 = .ok (.getfield 41, 3) := by decide +kernel
theorem dX6_keep_37 : decode cX6_keep 37 = .ok (.iload_n 1, 1) := by decide +kernel
theorem dX6_keep_38 : decode cX6_keep 38 = .ok (.iconst 1, 1) := by decide +kernel
theorem dX6_keep_39 : decode cX6_keep 39 = .ok (.bastore, 1) := by decide +kernel
theorem dX6_keep_40 : decode cX6_keep 40 = .ok (.aload_n 0, 1) := by decide +kernel
theorem dX6_keep_41 : decode cX6_keep 41 = .ok (.getfield 19, 3) := by decide +kernel
theorem dX6_keep_44 : decode cX6_keep 44 = .ok (.getfield 104, 3) := by decide +kernel
theorem dX6_keep_47 : decode cX6_keep 47 = .ok (.getfield 164, 3) := by decide +kernel
theorem dX6_keep_50 : decode cX6_keep 50 = .ok (.ireturn, 1) := by decide +kernel
theorem dX6_back_0 : decode cX6_back 0 = .ok (.aload_n 0, 1) := by decide +kernel
theorem dX6_back_1 : decode cX6_back 1 = .ok (.iload_n 1, 1) := by decide +kernel
theorem dX6_back_2 : decode cX6_back 2 = .ok (.invokevirtual 266, 3) := by decide +kernel
theorem dX6_back_5 : decode cX6_back 5 = .ok (.astore_n 2, 1) := by decide +kernel
theorem dX6_back_6 : decode cX6_back 6 = .ok (.aload_n 2, 1) := by decide +kernel
theorem dX6_back_7 : decode cX6_back 7 = .ok (.ifnull 16, 3) := by decide +kernel
theorem dX6_back_10 : decode cX6_back 10 = .ok (.iload_n 1, 1) := by decide +kernel
theorem dX6_back_11 : decode cX6_back 11 = .ok (.ifCond .lt 12, 3) := by decide +kernel
theorem dX6_back_14 : decode cX6_back 14 = .ok (.iload_n 1, 1) := by decide +kernel
theorem dX6_back_15 : decode cX6_back 15 = .ok (.aload_n 0, 1) := by decide +kernel
theorem dX6_back_16 : decode cX6_back 16 = .ok (.getfield 41, 3) := by decide +kernel
theorem dX6_back_19 : decode cX6_back 19 = .ok (.arraylength, 1) := by decide +kernel
theorem dX6_back_20 : decode cX6_back 20 = .ok (.if_icmp .lt 5, 3) := by decide +kernel
theorem dX6_back_23 : decode cX6_back 23 = .ok (.iconst (-1), 1) := by decide +kernel
theorem dX6_back_24 : decode cX6_back 24 = .ok (.ireturn, 1) := by decide +kernel
theorem dX6_back_25 : decode cX6_back 25 = .ok (.aload_n 0, 1) := by decide +kernel
theorem dX6_back_26 : decode cX6_back 26 = .ok (.getfield 41, 3) := by decide +kernel
theorem dX6_back_29 : decode cX6_back 29 = .ok (.iload_n 1, 1) := by decide +kernel
theorem dX6_back_30 : decode cX6_back 30 = .ok (.baload, 1) := by decide +kernel
theorem dX6_back_31 : decode cX6_back 31 = .ok (.ifCond .ne 6, 3) := by decide +kernel
theorem dX6_back_34 : decode cX6_back 34 = .ok (.bipush (-2), 2) := by decide +kernel
theorem dX6_back_36 : decode cX6_back 36 = .ok (.ireturn, 1) := by decide +kernel
theorem dX6_back_37 : decode cX6_back 37 = .ok (.aload_n 0, 1) := by decide +kernel
theorem dX6_back_38 : decode cX6_back 38 = .ok (.getfield 19, 3) := by decide +kernel
theorem dX6_back_41 : decode cX6_back 41 = .ok (.aload_n 2, 1) := by decide +kernel
theorem dX6_back_42 : decode cX6_back 42 = .ok (.invokevirtual 270, 3) := by decide +kernel
theorem dX6_back_45 : decode cX6_back 45 = .ok (.aload_n 0, 1) := by decide +kernel
theorem dX6_back_46 : decode cX6_back 46 = .ok (.getfield 19, 3) := by decide +kernel
theorem dX6_back_49 : decode cX6_back 49 = .ok (.getfield 104, 3) := by decide +kernel
theorem dX6_back_52 : decode cX6_back 52 = .ok (.getfield 164, 3) := by decide +kernel
theorem dX6_back_55 : decode cX6_back 55 = .ok (.ireturn, 1) := by decide +kernel
theorem dX6_count_0 : decode cX6_count 0 = .ok (.iload_n 1, 1) := by decide +kernel
theorem dX6_count_1 : decode cX6_count 1 = .ok (.tableswitch 75 0 4 #[35, 43, 51, 59, 67], 35) := by decide +kernel
theorem dX6_count_36 : decode cX6_count 36 = .ok (.aload_n 0, 1) := by decide +kernel
theorem dX6_count_37 : decode cX6_count 37 = .ok (.getfield 48, 3) := by decide +kernel
theorem dX6_count_40 : decode cX6_count 40 = .ok (.getfield 274, 3) := by decide +kernel
theorem dX6_count_43 : decode cX6_count 43 = .ok (.ireturn, 1) := by decide +kernel
theorem dX6_count_44 : decode cX6_count 44 = .ok (.aload_n 0, 1) := by decide +kernel
theorem dX6_count_45 : decode cX6_count 45 = .ok (.getfield 48, 3) := by decide +kernel
theorem dX6_count_48 : decode cX6_count 48 = .ok (.getfield 233, 3) := by decide +kernel
theorem dX6_count_51 : decode cX6_count 51 = .ok (.ireturn, 1) := by decide +kernel
theorem dX6_count_52 : decode cX6_count 52 = .ok (.aload_n 0, 1) := by decide +kernel
theorem dX6_count_53 : decode cX6_count 53 = .ok (.getfield 33, 3) := by decide +kernel
theorem dX6_count_56 : decode cX6_count 56 = .ok (.getfield 227, 3) := by decide +kernel
theorem dX6_count_59 : decode cX6_count 59 = .ok (.ireturn, 1) := by decide +kernel
theorem dX6_count_60 : decode cX6_count 60 = .ok (.aload_n 0, 1) := by decide +kernel
theorem dX6_count_61 : decode cX6_count 61 = .ok (.getfield 19, 3) := by decide +kernel
theorem dX6_count_64 : decode cX6_count 64 = .ok (.getfield 199, 3) := by decide +kernel
theorem dX6_count_67 : decode cX6_count 67 = .ok (.ireturn, 1) := by decide +kernel
theorem dX6_count_68 : decode cX6_count 68 = .ok (.aload_n 0, 1) := by decide +kernel
theorem dX6_count_69 : decode cX6_count 69 = .ok (.getfield 10, 3) := by decide +kernel
theorem dX6_count_72 : decode cX6_count 72 = .ok (.getfield 276, 3) := by decide +kernel
theorem dX6_count_75 : decode cX6_count 75 = .ok (.ireturn, 1) := by decide +kernel
theorem dX6_count_76 : decode cX6_count 76 = .ok (.iconst (-1), 1) := by decide +kernel
theorem dX6_count_77 : decode cX6_count 77 = .ok (.ireturn, 1) := by decide +kernel
theorem dX6_trace_0 : decode cX6_trace 0 = .ok (.aload_n 0, 1) := by decide +kernel
theorem dX6_trace_1 : decode cX6_trace 1 = .ok (.getfield 279, 3) := by decide +kernel
theorem dX6_trace_4 : decode cX6_trace 4 = .ok (.lreturn, 1) := by decide +kernel
theorem dX6_endsIn_0 : decode cX6_endsIn 0 = .ok (.aload_n 0, 1) := by decide +kernel
theorem dX6_endsIn_1 : decode cX6_endsIn 1 = .ok (.getfield 19, 3) := by decide +kernel
theorem dX6_endsIn_4 : decode cX6_endsIn 4 = .ok (.getfield 104, 3) := by decide +kernel
theorem dX6_endsIn_7 : decode cX6_endsIn 7 = .ok (.iload_n 1, 1) := by decide +kernel
theorem dX6_endsIn_8 : decode cX6_endsIn 8 = .ok (.invokevirtual 110, 3) := by decide +kernel
theorem dX6_endsIn_11 : decode cX6_endsIn 11 = .ok (.bipush (-9), 2) := by decide +kernel
theorem dX6_endsIn_13 : decode cX6_endsIn 13 = .ok (.if_icmp .ne 6, 3) := by decide +kernel
theorem dX6_endsIn_16 : decode cX6_endsIn 16 = .ok (.bipush (-9), 2) := by decide +kernel
theorem dX6_endsIn_18 : decode cX6_endsIn 18 = .ok (.ireturn, 1) := by decide +kernel
theorem dX6_endsIn_19 : decode cX6_endsIn 19 = .ok (.aload_n 0, 1) := by decide +kernel
theorem dX6_endsIn_20 : decode cX6_endsIn 20 = .ok (.getfield 26, 3) := by decide +kernel
theorem dX6_endsIn_23 : decode cX6_endsIn 23 = .ok (.aload_n 0, 1) := by decide +kernel
theorem dX6_endsIn_24 : decode cX6_endsIn 24 = .ok (.getfield 19, 3) := by decide +kernel
theorem dX6_endsIn_27 : decode cX6_endsIn 27 = .ok (.getfield 104, 3) := by decide +kernel
theorem dX6_endsIn_30 : decode cX6_endsIn 30 = .ok (.invokevirtual 283, 3) := by decide +kernel
theorem dX6_endsIn_33 : decode cX6_endsIn 33 = .ok (.iconst 1, 1) := by decide +kernel
theorem dX6_endsIn_34 : decode cX6_endsIn 34 = .ok (.istore_n 2, 1) := by decide +kernel
theorem dX6_endsIn_35 : decode cX6_endsIn 35 = .ok (.iload_n 2, 1) := by decide +kernel
theorem dX6_endsIn_36 : decode cX6_endsIn 36 = .ok (.sipush 400, 3) := by decide +kernel
theorem dX6_endsIn_39 : decode cX6_endsIn 39 = .ok (.if_icmp .gt 53, 3) := by decide +kernel
theorem dX6_endsIn_42 : decode cX6_endsIn 42 = .ok (.aload_n 0, 1) := by decide +kernel
theorem dX6_endsIn_43 : decode cX6_endsIn 43 = .ok (.getfield 26, 3) := by decide +kernel
theorem dX6_endsIn_46 : decode cX6_endsIn 46 = .ok (.aload_n 0, 1) := by decide +kernel
theorem dX6_endsIn_47 : decode cX6_endsIn 47 = .ok (.getfield 48, 3) := by decide +kernel
theorem dX6_endsIn_50 : decode cX6_endsIn 50 = .ok (.invokevirtual 205, 3) := by decide +kernel
theorem dX6_endsIn_53 : decode cX6_endsIn 53 = .ok (.ifCond .eq 6, 3) := by decide +kernel
theorem dX6_endsIn_56 : decode cX6_endsIn 56 = .ok (.bipush (-9), 2) := by decide +kernel
theorem dX6_endsIn_58 : decode cX6_endsIn 58 = .ok (.ireturn, 1) := by decide +kernel
theorem dX6_endsIn_59 : decode cX6_endsIn 59 = .ok (.aload_n 0, 1) := by decide +kernel
theorem dX6_endsIn_60 : decode cX6_endsIn 60 = .ok (.getfield 26, 3) := by decide +kernel
theorem dX6_endsIn_63 : decode cX6_endsIn 63 = .ok (.aload_n 0, 1) := by decide +kernel
theorem dX6_endsIn_64 : decode cX6_endsIn 64 = .ok (.getfield 48, 3) := by decide +kernel
theorem dX6_endsIn_67 : decode cX6_endsIn 67 = .ok (.invokevirtual 170, 3) := by decide +kernel
theorem dX6_endsIn_70 : decode cX6_endsIn 70 = .ok (.pop, 1) := by decide +kernel
theorem dX6_endsIn_71 : decode cX6_endsIn 71 = .ok (.aload_n 0, 1) := by decide +kernel
theorem dX6_endsIn_72 : decode cX6_endsIn 72 = .ok (.getfield 26, 3) := by decide +kernel
theorem dX6_endsIn_75 : decode cX6_endsIn 75 = .ok (.iload_n 1, 1) := by decide +kernel
theorem dX6_endsIn_76 : decode cX6_endsIn 76 = .ok (.invokevirtual 110, 3) := by decide +kernel
theorem dX6_endsIn_79 : decode cX6_endsIn 79 = .ok (.bipush (-9), 2) := by decide +kernel
theorem dX6_endsIn_81 : decode cX6_endsIn 81 = .ok (.if_icmp .ne 5, 3) := by decide +kernel
theorem dX6_endsIn_84 : decode cX6_endsIn 84 = .ok (.iload_n 2, 1) := by decide +kernel
theorem dX6_endsIn_85 : decode cX6_endsIn 85 = .ok (.ireturn, 1) := by decide +kernel
theorem dX6_endsIn_86 : decode cX6_endsIn 86 = .ok (.iinc 2 1, 3) := by decide +kernel
theorem dX6_endsIn_89 : decode cX6_endsIn 89 = .ok (.goto (-54), 3) := by decide +kernel
theorem dX6_endsIn_92 : decode cX6_endsIn 92 = .ok (.bipush (-9), 2) := by decide +kernel
theorem dX6_endsIn_94 : decode cX6_endsIn 94 = .ok (.ireturn, 1) := by decide +kernel
theorem dX6_shortestBut_0 : decode cX6_shortestBut 0 = .ok (.bipush (-9), 2) := by decide +kernel
theorem dX6_shortestBut_2 : decode cX6_shortestBut 2 = .ok (.istore_n 2, 1) := by decide +kernel
theorem dX6_shortestBut_3 : decode cX6_shortestBut 3 = .ok (.iconst 0, 1) := by decide +kernel
theorem dX6_shortestBut_4 : decode cX6_shortestBut 4 = .ok (.istore_n 3, 1) := by decide +kernel
theorem dX6_shortestBut_5 : decode cX6_shortestBut 5 = .ok (.iconst 0, 1) := by decide +kernel
theorem dX6_shortestBut_6 : decode cX6_shortestBut 6 = .ok (.istore 4, 2) := by decide +kernel
theorem dX6_shortestBut_8 : decode cX6_shortestBut 8 = .ok (.iload 4, 2) := by decide +kernel
theorem dX6_shortestBut_10 : decode cX6_shortestBut 10 = .ok (.aload_n 0, 1) := by decide +kernel
theorem dX6_shortestBut_11 : decode cX6_shortestBut 11 = .ok (.getfield 48, 3) := by decide +kernel
theorem dX6_shortestBut_14 : decode cX6_shortestBut 14 = .ok (.getfield 233, 3) := by decide +kernel
theorem dX6_shortestBut_17 : decode cX6_shortestBut 17 = .ok (.if_icmp .ge 74, 3) := by decide +kernel
theorem dX6_shortestBut_20 : decode cX6_shortestBut 20 = .ok (.aload_n 0, 1) := by decide +kernel
theorem dX6_shortestBut_21 : decode cX6_shortestBut 21 = .ok (.getfield 19, 3) := by decide +kernel
theorem dX6_shortestBut_24 : decode cX6_shortestBut 24 = .ok (.getfield 104, 3) := by decide +kernel
theorem dX6_shortestBut_27 : decode cX6_shortestBut 27 = .ok (.iload 4, 2) := by decide +kernel
theorem dX6_shortestBut_29 : decode cX6_shortestBut 29 = .ok (.invokevirtual 110, 3) := by decide +kernel
theorem dX6_shortestBut_32 : decode cX6_shortestBut 32 = .ok (.bipush (-9), 2) := by decide +kernel
theorem dX6_shortestBut_34 : decode cX6_shortestBut 34 = .ok (.if_icmp .eq 51, 3) := by decide +kernel
theorem dX6_shortestBut_37 : decode cX6_shortestBut 37 = .ok (.iload_n 1, 1) := by decide +kernel
theorem dX6_shortestBut_38 : decode cX6_shortestBut 38 = .ok (.iload 4, 2) := by decide +kernel
theorem dX6_shortestBut_40 : decode cX6_shortestBut 40 = .ok (.ishr, 1) := by decide +kernel
theorem dX6_shortestBut_41 : decode cX6_shortestBut 41 = .ok (.iconst 1, 1) := by decide +kernel
theorem dX6_shortestBut_42 : decode cX6_shortestBut 42 = .ok (.iand, 1) := by decide +kernel
theorem dX6_shortestBut_43 : decode cX6_shortestBut 43 = .ok (.ifCond .eq 6, 3) := by decide +kernel
theorem dX6_shortestBut_46 : decode cX6_shortestBut 46 = .ok (.goto 39, 3) := by decide +kernel
theorem dX6_shortestBut_49 : decode cX6_shortestBut 49 = .ok (.aload_n 0, 1) := by decide +kernel
theorem dX6_shortestBut_50 : decode cX6_shortestBut 50 = .ok (.getfield 19, 3) := by decide +kernel
theorem dX6_shortestBut_53 : decode cX6_shortestBut 53 = .ok (.getfield 104, 3) := by decide +kernel
theorem dX6_shortestBut_56 : decode cX6_shortestBut 56 = .ok (.aload_n 0, 1) := by decide +kernel
theorem dX6_shortestBut_57 : decode cX6_shortestBut 57 = .ok (.getfield 48, 3) := by decide +kernel
theorem dX6_shortestBut_60 : decode cX6_shortestBut 60 = .ok (.iload 4, 2) := by decide +kernel
theorem dX6_shortestBut_62 : decode cX6_shortestBut 62 = .ok (.invokevirtual 119, 3) := by decide +kernel
theorem dX6_shortestBut_65 : decode cX6_shortestBut 65 = .ok (.istore 5, 2) := by decide +kernel
theorem dX6_shortestBut_67 : decode cX6_shortestBut 67 = .ok (.iload_n 2, 1) := by decide +kernel
theorem dX6_shortestBut_68 : decode cX6_shortestBut 68 = .ok (.bipush (-9), 2) := by decide +kernel
theorem dX6_shortestBut_70 : decode cX6_shortestBut 70 = .ok (.if_icmp .eq 9, 3) := by decide +kernel
theorem dX6_shortestBut_73 : decode cX6_shortestBut 73 = .ok (.iload 5, 2) := by decide +kernel
theorem dX6_shortestBut_75 : decode cX6_shortestBut 75 = .ok (.iload_n 3, 1) := by decide +kernel
theorem dX6_shortestBut_76 : decode cX6_shortestBut 76 = .ok (.if_icmp .ge 9, 3) := by decide +kernel
theorem dX6_shortestBut_79 : decode cX6_shortestBut 79 = .ok (.iload 4, 2) := by decide +kernel
theorem dX6_shortestBut_81 : decode cX6_shortestBut 81 = .ok (.istore_n 2, 1) := by decide +kernel
theorem dX6_shortestBut_82 : decode cX6_shortestBut 82 = .ok (.iload 5, 2) := by decide +kernel
theorem dX6_shortestBut_84 : decode cX6_shortestBut 84 = .ok (.istore_n 3, 1) := by decide +kernel
theorem dX6_shortestBut_85 : decode cX6_shortestBut 85 = .ok (.iinc 4 1, 3) := by decide +kernel
theorem dX6_shortestBut_88 : decode cX6_shortestBut 88 = .ok (.goto (-80), 3) := by decide +kernel
theorem dX6_shortestBut_91 : decode cX6_shortestBut 91 = .ok (.iload_n 2, 1) := by decide +kernel
theorem dX6_shortestBut_92 : decode cX6_shortestBut 92 = .ok (.ireturn, 1) := by decide +kernel
theorem dX6_worthAs_0 : decode cX6_worthAs 0 = .ok (.iload 4, 2) := by decide +kernel
theorem dX6_worthAs_2 : decode cX6_worthAs 2 = .ok (.getstatic 258, 3) := by decide +kernel
theorem dX6_worthAs_5 : decode cX6_worthAs 5 = .ok (.arraylength, 1) := by decide +kernel
theorem dX6_worthAs_6 : decode cX6_worthAs 6 = .ok (.if_icmp .ge 15, 3) := by decide +kernel
theorem dX6_worthAs_9 : decode cX6_worthAs 9 = .ok (.iload_n 1, 1) := by decide +kernel
theorem dX6_worthAs_10 : decode cX6_worthAs 10 = .ok (.ifCond .lt 11, 3) := by decide +kernel
theorem dX6_worthAs_13 : decode cX6_worthAs 13 = .ok (.iload_n 1, 1) := by decide +kernel
theorem dX6_worthAs_14 : decode cX6_worthAs 14 = .ok (.getstatic 258, 3) := by decide +kernel
theorem dX6_worthAs_17 : decode cX6_worthAs 17 = .ok (.arraylength, 1) := by decide +kernel
theorem dX6_worthAs_18 : decode cX6_worthAs 18 = .ok (.if_icmp .lt 5, 3) := by decide +kernel
theorem dX6_worthAs_21 : decode cX6_worthAs 21 = .ok (.iconst 0, 1) := by decide +kernel
theorem dX6_worthAs_22 : decode cX6_worthAs 22 = .ok (.ireturn, 1) := by decide +kernel
theorem dX6_worthAs_23 : decode cX6_worthAs 23 = .ok (.aload_n 0, 1) := by decide +kernel
theorem dX6_worthAs_24 : decode cX6_worthAs 24 = .ok (.dup, 1) := by decide +kernel
theorem dX6_worthAs_25 : decode cX6_worthAs 25 = .ok (.getfield 279, 3) := by decide +kernel
theorem dX6_worthAs_28 : decode cX6_worthAs 28 = .ok (.getstatic 286, 3) := by decide +kernel
theorem dX6_worthAs_31 : decode cX6_worthAs 31 = .ok (.iload_n 1, 1) := by decide +kernel
theorem dX6_worthAs_32 : decode cX6_worthAs 32 = .ok (.invokestatic 151, 3) := by decide +kernel
theorem dX6_worthAs_35 : decode cX6_worthAs 35 = .ok (.i2l, 1) := by decide +kernel
theorem dX6_worthAs_36 : decode cX6_worthAs 36 = .ok (.ladd, 1) := by decide +kernel
theorem dX6_worthAs_37 : decode cX6_worthAs 37 = .ok (.putfield 279, 3) := by decide +kernel
theorem dX6_worthAs_40 : decode cX6_worthAs 40 = .ok (.iload_n 1, 1) := by decide +kernel
theorem dX6_worthAs_41 : decode cX6_worthAs 41 = .ok (.ifCond .ne 8, 3) := by decide +kernel
theorem dX6_worthAs_44 : decode cX6_worthAs 44 = .ok (.aload_n 2, 1) := by decide +kernel
theorem dX6_worthAs_45 : decode cX6_worthAs 45 = .ok (.getfield 82, 3) := by decide +kernel
theorem dX6_worthAs_48 : decode cX6_worthAs 48 = .ok (.ireturn, 1) := by decide +kernel
theorem dX6_worthAs_49 : decode cX6_worthAs 49 = .ok (.aload_n 0, 1) := by decide +kernel
theorem dX6_worthAs_50 : decode cX6_worthAs 50 = .ok (.getstatic 258, 3) := by decide +kernel
theorem dX6_worthAs_53 : decode cX6_worthAs 53 = .ok (.iload_n 1, 1) := by decide +kernel
theorem dX6_worthAs_54 : decode cX6_worthAs 54 = .ok (.iaload, 1) := by decide +kernel
theorem dX6_worthAs_55 : decode cX6_worthAs 55 = .ok (.aload_n 2, 1) := by decide +kernel
theorem dX6_worthAs_56 : decode cX6_worthAs 56 = .ok (.iload_n 3, 1) := by decide +kernel
theorem dX6_worthAs_57 : decode cX6_worthAs 57 = .ok (.iload 4, 2) := by decide +kernel
theorem dX6_worthAs_59 : decode cX6_worthAs 59 = .ok (.iconst 1, 1) := by decide +kernel
theorem dX6_worthAs_60 : decode cX6_worthAs 60 = .ok (.iadd, 1) := by decide +kernel
theorem dX6_worthAs_61 : decode cX6_worthAs 61 = .ok (.invokevirtual 262, 3) := by decide +kernel
theorem dX6_worthAs_64 : decode cX6_worthAs 64 = .ok (.istore 5, 2) := by decide +kernel
theorem dX6_worthAs_66 : decode cX6_worthAs 66 = .ok (.iload_n 1, 1) := by decide +kernel
theorem dX6_worthAs_67 : decode cX6_worthAs 67 = .ok (.tableswitch 80 1 5 #[33, 41, 56, 61, 66], 33) := by decide +kernel
theorem dX6_worthAs_100 : decode cX6_worthAs 100 = .ok (.iload 5, 2) := by decide +kernel
theorem dX6_worthAs_102 : decode cX6_worthAs 102 = .ok (.aload_n 2, 1) := by decide +kernel
theorem dX6_worthAs_103 : decode cX6_worthAs 103 = .ok (.getfield 88, 3) := by decide +kernel
theorem dX6_worthAs_106 : decode cX6_worthAs 106 = .ok (.iadd, 1) := by decide +kernel
theorem dX6_worthAs_107 : decode cX6_worthAs 107 = .ok (.ireturn, 1) := by decide +kernel
theorem dX6_worthAs_108 : decode cX6_worthAs 108 = .ok (.iload 5, 2) := by decide +kernel
theorem dX6_worthAs_110 : decode cX6_worthAs 110 = .ok (.aload_n 0, 1) := by decide +kernel
theorem dX6_worthAs_111 : decode cX6_worthAs 111 = .ok (.getfield 19, 3) := by decide +kernel
theorem dX6_worthAs_114 : decode cX6_worthAs 114 = .ok (.getfield 104, 3) := by decide +kernel
theorem dX6_worthAs_117 : decode cX6_worthAs 117 = .ok (.iload_n 3, 1) := by decide +kernel
theorem dX6_worthAs_118 : decode cX6_worthAs 118 = .ok (.invokevirtual 107, 3) := by decide +kernel
theorem dX6_worthAs_121 : decode cX6_worthAs 121 = .ok (.isub, 1) := by decide +kernel
theorem dX6_worthAs_122 : decode cX6_worthAs 122 = .ok (.ireturn, 1) := by decide +kernel
theorem dX6_worthAs_123 : decode cX6_worthAs 123 = .ok (.iload 5, 2) := by decide +kernel
theorem dX6_worthAs_125 : decode cX6_worthAs 125 = .ok (.iconst 2, 1) := by decide +kernel
theorem dX6_worthAs_126 : decode cX6_worthAs 126 = .ok (.imul, 1) := by decide +kernel
theorem dX6_worthAs_127 : decode cX6_worthAs 127 = .ok (.ireturn, 1) := by decide +kernel
theorem dX6_worthAs_128 : decode cX6_worthAs 128 = .ok (.iload 5, 2) := by decide +kernel
theorem dX6_worthAs_130 : decode cX6_worthAs 130 = .ok (.iload_n 3, 1) := by decide +kernel
theorem dX6_worthAs_131 : decode cX6_worthAs 131 = .ok (.iadd, 1) := by decide +kernel
theorem dX6_worthAs_132 : decode cX6_worthAs 132 = .ok (.ireturn, 1) := by decide +kernel
theorem dX6_worthAs_133 : decode cX6_worthAs 133 = .ok (.iload 5, 2) := by decide +kernel
theorem dX6_worthAs_135 : decode cX6_worthAs 135 = .ok (.aload_n 0, 1) := by decide +kernel
theorem dX6_worthAs_136 : decode cX6_worthAs 136 = .ok (.getfield 19, 3) := by decide +kernel
theorem dX6_worthAs_139 : decode cX6_worthAs 139 = .ok (.getfield 104, 3) := by decide +kernel
theorem dX6_worthAs_142 : decode cX6_worthAs 142 = .ok (.getfield 164, 3) := by decide +kernel
theorem dX6_worthAs_145 : decode cX6_worthAs 145 = .ok (.iadd, 1) := by decide +kernel
theorem dX6_worthAs_146 : decode cX6_worthAs 146 = .ok (.ireturn, 1) := by decide +kernel
theorem dX6_worthAs_147 : decode cX6_worthAs 147 = .ok (.iload 5, 2) := by decide +kernel
theorem dX6_worthAs_149 : decode cX6_worthAs 149 = .ok (.ireturn, 1) := by decide +kernel
theorem dX6_imageAt_0 : decode cX6_imageAt 0 = .ok (.iload_n 1, 1) := by decide +kernel
theorem dX6_imageAt_1 : decode cX6_imageAt 1 = .ok (.ifCond .lt 21, 3) := by decide +kernel
theorem dX6_imageAt_4 : decode cX6_imageAt 4 = .ok (.iload_n 1, 1) := by decide +kernel
theorem dX6_imageAt_5 : decode cX6_imageAt 5 = .ok (.aload_n 0, 1) := by decide +kernel
theorem dX6_imageAt_6 : decode cX6_imageAt 6 = .ok (.getfield 37, 3) := by decide +kernel
theorem dX6_imageAt_9 : decode cX6_imageAt 9 = .ok (.arraylength, 1) := by decide +kernel
theorem dX6_imageAt_10 : decode cX6_imageAt 10 = .ok (.if_icmp .ge 12, 3) := by decide +kernel
theorem dX6_imageAt_13 : decode cX6_imageAt 13 = .ok (.aload_n 0, 1) := by decide +kernel
theorem dX6_imageAt_14 : decode cX6_imageAt 14 = .ok (.getfield 37, 3) := by decide +kernel
theorem dX6_imageAt_17 : decode cX6_imageAt 17 = .ok (.iload_n 1, 1) := by decide +kernel
theorem dX6_imageAt_18 : decode cX6_imageAt 18 = .ok (.aaload, 1) := by decide +kernel
theorem dX6_imageAt_19 : decode cX6_imageAt 19 = .ok (.goto 4, 3) := by decide +kernel
theorem dX6_imageAt_22 : decode cX6_imageAt 22 = .ok (.aconst_null, 1) := by decide +kernel
theorem dX6_imageAt_23 : decode cX6_imageAt 23 = .ok (.areturn, 1) := by decide +kernel
theorem dX6_at_0 : decode cX6_at 0 = .ok (.iload_n 1, 1) := by decide +kernel
theorem dX6_at_1 : decode cX6_at 1 = .ok (.ifCond .lt 15, 3) := by decide +kernel
theorem dX6_at_4 : decode cX6_at 4 = .ok (.iload_n 1, 1) := by decide +kernel
theorem dX6_at_5 : decode cX6_at 5 = .ok (.aload_n 0, 1) := by decide +kernel
theorem dX6_at_6 : decode cX6_at 6 = .ok (.arraylength, 1) := by decide +kernel
theorem dX6_at_7 : decode cX6_at 7 = .ok (.if_icmp .ge 9, 3) := by decide +kernel
theorem dX6_at_10 : decode cX6_at 10 = .ok (.aload_n 0, 1) := by decide +kernel
theorem dX6_at_11 : decode cX6_at 11 = .ok (.iload_n 1, 1) := by decide +kernel
theorem dX6_at_12 : decode cX6_at 12 = .ok (.iaload, 1) := by decide +kernel
theorem dX6_at_13 : decode cX6_at 13 = .ok (.goto 4, 3) := by decide +kernel
theorem dX6_at_16 : decode cX6_at 16 = .ok (.iconst 0, 1) := by decide +kernel
theorem dX6_at_17 : decode cX6_at 17 = .ok (.ireturn, 1) := by decide +kernel
theorem dX6_put_0 : decode cX6_put 0 = .ok (.iload_n 1, 1) := by decide +kernel
theorem dX6_put_1 : decode cX6_put 1 = .ok (.ifCond .lt 13, 3) := by decide +kernel
theorem dX6_put_4 : decode cX6_put 4 = .ok (.iload_n 1, 1) := by decide +kernel
theorem dX6_put_5 : decode cX6_put 5 = .ok (.aload_n 0, 1) := by decide +kernel
theorem dX6_put_6 : decode cX6_put 6 = .ok (.arraylength, 1) := by decide +kernel
theorem dX6_put_7 : decode cX6_put 7 = .ok (.if_icmp .ge 7, 3) := by decide +kernel
theorem dX6_put_10 : decode cX6_put 10 = .ok (.aload_n 0, 1) := by decide +kernel
theorem dX6_put_11 : decode cX6_put 11 = .ok (.iload_n 1, 1) := by decide +kernel
theorem dX6_put_12 : decode cX6_put 12 = .ok (.iload_n 2, 1) := by decide +kernel
theorem dX6_put_13 : decode cX6_put 13 = .ok (.iastore, 1) := by decide +kernel
theorem dX6_put_14 : decode cX6_put 14 = .ok (.return_, 1) := by decide +kernel
theorem dX6_copyRow_0 : decode cX6_copyRow 0 = .ok (.iconst 0, 1) := by decide +kernel
theorem dX6_copyRow_1 : decode cX6_copyRow 1 = .ok (.istore_n 2, 1) := by decide +kernel
theorem dX6_copyRow_2 : decode cX6_copyRow 2 = .ok (.iload_n 2, 1) := by decide +kernel
theorem dX6_copyRow_3 : decode cX6_copyRow 3 = .ok (.aload_n 0, 1) := by decide +kernel
theorem dX6_copyRow_4 : decode cX6_copyRow 4 = .ok (.arraylength, 1) := by decide +kernel
theorem dX6_copyRow_5 : decode cX6_copyRow 5 = .ok (.if_icmp .ge 21, 3) := by decide +kernel
theorem dX6_copyRow_8 : decode cX6_copyRow 8 = .ok (.iload_n 2, 1) := by decide +kernel
theorem dX6_copyRow_9 : decode cX6_copyRow 9 = .ok (.aload_n 1, 1) := by decide +kernel
theorem dX6_copyRow_10 : decode cX6_copyRow 10 = .ok (.arraylength, 1) := by decide +kernel
theorem dX6_copyRow_11 : decode cX6_copyRow 11 = .ok (.if_icmp .ge 15, 3) := by decide +kernel
theorem dX6_copyRow_14 : decode cX6_copyRow 14 = .ok (.aload_n 1, 1) := by decide +kernel
theorem dX6_copyRow_15 : decode cX6_copyRow 15 = .ok (.iload_n 2, 1) := by decide +kernel
theorem dX6_copyRow_16 : decode cX6_copyRow 16 = .ok (.aload_n 0, 1) := by decide +kernel
theorem dX6_copyRow_17 : decode cX6_copyRow 17 = .ok (.iload_n 2, 1) := by decide +kernel
theorem dX6_copyRow_18 : decode cX6_copyRow 18 = .ok (.iaload, 1) := by decide +kernel
theorem dX6_copyRow_19 : decode cX6_copyRow 19 = .ok (.iastore, 1) := by decide +kernel
theorem dX6_copyRow_20 : decode cX6_copyRow 20 = .ok (.iinc 2 1, 3) := by decide +kernel
theorem dX6_copyRow_23 : decode cX6_copyRow 23 = .ok (.goto (-21), 3) := by decide +kernel
theorem dX6_copyRow_26 : decode cX6_copyRow 26 = .ok (.return_, 1) := by decide +kernel
theorem dX6_choose_0 : decode cX6_choose 0 = .ok (.iload_n 1, 1) := by decide +kernel
theorem dX6_choose_1 : decode cX6_choose 1 = .ok (.ifCond .lt 13, 3) := by decide +kernel
theorem dX6_choose_4 : decode cX6_choose 4 = .ok (.iload_n 1, 1) := by decide +kernel
theorem dX6_choose_5 : decode cX6_choose 5 = .ok (.iconst 4, 1) := by decide +kernel
theorem dX6_choose_6 : decode cX6_choose 6 = .ok (.if_icmp .gt 8, 3) := by decide +kernel
theorem dX6_choose_9 : decode cX6_choose 9 = .ok (.iload_n 0, 1) := by decide +kernel
theorem dX6_choose_10 : decode cX6_choose 10 = .ok (.iload_n 1, 1) := by decide +kernel
theorem dX6_choose_11 : decode cX6_choose 11 = .ok (.if_icmp .ge 5, 3) := by decide +kernel
theorem dX6_choose_14 : decode cX6_choose 14 = .ok (.iconst 0, 1) := by decide +kernel
theorem dX6_choose_15 : decode cX6_choose 15 = .ok (.ireturn, 1) := by decide +kernel
theorem dX6_choose_16 : decode cX6_choose 16 = .ok (.lconst 1, 1) := by decide +kernel
theorem dX6_choose_17 : decode cX6_choose 17 = .ok (.lstore_n 2, 1) := by decide +kernel
theorem dX6_choose_18 : decode cX6_choose 18 = .ok (.iconst 1, 1) := by decide +kernel
theorem dX6_choose_19 : decode cX6_choose 19 = .ok (.istore 4, 2) := by decide +kernel
theorem dX6_choose_21 : decode cX6_choose 21 = .ok (.iload 4, 2) := by decide +kernel
theorem dX6_choose_23 : decode cX6_choose 23 = .ok (.iload_n 1, 1) := by decide +kernel
theorem dX6_choose_24 : decode cX6_choose 24 = .ok (.if_icmp .gt 23, 3) := by decide +kernel
theorem dX6_choose_27 : decode cX6_choose 27 = .ok (.lload_n 2, 1) := by decide +kernel
theorem dX6_choose_28 : decode cX6_choose 28 = .ok (.iload_n 0, 1) := by decide +kernel
theorem dX6_choose_29 : decode cX6_choose 29 = .ok (.iload_n 1, 1) := by decide +kernel
theorem dX6_choose_30 : decode cX6_choose 30 = .ok (.isub, 1) := by decide +kernel
theorem dX6_choose_31 : decode cX6_choose 31 = .ok (.iload 4, 2) := by decide +kernel
theorem dX6_choose_33 : decode cX6_choose 33 = .ok (.iadd, 1) := by decide +kernel
theorem dX6_choose_34 : decode cX6_choose 34 = .ok (.i2l, 1) := by decide +kernel
theorem dX6_choose_35 : decode cX6_choose 35 = .ok (.lmul, 1) := by decide +kernel
theorem dX6_choose_36 : decode cX6_choose 36 = .ok (.iload 4, 2) := by decide +kernel
theorem dX6_choose_38 : decode cX6_choose 38 = .ok (.i2l, 1) := by decide +kernel
theorem dX6_choose_39 : decode cX6_choose 39 = .ok (.ldiv, 1) := by decide +kernel
theorem dX6_choose_40 : decode cX6_choose 40 = .ok (.lstore_n 2, 1) := by decide +kernel
theorem dX6_choose_41 : decode cX6_choose 41 = .ok (.iinc 4 1, 3) := by decide +kernel
theorem dX6_choose_44 : decode cX6_choose 44 = .ok (.goto (-23), 3) := by decide +kernel
theorem dX6_choose_47 : decode cX6_choose 47 = .ok (.lload_n 2, 1) := by decide +kernel
theorem dX6_choose_48 : decode cX6_choose 48 = .ok (.l2i, 1) := by decide +kernel
theorem dX6_choose_49 : decode cX6_choose 49 = .ok (.ireturn, 1) := by decide +kernel
theorem dX6_commonDivisor_0 : decode cX6_commonDivisor 0 = .ok (.iload_n 0, 1) := by decide +kernel
theorem dX6_commonDivisor_1 : decode cX6_commonDivisor 1 = .ok (.invokestatic 289, 3) := by decide +kernel
theorem dX6_commonDivisor_4 : decode cX6_commonDivisor 4 = .ok (.istore_n 2, 1) := by decide +kernel
theorem dX6_commonDivisor_5 : decode cX6_commonDivisor 5 = .ok (.iload_n 1, 1) := by decide +kernel
theorem dX6_commonDivisor_6 : decode cX6_commonDivisor 6 = .ok (.invokestatic 289, 3) := by decide +kernel
theorem dX6_commonDivisor_9 : decode cX6_commonDivisor 9 = .ok (.istore_n 3, 1) := by decide +kernel
theorem dX6_commonDivisor_10 : decode cX6_commonDivisor 10 = .ok (.iconst 0, 1) := by decide +kernel
theorem dX6_commonDivisor_11 : decode cX6_commonDivisor 11 = .ok (.istore 4, 2) := by decide +kernel
theorem dX6_commonDivisor_13 : decode cX6_commonDivisor 13 = .ok (.iload 4, 2) := by decide +kernel
theorem dX6_commonDivisor_15 : decode cX6_commonDivisor 15 = .ok (.bipush 50, 2) := by decide +kernel
theorem dX6_commonDivisor_17 : decode cX6_commonDivisor 17 = .ok (.if_icmp .ge 23, 3) := by decide +kernel
theorem dX6_commonDivisor_20 : decode cX6_commonDivisor 20 = .ok (.iload_n 3, 1) := by decide +kernel
theorem dX6_commonDivisor_21 : decode cX6_commonDivisor 21 = .ok (.ifCond .eq 19, 3) := by decide +kernel
theorem dX6_commonDivisor_24 : decode cX6_commonDivisor 24 = .ok (.iload_n 2, 1) := by decide +kernel
theorem dX6_commonDivisor_25 : decode cX6_commonDivisor 25 = .ok (.iload_n 3, 1) := by decide +kernel
theorem dX6_commonDivisor_26 : decode cX6_commonDivisor 26 = .ok (.irem, 1) := by decide +kernel
theorem dX6_commonDivisor_27 : decode cX6_commonDivisor 27 = .ok (.istore 5, 2) := by decide +kernel
theorem dX6_commonDivisor_29 : decode cX6_commonDivisor 29 = .ok (.iload_n 3, 1) := by decide +kernel
theorem dX6_commonDivisor_30 : decode cX6_commonDivisor 30 = .ok (.istore_n 2, 1) := by decide +kernel
theorem dX6_commonDivisor_31 : decode cX6_commonDivisor 31 = .ok (.iload 5, 2) := by decide +kernel
theorem dX6_commonDivisor_33 : decode cX6_commonDivisor 33 = .ok (.istore_n 3, 1) := by decide +kernel
theorem dX6_commonDivisor_34 : decode cX6_commonDivisor 34 = .ok (.iinc 4 1, 3) := by decide +kernel
theorem dX6_commonDivisor_37 : decode cX6_commonDivisor 37 = .ok (.goto (-24), 3) := by decide +kernel
theorem dX6_commonDivisor_40 : decode cX6_commonDivisor 40 = .ok (.iload_n 2, 1) := by decide +kernel
theorem dX6_commonDivisor_41 : decode cX6_commonDivisor 41 = .ok (.ireturn, 1) := by decide +kernel
theorem dX7_init_0 : decode cX7_init 0 = .ok (.aload_n 0, 1) := by decide +kernel
theorem dX7_init_1 : decode cX7_init 1 = .ok (.invokespecial 1, 3) := by decide +kernel
theorem dX7_init_4 : decode cX7_init 4 = .ok (.aload_n 0, 1) := by decide +kernel
theorem dX7_init_5 : decode cX7_init 5 = .ok (.bipush 6, 2) := by decide +kernel
theorem dX7_init_7 : decode cX7_init 7 = .ok (.newarray .int, 2) := by decide +kernel
theorem dX7_init_9 : decode cX7_init 9 = .ok (.putfield 7, 3) := by decide +kernel
theorem dX7_init_12 : decode cX7_init 12 = .ok (.aload_n 0, 1) := by decide +kernel
theorem dX7_init_13 : decode cX7_init 13 = .ok (.bipush 6, 2) := by decide +kernel
theorem dX7_init_15 : decode cX7_init 15 = .ok (.newarray .int, 2) := by decide +kernel
theorem dX7_init_17 : decode cX7_init 17 = .ok (.putfield 13, 3) := by decide +kernel
theorem dX7_init_20 : decode cX7_init 20 = .ok (.aload_n 0, 1) := by decide +kernel
theorem dX7_init_21 : decode cX7_init 21 = .ok (.bipush 6, 2) := by decide +kernel
theorem dX7_init_23 : decode cX7_init 23 = .ok (.newarray .int, 2) := by decide +kernel
theorem dX7_init_25 : decode cX7_init 25 = .ok (.putfield 16, 3) := by decide +kernel
theorem dX7_init_28 : decode cX7_init 28 = .ok (.aload_n 0, 1) := by decide +kernel
theorem dX7_init_29 : decode cX7_init 29 = .ok (.bipush 6, 2) := by decide +kernel
theorem dX7_init_31 : decode cX7_init 31 = .ok (.newarray .int, 2) := by decide +kernel
theorem dX7_init_33 : decode cX7_init 33 = .ok (.putfield 19, 3) := by decide +kernel
theorem dX7_init_36 : decode cX7_init 36 = .ok (.aload_n 0, 1) := by decide +kernel
theorem dX7_init_37 : decode cX7_init 37 = .ok (.bipush 6, 2) := by decide +kernel
theorem dX7_init_39 : decode cX7_init 39 = .ok (.newarray .int, 2) := by decide +kernel
theorem dX7_init_41 : decode cX7_init 41 = .ok (.putfield 22, 3) := by decide +kernel
theorem dX7_init_44 : decode cX7_init 44 = .ok (.aload_n 0, 1) := by decide +kernel
theorem dX7_init_45 : decode cX7_init 45 = .ok (.iconst 4, 1) := by decide +kernel
theorem dX7_init_46 : decode cX7_init 46 = .ok (.putfield 25, 3) := by decide +kernel
theorem dX7_init_49 : decode cX7_init 49 = .ok (.aload_n 0, 1) := by decide +kernel
theorem dX7_init_50 : decode cX7_init 50 = .ok (.bipush 31, 2) := by decide +kernel
theorem dX7_init_52 : decode cX7_init 52 = .ok (.newarray .int, 2) := by decide +kernel
theorem dX7_init_54 : decode cX7_init 54 = .ok (.putfield 29, 3) := by decide +kernel
theorem dX7_init_57 : decode cX7_init 57 = .ok (.aload_n 0, 1) := by decide +kernel
theorem dX7_init_58 : decode cX7_init 58 = .ok (.sipush 310, 3) := by decide +kernel
theorem dX7_init_61 : decode cX7_init 61 = .ok (.newarray .int, 2) := by decide +kernel
theorem dX7_init_63 : decode cX7_init 63 = .ok (.putfield 32, 3) := by decide +kernel
theorem dX7_init_66 : decode cX7_init 66 = .ok (.aload_n 0, 1) := by decide +kernel
theorem dX7_init_67 : decode cX7_init 67 = .ok (.bipush 18, 2) := by decide +kernel
theorem dX7_init_69 : decode cX7_init 69 = .ok (.newarray .int, 2) := by decide +kernel
theorem dX7_init_71 : decode cX7_init 71 = .ok (.putfield 35, 3) := by decide +kernel
theorem dX7_init_74 : decode cX7_init 74 = .ok (.aload_n 0, 1) := by decide +kernel
theorem dX7_init_75 : decode cX7_init 75 = .ok (.bipush 120, 2) := by decide +kernel
theorem dX7_init_77 : decode cX7_init 77 = .ok (.newarray .int, 2) := by decide +kernel
theorem dX7_init_79 : decode cX7_init 79 = .ok (.putfield 38, 3) := by decide +kernel
theorem dX7_init_82 : decode cX7_init 82 = .ok (.aload_n 0, 1) := by decide +kernel
theorem dX7_init_83 : decode cX7_init 83 = .ok (.iconst 3, 1) := by decide +kernel
theorem dX7_init_84 : decode cX7_init 84 = .ok (.newarray .int, 2) := by decide +kernel
theorem dX7_init_86 : decode cX7_init 86 = .ok (.putfield 41, 3) := by decide +kernel
theorem dX7_init_89 : decode cX7_init 89 = .ok (.aload_n 0, 1) := by decide +kernel
theorem dX7_init_90 : decode cX7_init 90 = .ok (.bipush 30, 2) := by decide +kernel
theorem dX7_init_92 : decode cX7_init 92 = .ok (.newarray .int, 2) := by decide +kernel
theorem dX7_init_94 : decode cX7_init 94 = .ok (.putfield 44, 3) := by decide +kernel
theorem dX7_init_97 : decode cX7_init 97 = .ok (.aload_n 0, 1) := by decide +kernel
theorem dX7_init_98 : decode cX7_init 98 = .ok (.bipush 31, 2) := by decide +kernel
theorem dX7_init_100 : decode cX7_init 100 = .ok (.newarray .int, 2) := by decide +kernel
theorem dX7_init_102 : decode cX7_init 102 = .ok (.putfield 47, 3) := by decide +kernel
theorem dX7_init_105 : decode cX7_init 105 = .ok (.aload_n 0, 1) := by decide +kernel
theorem dX7_init_106 : decode cX7_init 106 = .ok (.sipush 684, 3) := by decide +kernel
theorem dX7_init_109 : decode cX7_init 109 = .ok (.newarray .int, 2) := by decide +kernel
theorem dX7_init_111 : decode cX7_init 111 = .ok (.putfield 50, 3) := by decide +kernel
theorem dX7_init_114 : decode cX7_init 114 = .ok (.aload_n 0, 1) := by decide +kernel
theorem dX7_init_115 : decode cX7_init 115 = .ok (.iconst 2, 1) := by decide +kernel
theorem dX7_init_116 : decode cX7_init 116 = .ok (.newarray .int, 2) := by decide +kernel
theorem dX7_init_118 : decode cX7_init 118 = .ok (.putfield 53, 3) := by decide +kernel
theorem dX7_init_121 : decode cX7_init 121 = .ok (.aload_n 0, 1) := by decide +kernel
theorem dX7_init_122 : decode cX7_init 122 = .ok (.getfield 41, 3) := by decide +kernel
theorem dX7_init_125 : decode cX7_init 125 = .ok (.iconst 0, 1) := by decide +kernel
theorem dX7_init_126 : decode cX7_init 126 = .ok (.bipush 20, 2) := by decide +kernel
theorem dX7_init_128 : decode cX7_init 128 = .ok (.iastore, 1) := by decide +kernel
theorem dX7_init_129 : decode cX7_init 129 = .ok (.aload_n 0, 1) := by decide +kernel
theorem dX7_init_130 : decode cX7_init 130 = .ok (.getfield 41, 3) := by decide +kernel
theorem dX7_init_133 : decode cX7_init 133 = .ok (.iconst 1, 1) := by decide +kernel
theorem dX7_init_134 : decode cX7_init 134 = .ok (.bipush 20, 2) := by decide +kernel
theorem dX7_init_136 : decode cX7_init 136 = .ok (.iastore, 1) := by decide +kernel
theorem dX7_init_137 : decode cX7_init 137 = .ok (.aload_n 0, 1) := by decide +kernel
theorem dX7_init_138 : decode cX7_init 138 = .ok (.getfield 41, 3) := by decide +kernel
theorem dX7_init_141 : decode cX7_init 141 = .ok (.iconst 2, 1) := by decide +kernel
theorem dX7_init_142 : decode cX7_init 142 = .ok (.bipush 20, 2) := by decide +kernel
theorem dX7_init_144 : decode cX7_init 144 = .ok (.iastore, 1) := by decide +kernel
theorem dX7_init_145 : decode cX7_init 145 = .ok (.aload_n 0, 1) := by decide +kernel
theorem dX7_init_146 : decode cX7_init 146 = .ok (.sipush 200, 3) := by decide +kernel
theorem dX7_init_149 : decode cX7_init 149 = .ok (.putfield 56, 3) := by decide +kernel
theorem dX7_init_152 : decode cX7_init 152 = .ok (.aload_n 0, 1) := by decide +kernel
theorem dX7_init_153 : decode cX7_init 153 = .ok (.invokevirtual 59, 3) := by decide +kernel
theorem dX7_init_156 : decode cX7_init 156 = .ok (.return_, 1) := by decide +kernel
theorem dX7_in_0 : decode cX7_in 0 = .ok (.lload_n 0, 1) := by decide +kernel
theorem dX7_in_1 : decode cX7_in 1 = .ok (.lload_n 2, 1) := by decide +kernel
theorem dX7_in_2 : decode cX7_in 2 = .ok (.lcmp, 1) := by decide +kernel
theorem dX7_in_3 : decode cX7_in 3 = .ok (.ifCond .lt 14, 3) := by decide +kernel
theorem dX7_in_6 : decode cX7_in 6 = .ok (.lload_n 0, 1) := by decide +kernel
theorem dX7_in_7 : decode cX7_in 7 = .ok (.lload 4, 2) := by decide +kernel
theorem dX7_in_9 : decode cX7_in 9 = .ok (.lcmp, 1) := by decide +kernel
theorem dX7_in_10 : decode cX7_in 10 = .ok (.ifCond .gt 7, 3) := by decide +kernel
theorem dX7_in_13 : decode cX7_in 13 = .ok (.iconst 1, 1) := by decide +kernel
theorem dX7_in_14 : decode cX7_in 14 = .ok (.goto 4, 3) := by decide +kernel
theorem dX7_in_17 : decode cX7_in 17 = .ok (.iconst 0, 1) := by decide +kernel
theorem dX7_in_18 : decode cX7_in 18 = .ok (.ireturn, 1) := by decide +kernel
theorem dX7_isPart_0 : decode cX7_isPart 0 = .ok (.iload_n 0, 1) := by decide +kernel
theorem dX7_isPart_1 : decode cX7_isPart 1 = .ok (.i2l, 1) := by decide +kernel
theorem dX7_isPart_2 : decode cX7_isPart 2 = .ok (.lconst 0, 1) := by decide +kernel
theorem dX7_isPart_3 : decode cX7_isPart 3 = .ok (.lconst 1, 1) := by decide +kernel
theorem dX7_isPart_4 : decode cX7_isPart 4 = .ok (.invokestatic 62, 3) := by decide +kernel
theorem dX7_isPart_7 : decode cX7_isPart 7 = .ok (.ireturn, 1) := by decide +kernel
theorem dX7_isJob_0 : decode cX7_isJob 0 = .ok (.iload_n 1, 1) := by decide +kernel
theorem dX7_isJob_1 : decode cX7_isJob 1 = .ok (.i2l, 1) := by decide +kernel
theorem dX7_isJob_2 : decode cX7_isJob 2 = .ok (.lconst 0, 1) := by decide +kernel
theorem dX7_isJob_3 : decode cX7_isJob 3 = .ok (.aload_n 0, 1) := by decide +kernel
theorem dX7_isJob_4 : decode cX7_isJob 4 = .ok (.getfield 66, 3) := by decide +kernel
theorem dX7_isJob_7 : decode cX7_isJob 7 = .ok (.iconst 1, 1) := by decide +kernel
theorem dX7_isJob_8 : decode cX7_isJob 8 = .ok (.isub, 1) := by decide +kernel
theorem dX7_isJob_9 : decode cX7_isJob 9 = .ok (.i2l, 1) := by decide +kernel
theorem dX7_isJob_10 : decode cX7_isJob 10 = .ok (.invokestatic 62, 3) := by decide +kernel
theorem dX7_isJob_13 : decode cX7_isJob 13 = .ok (.ireturn, 1) := by decide +kernel
theorem dX7_type_0 : decode cX7_type 0 = .ok (.iload_n 1, 1) := by decide +kernel
theorem dX7_type_1 : decode cX7_type 1 = .ok (.i2l, 1) := by decide +kernel
theorem dX7_type_2 : decode cX7_type 2 = .ok (.lconst 0, 1) := by decide +kernel
theorem dX7_type_3 : decode cX7_type 3 = .ok (.ldc2_w 69, 3) := by decide +kernel
theorem dX7_type_6 : decode cX7_type 6 = .ok (.invokestatic 62, 3) := by decide +kernel
theorem dX7_type_9 : decode cX7_type 9 = .ok (.ifCond .ne 5, 3) := by decide +kernel
theorem dX7_type_12 : decode cX7_type 12 = .ok (.iconst (-1), 1) := by decide +kernel
theorem dX7_type_13 : decode cX7_type 13 = .ok (.ireturn, 1) := by decide +kernel
theorem dX7_type_14 : decode cX7_type 14 = .ok (.aload_n 0, 1) := by decide +kernel
theorem dX7_type_15 : decode cX7_type 15 = .ok (.getfield 71, 3) := by decide +kernel
theorem dX7_type_18 : decode cX7_type 18 = .ok (.bipush 120, 2) := by decide +kernel
theorem dX7_type_20 : decode cX7_type 20 = .ok (.if_icmp .ne 6, 3) := by decide +kernel
theorem dX7_type_23 : decode cX7_type 23 = .ok (.bipush (-3), 2) := by decide +kernel
theorem dX7_type_25 : decode cX7_type 25 = .ok (.ireturn, 1) := by decide +kernel
theorem dX7_type_26 : decode cX7_type 26 = .ok (.aload_n 0, 1) := by decide +kernel
theorem dX7_type_27 : decode cX7_type 27 = .ok (.getfield 38, 3) := by decide +kernel
theorem dX7_type_30 : decode cX7_type 30 = .ok (.aload_n 0, 1) := by decide +kernel
theorem dX7_type_31 : decode cX7_type 31 = .ok (.getfield 71, 3) := by decide +kernel
theorem dX7_type_34 : decode cX7_type 34 = .ok (.iload_n 1, 1) := by decide +kernel
theorem dX7_type_35 : decode cX7_type 35 = .ok (.iastore, 1) := by decide +kernel
theorem dX7_type_36 : decode cX7_type 36 = .ok (.aload_n 0, 1) := by decide +kernel
theorem dX7_type_37 : decode cX7_type 37 = .ok (.dup, 1) := by decide +kernel
theorem dX7_type_38 : decode cX7_type 38 = .ok (.getfield 71, 3) := by decide +kernel
theorem dX7_type_41 : decode cX7_type 41 = .ok (.iconst 1, 1) := by decide +kernel
theorem dX7_type_42 : decode cX7_type 42 = .ok (.iadd, 1) := by decide +kernel
theorem dX7_type_43 : decode cX7_type 43 = .ok (.putfield 71, 3) := by decide +kernel
theorem dX7_type_46 : decode cX7_type 46 = .ok (.aload_n 0, 1) := by decide +kernel
theorem dX7_type_47 : decode cX7_type 47 = .ok (.getfield 71, 3) := by decide +kernel
theorem dX7_type_50 : decode cX7_type 50 = .ok (.ireturn, 1) := by decide +kernel
theorem dX7_clear_0 : decode cX7_clear 0 = .ok (.aload_n 0, 1) := by decide +kernel
theorem dX7_clear_1 : decode cX7_clear 1 = .ok (.getfield 71, 3) := by decide +kernel
theorem dX7_clear_4 : decode cX7_clear 4 = .ok (.istore_n 1, 1) := by decide +kernel
theorem dX7_clear_5 : decode cX7_clear 5 = .ok (.aload_n 0, 1) := by decide +kernel
theorem dX7_clear_6 : decode cX7_clear 6 = .ok (.iconst 0, 1) := by decide +kernel
theorem dX7_clear_7 : decode cX7_clear 7 = .ok (.putfield 71, 3) := by decide +kernel
theorem dX7_clear_10 : decode cX7_clear 10 = .ok (.iload_n 1, 1) := by decide +kernel
theorem dX7_clear_11 : decode cX7_clear 11 = .ok (.ireturn, 1) := by decide +kernel
theorem dX7_letter_0 : decode cX7_letter 0 = .ok (.aload_n 0, 1) := by decide +kernel
theorem dX7_letter_1 : decode cX7_letter 1 = .ok (.getfield 74, 3) := by decide +kernel
theorem dX7_letter_4 : decode cX7_letter 4 = .ok (.aload_n 0, 1) := by decide +kernel
theorem dX7_letter_5 : decode cX7_letter 5 = .ok (.getfield 71, 3) := by decide +kernel
theorem dX7_letter_8 : decode cX7_letter 8 = .ok (.if_icmp .ge 15, 3) := by decide +kernel
theorem dX7_letter_11 : decode cX7_letter 11 = .ok (.aload_n 0, 1) := by decide +kernel
theorem dX7_letter_12 : decode cX7_letter 12 = .ok (.getfield 38, 3) := by decide +kernel
theorem dX7_letter_15 : decode cX7_letter 15 = .ok (.aload_n 0, 1) := by decide +kernel
theorem dX7_letter_16 : decode cX7_letter 16 = .ok (.getfield 74, 3) := by decide +kernel
theorem dX7_letter_19 : decode cX7_letter 19 = .ok (.iaload, 1) := by decide +kernel
theorem dX7_letter_20 : decode cX7_letter 20 = .ok (.goto 4, 3) := by decide +kernel
theorem dX7_letter_23 : decode cX7_letter 23 = .ok (.iconst (-1), 1) := by decide +kernel
theorem dX7_letter_24 : decode cX7_letter 24 = .ok (.ireturn, 1) := by decide +kernel
theorem dX7_readNumber_0 : decode cX7_readNumber 0 = .ok (.aload_n 0, 1) := by decide +kernel
theorem dX7_readNumber_1 : decode cX7_readNumber 1 = .ok (.iconst 0, 1) := by decide +kernel
theorem dX7_readNumber_2 : decode cX7_readNumber 2 = .ok (.putfield 77, 3) := by decide +kernel
theorem dX7_readNumber_5 : decode cX7_readNumber 5 = .ok (.aload_n 0, 1) := by decide +kernel
theorem dX7_readNumber_6 : decode cX7_readNumber 6 = .ok (.invokevirtual 80, 3) := by decide +kernel
theorem dX7_readNumber_9 : decode cX7_readNumber 9 = .ok (.i2l, 1) := by decide +kernel
theorem dX7_readNumber_10 : decode cX7_readNumber 10 = .ok (.ldc2_w 84, 3) := by decide +kernel
theorem dX7_readNumber_13 : decode cX7_readNumber 13 = .ok (.ldc2_w 86, 3) := by decide +kernel
theorem dX7_readNumber_16 : decode cX7_readNumber 16 = .ok (.invokestatic 62, 3) := by decide +kernel
theorem dX7_readNumber_19 : decode cX7_readNumber 19 = .ok (.ifCond .eq 52, 3) := by decide +kernel
theorem dX7_readNumber_22 : decode cX7_readNumber 22 = .ok (.aload_n 0, 1) := by decide +kernel
theorem dX7_readNumber_23 : decode cX7_readNumber 23 = .ok (.aload_n 0, 1) := by decide +kernel
theorem dX7_readNumber_24 : decode cX7_readNumber 24 = .ok (.getfield 77, 3) := by decide +kernel
theorem dX7_readNumber_27 : decode cX7_readNumber 27 = .ok (.sipush 1000, 3) := by decide +kernel
theorem dX7_readNumber_30 : decode cX7_readNumber 30 = .ok (.if_icmp .ge 21, 3) := by decide +kernel
theorem dX7_readNumber_33 : decode cX7_readNumber 33 = .ok (.bipush 10, 2) := by decide +kernel
theorem dX7_readNumber_35 : decode cX7_readNumber 35 = .ok (.aload_n 0, 1) := by decide +kernel
theorem dX7_readNumber_36 : decode cX7_readNumber 36 = .ok (.getfield 77, 3) := by decide +kernel
theorem dX7_readNumber_39 : decode cX7_readNumber 39 = .ok (.imul, 1) := by decide +kernel
theorem dX7_readNumber_40 : decode cX7_readNumber 40 = .ok (.aload_n 0, 1) := by decide +kernel
theorem dX7_readNumber_41 : decode cX7_readNumber 41 = .ok (.invokevirtual 80, 3) := by decide +kernel
theorem dX7_readNumber_44 : decode cX7_readNumber 44 = .ok (.iadd, 1) := by decide +kernel
theorem dX7_readNumber_45 : decode cX7_readNumber 45 = .ok (.bipush 48, 2) := by decide +kernel
theorem dX7_readNumber_47 : decode cX7_readNumber 47 = .ok (.isub, 1) := by decide +kernel
theorem dX7_readNumber_48 : decode cX7_readNumber 48 = .ok (.goto 7, 3) := by decide +kernel
theorem dX7_readNumber_51 : decode cX7_readNumber 51 = .ok (.aload_n 0, 1) := by decide +kernel
theorem dX7_readNumber_52 : decode cX7_readNumber 52 = .ok (.getfield 77, 3) := by decide +kernel
theorem dX7_readNumber_55 : decode cX7_readNumber 55 = .ok (.putfield 77, 3) := by decide +kernel
theorem dX7_readNumber_58 : decode cX7_readNumber 58 = .ok (.aload_n 0, 1) := by decide +kernel
theorem dX7_readNumber_59 : decode cX7_readNumber 59 = .ok (.dup, 1) := by decide +kernel
theorem dX7_readNumber_60 : decode cX7_readNumber 60 = .ok (.getfield 74, 3) := by decide +kernel
theorem dX7_readNumber_63 : decode cX7_readNumber 63 = .ok (.iconst 1, 1) := by decide +kernel
theorem dX7_readNumber_64 : decode cX7_readNumber 64 = .ok (.iadd, 1) := by decide +kernel
theorem dX7_readNumber_65 : decode cX7_readNumber 65 = .ok (.putfield 74, 3) := by decide +kernel
theorem dX7_readNumber_68 : decode cX7_readNumber 68 = .ok (.goto (-63), 3) := by decide +kernel
theorem dX7_readNumber_71 : decode cX7_readNumber 71 = .ok (.aload_n 0, 1) := by decide +kernel
theorem dX7_readNumber_72 : decode cX7_readNumber 72 = .ok (.aload_n 0, 1) := by decide +kernel
theorem dX7_readNumber_73 : decode cX7_readNumber 73 = .ok (.getfield 77, 3) := by decide +kernel
theorem dX7_readNumber_76 : decode cX7_readNumber 76 = .ok (.sipush 999, 3) := by decide +kernel
theorem dX7_readNumber_79 : decode cX7_readNumber 79 = .ok (.if_icmp .gt 30, 3) := by decide +kernel
theorem dX7_readNumber_82 : decode cX7_readNumber 82 = .ok (.aload_n 0, 1) := by decide +kernel
theorem dX7_readNumber_83 : decode cX7_readNumber 83 = .ok (.getfield 74, 3) := by decide +kernel
theorem dX7_readNumber_86 : decode cX7_readNumber 86 = .ok (.aload_n 0, 1) := by decide +kernel
theorem dX7_readNumber_87 : decode cX7_readNumber 87 = .ok (.getfield 88, 3) := by decide +kernel
theorem dX7_readNumber_90 : decode cX7_readNumber 90 = .ok (.iconst 1, 1) := by decide +kernel
theorem dX7_readNumber_91 : decode cX7_readNumber 91 = .ok (.iadd, 1) := by decide +kernel
theorem dX7_readNumber_92 : decode cX7_readNumber 92 = .ok (.if_icmp .le 21, 3) := by decide +kernel
theorem dX7_readNumber_95 : decode cX7_readNumber 95 = .ok (.aload_n 0, 1) := by decide +kernel
theorem dX7_readNumber_96 : decode cX7_readNumber 96 = .ok (.getfield 38, 3) := by decide +kernel
theorem dX7_readNumber_99 : decode cX7_readNumber 99 = .ok (.aload_n 0, 1) := by decide +kernel
theorem dX7_readNumber_100 : decode cX7_readNumber 100 = .ok (.getfield 88, 3) := by decide +kernel
theorem dX7_readNumber_103 : decode cX7_readNumber 103 = .ok (.iaload, 1) := by decide +kernel
theorem dX7_readNumber_104 : decode cX7_readNumber 104 = .ok (.bipush 48, 2) := by decide +kernel
theorem dX7_readNumber_106 : decode cX7_readNumber 106 = .ok (.if_icmp .ne 7, 3) := by decide +kernel
theorem dX7_readNumber_109 : decode cX7_readNumber 109 = .ok (.iconst (-1), 1) := by decide +kernel
theorem dX7_readNumber_110 : decode cX7_readNumber 110 = .ok (.goto 4, 3) := by decide +kernel
theorem dX7_readNumber_113 : decode cX7_readNumber 113 = .ok (.iconst 2, 1) := by decide +kernel
theorem dX7_readNumber_114 : decode cX7_readNumber 114 = .ok (.putfield 91, 3) := by decide +kernel
theorem dX7_readNumber_117 : decode cX7_readNumber 117 = .ok (.return_, 1) := by decide +kernel
theorem dX7_readLetters_0 : decode cX7_readLetters 0 = .ok (.aload_n 0, 1) := by decide +kernel
theorem dX7_readLetters_1 : decode cX7_readLetters 1 = .ok (.aload_n 0, 1) := by decide +kernel
theorem dX7_readLetters_2 : decode cX7_readLetters 2 = .ok (.invokevirtual 80, 3) := by decide +kernel
theorem dX7_readLetters_5 : decode cX7_readLetters 5 = .ok (.putfield 77, 3) := by decide +kernel
theorem dX7_readLetters_8 : decode cX7_readLetters 8 = .ok (.aload_n 0, 1) := by decide +kernel
theorem dX7_readLetters_9 : decode cX7_readLetters 9 = .ok (.invokevirtual 80, 3) := by decide +kernel
theorem dX7_readLetters_12 : decode cX7_readLetters 12 = .ok (.i2l, 1) := by decide +kernel
theorem dX7_readLetters_13 : decode cX7_readLetters 13 = .ok (.ldc2_w 94, 3) := by decide +kernel
theorem dX7_readLetters_16 : decode cX7_readLetters 16 = .ok (.ldc2_w 96, 3) := by decide +kernel
theorem dX7_readLetters_19 : decode cX7_readLetters 19 = .ok (.invokestatic 62, 3) := by decide +kernel
theorem dX7_readLetters_22 : decode cX7_readLetters 22 = .ok (.ifCond .eq 16, 3) := by decide +kernel
theorem dX7_readLetters_25 : decode cX7_readLetters 25 = .ok (.aload_n 0, 1) := by decide +kernel
theorem dX7_readLetters_26 : decode cX7_readLetters 26 = .ok (.dup, 1) := by decide +kernel
theorem dX7_readLetters_27 : decode cX7_readLetters 27 = .ok (.getfield 74, 3) := by decide +kernel
theorem dX7_readLetters_30 : decode cX7_readLetters 30 = .ok (.iconst 1, 1) := by decide +kernel
theorem dX7_readLetters_31 : decode cX7_readLetters 31 = .ok (.iadd, 1) := by decide +kernel
theorem dX7_readLetters_32 : decode cX7_readLetters 32 = .ok (.putfield 74, 3) := by decide +kernel
theorem dX7_readLetters_35 : decode cX7_readLetters 35 = .ok (.goto (-27), 3) := by decide +kernel
theorem dX7_readLetters_38 : decode cX7_readLetters 38 = .ok (.aload_n 0, 1) := by decide +kernel
theorem dX7_readLetters_39 : decode cX7_readLetters 39 = .ok (.aload_n 0, 1) := by decide +kernel
theorem dX7_readLetters_40 : decode cX7_readLetters 40 = .ok (.getfield 74, 3) := by decide +kernel
theorem dX7_readLetters_43 : decode cX7_readLetters 43 = .ok (.aload_n 0, 1) := by decide +kernel
theorem dX7_readLetters_44 : decode cX7_readLetters 44 = .ok (.getfield 88, 3) := by decide +kernel
theorem dX7_readLetters_47 : decode cX7_readLetters 47 = .ok (.iconst 1, 1) := by decide +kernel
theorem dX7_readLetters_48 : decode cX7_readLetters 48 = .ok (.iadd, 1) := by decide +kernel
theorem dX7_readLetters_49 : decode cX7_readLetters 49 = .ok (.if_icmp .le 7, 3) := by decide +kernel
theorem dX7_readLetters_52 : decode cX7_readLetters 52 = .ok (.iconst 0, 1) := by decide +kernel
theorem dX7_readLetters_53 : decode cX7_readLetters 53 = .ok (.goto 7, 3) := by decide +kernel
theorem dX7_readLetters_56 : decode cX7_readLetters 56 = .ok (.aload_n 0, 1) := by decide +kernel
theorem dX7_readLetters_57 : decode cX7_readLetters 57 = .ok (.getfield 77, 3) := by decide +kernel
theorem dX7_readLetters_60 : decode cX7_readLetters 60 = .ok (.putfield 77, 3) := by decide +kernel
theorem dX7_readLetters_63 : decode cX7_readLetters 63 = .ok (.aload_n 0, 1) := by decide +kernel
theorem dX7_readLetters_64 : decode cX7_readLetters 64 = .ok (.iconst 1, 1) := by decide +kernel
theorem dX7_readLetters_65 : decode cX7_readLetters 65 = .ok (.putfield 91, 3) := by decide +kernel
theorem dX7_readLetters_68 : decode cX7_readLetters 68 = .ok (.return_, 1) := by decide +kernel
theorem dX7_next_0 : decode cX7_next 0 = .ok (.aload_n 0, 1) := by decide +kernel
theorem dX7_next_1 : decode cX7_next 1 = .ok (.invokevirtual 80, 3) := by decide +kernel
theorem dX7_next_4 : decode cX7_next 4 = .ok (.bipush 32, 2) := by decide +kernel
theorem dX7_next_6 : decode cX7_next 6 = .ok (.if_icmp .ne 16, 3) := by decide +kernel
theorem dX7_next_9 : decode cX7_next 9 = .ok (.aload_n 0, 1) := by decide +kernel
theorem dX7_next_10 : decode cX7_next 10 = .ok (.dup, 1) := by decide +kernel
theorem dX7_next_11 : decode cX7_next 11 = .ok (.getfield 74, 3) := by decide +kernel
theorem dX7_next_14 : decode cX7_next 14 = .ok (.iconst 1, 1) := by decide +kernel
theorem dX7_next_15 : decode cX7_next 15 = .ok (.iadd, 1) := by decide +kernel
theorem dX7_next_16 : decode cX7_next 16 = .ok (.putfield 74, 3) := by decide +kernel
theorem dX7_next_19 : decode cX7_next 19 = .ok (.goto (-19), 3) := by decide +kernel
theorem dX7_next_22 : decode cX7_next 22 = .ok (.aload_n 0, 1) := by decide +kernel
theorem dX7_next_23 : decode cX7_next 23 = .ok (.aload_n 0, 1) := by decide +kernel
theorem dX7_next_24 : decode cX7_next 24 = .ok (.getfield 74, 3) := by decide +kernel
theorem dX7_next_27 : decode cX7_next 27 = .ok (.putfield 88, 3) := by decide +kernel
theorem dX7_next_30 : decode cX7_next 30 = .ok (.aload_n 0, 1) := by decide +kernel
theorem dX7_next_31 : decode cX7_next 31 = .ok (.invokevirtual 80, 3) := by decide +kernel
theorem dX7_next_34 : decode cX7_next 34 = .ok (.istore_n 1, 1) := by decide +kernel
theorem dX7_next_35 : decode cX7_next 35 = .ok (.iload_n 1, 1) := by decide +kernel
theorem dX7_next_36 : decode cX7_next 36 = .ok (.i2l, 1) := by decide +kernel
theorem dX7_next_37 : decode cX7_next 37 = .ok (.ldc2_w 84, 3) := by decide +kernel
theorem dX7_next_40 : decode cX7_next 40 = .ok (.ldc2_w 86, 3) := by decide +kernel
theorem dX7_next_43 : decode cX7_next 43 = .ok (.invokestatic 62, 3) := by decide +kernel
theorem dX7_next_46 : decode cX7_next 46 = .ok (.ifCond .eq 10, 3) := by decide +kernel
theorem dX7_next_49 : decode cX7_next 49 = .ok (.aload_n 0, 1) := by decide +kernel
theorem dX7_next_50 : decode cX7_next 50 = .ok (.invokevirtual 98, 3) := by decide +kernel
theorem dX7_next_53 : decode cX7_next 53 = .ok (.goto 57, 3) := by decide +kernel
theorem dX7_next_56 : decode cX7_next 56 = .ok (.iload_n 1, 1) := by decide +kernel
theorem dX7_next_57 : decode cX7_next 57 = .ok (.i2l, 1) := by decide +kernel
theorem dX7_next_58 : decode cX7_next 58 = .ok (.ldc2_w 94, 3) := by decide +kernel
theorem dX7_next_61 : decode cX7_next 61 = .ok (.ldc2_w 96, 3) := by decide +kernel
theorem dX7_next_64 : decode cX7_next 64 = .ok (.invokestatic 62, 3) := by decide +kernel
theorem dX7_next_67 : decode cX7_next 67 = .ok (.ifCond .eq 10, 3) := by decide +kernel
theorem dX7_next_70 : decode cX7_next 70 = .ok (.aload_n 0, 1) := by decide +kernel
theorem dX7_next_71 : decode cX7_next 71 = .ok (.invokevirtual 101, 3) := by decide +kernel
theorem dX7_next_74 : decode cX7_next 74 = .ok (.goto 36, 3) := by decide +kernel
theorem dX7_next_77 : decode cX7_next 77 = .ok (.aload_n 0, 1) := by decide +kernel
theorem dX7_next_78 : decode cX7_next 78 = .ok (.iload_n 1, 1) := by decide +kernel
theorem dX7_next_79 : decode cX7_next 79 = .ok (.ifCond .ge 7, 3) := by decide +kernel
theorem dX7_next_82 : decode cX7_next 82 = .ok (.iconst 0, 1) := by decide +kernel
theorem dX7_next_83 : decode cX7_next 83 = .ok (.goto 14, 3) := by decide +kernel
theorem dX7_next_86 : decode cX7_next 86 = .ok (.iload_n 1, 1) := by decide +kernel
theorem dX7_next_87 : decode cX7_next 87 = .ok (.bipush 59, 2) := by decide +kernel
theorem dX7_next_89 : decode cX7_next 89 = .ok (.if_icmp .ne 7, 3) := by decide +kernel
theorem dX7_next_92 : decode cX7_next 92 = .ok (.iconst 3, 1) := by decide +kernel
theorem dX7_next_93 : decode cX7_next 93 = .ok (.goto 4, 3) := by decide +kernel
theorem dX7_next_96 : decode cX7_next 96 = .ok (.iconst (-1), 1) := by decide +kernel
theorem dX7_next_97 : decode cX7_next 97 = .ok (.putfield 91, 3) := by decide +kernel
theorem dX7_next_100 : decode cX7_next 100 = .ok (.aload_n 0, 1) := by decide +kernel
theorem dX7_next_101 : decode cX7_next 101 = .ok (.dup, 1) := by decide +kernel
theorem dX7_next_102 : decode cX7_next 102 = .ok (.getfield 74, 3) := by decide +kernel
theorem dX7_next_105 : decode cX7_next 105 = .ok (.iconst 1, 1) := by decide +kernel
theorem dX7_next_106 : decode cX7_next 106 = .ok (.iadd, 1) := by decide +kernel
theorem dX7_next_107 : decode cX7_next 107 = .ok (.putfield 74, 3) := by decide +kernel
theorem dX7_next_110 : decode cX7_next 110 = .ok (.return_, 1) := by decide +kernel
theorem dX7_takesNumber_0 : decode cX7_takesNumber 0 = .ok (.aload_n 0, 1) := by decide +kernel
theorem dX7_takesNumber_1 : decode cX7_takesNumber 1 = .ok (.invokevirtual 104, 3) := by decide +kernel
theorem dX7_takesNumber_4 : decode cX7_takesNumber 4 = .ok (.aload_n 0, 1) := by decide +kernel
theorem dX7_takesNumber_5 : decode cX7_takesNumber 5 = .ok (.getfield 91, 3) := by decide +kernel
theorem dX7_takesNumber_8 : decode cX7_takesNumber 8 = .ok (.iconst 2, 1) := by decide +kernel
theorem dX7_takesNumber_9 : decode cX7_takesNumber 9 = .ok (.if_icmp .ne 22, 3) := by decide +kernel
theorem dX7_takesNumber_12 : decode cX7_takesNumber 12 = .ok (.aload_n 0, 1) := by decide +kernel
theorem dX7_takesNumber_13 : decode cX7_takesNumber 13 = .ok (.getfield 77, 3) := by decide +kernel
theorem dX7_takesNumber_16 : decode cX7_takesNumber 16 = .ok (.i2l, 1) := by decide +kernel
theorem dX7_takesNumber_17 : decode cX7_takesNumber 17 = .ok (.iload_n 1, 1) := by decide +kernel
theorem dX7_takesNumber_18 : decode cX7_takesNumber 18 = .ok (.i2l, 1) := by decide +kernel
theorem dX7_takesNumber_19 : decode cX7_takesNumber 19 = .ok (.iload_n 2, 1) := by decide +kernel
theorem dX7_takesNumber_20 : decode cX7_takesNumber 20 = .ok (.i2l, 1) := by decide +kernel
theorem dX7_takesNumber_21 : decode cX7_takesNumber 21 = .ok (.invokestatic 62, 3) := by decide +kernel
theorem dX7_takesNumber_24 : decode cX7_takesNumber 24 = .ok (.ifCond .eq 7, 3) := by decide +kernel
theorem dX7_takesNumber_27 : decode cX7_takesNumber 27 = .ok (.iconst 1, 1) := by decide +kernel
theorem dX7_takesNumber_28 : decode cX7_takesNumber 28 = .ok (.goto 4, 3) := by decide +kernel
theorem dX7_takesNumber_31 : decode cX7_takesNumber 31 = .ok (.iconst 0, 1) := by decide +kernel
theorem dX7_takesNumber_32 : decode cX7_takesNumber 32 = .ok (.ireturn, 1) := by decide +kernel
theorem dX7_ends_0 : decode cX7_ends 0 = .ok (.aload_n 0, 1) := by decide +kernel
theorem dX7_ends_1 : decode cX7_ends 1 = .ok (.invokevirtual 104, 3) := by decide +kernel
theorem dX7_ends_4 : decode cX7_ends 4 = .ok (.aload_n 0, 1) := by decide +kernel
theorem dX7_ends_5 : decode cX7_ends 5 = .ok (.getfield 91, 3) := by decide +kernel
theorem dX7_ends_8 : decode cX7_ends 8 = .ok (.iconst 3, 1) := by decide +kernel
theorem dX7_ends_9 : decode cX7_ends 9 = .ok (.if_icmp .ne 7, 3) := by decide +kernel
theorem dX7_ends_12 : decode cX7_ends 12 = .ok (.iconst 1, 1) := by decide +kernel
theorem dX7_ends_13 : decode cX7_ends 13 = .ok (.goto 4, 3) := by decide +kernel
theorem dX7_ends_16 : decode cX7_ends 16 = .ok (.iconst 0, 1) := by decide +kernel
theorem dX7_ends_17 : decode cX7_ends 17 = .ok (.ireturn, 1) := by decide +kernel
theorem dX7_readTrays_0 : decode cX7_readTrays 0 = .ok (.iconst 1, 1) := by decide +kernel
theorem dX7_readTrays_1 : decode cX7_readTrays 1 = .ok (.istore_n 1, 1) := by decide +kernel
theorem dX7_readTrays_2 : decode cX7_readTrays 2 = .ok (.iconst 0, 1) := by decide +kernel
theorem dX7_readTrays_3 : decode cX7_readTrays 3 = .ok (.istore_n 2, 1) := by decide +kernel
theorem dX7_readTrays_4 : decode cX7_readTrays 4 = .ok (.iload_n 2, 1) := by decide +kernel
theorem dX7_readTrays_5 : decode cX7_readTrays 5 = .ok (.iconst 3, 1) := by decide +kernel
theorem dX7_readTrays_6 : decode cX7_readTrays 6 = .ok (.if_icmp .ge 44, 3) := by decide +kernel
theorem dX7_readTrays_9 : decode cX7_readTrays 9 = .ok (.iload_n 1, 1) := by decide +kernel
theorem dX7_readTrays_10 : decode cX7_readTrays 10 = .ok (.ifCond .eq 40, 3) := by decide +kernel
theorem dX7_readTrays_13 : decode cX7_readTrays 13 = .ok (.aload_n 0, 1) := by decide +kernel
theorem dX7_readTrays_14 : decode cX7_readTrays 14 = .ok (.iconst 0, 1) := by decide +kernel
theorem dX7_readTrays_15 : decode cX7_readTrays 15 = .ok (.bipush 99, 2) := by decide +kernel
theorem dX7_readTrays_17 : decode cX7_readTrays 17 = .ok (.invokevirtual 107, 3) := by decide +kernel
theorem dX7_readTrays_20 : decode cX7_readTrays 20 = .ok (.istore_n 1, 1) := by decide +kernel
theorem dX7_readTrays_21 : decode cX7_readTrays 21 = .ok (.aload_n 0, 1) := by decide +kernel
theorem dX7_readTrays_22 : decode cX7_readTrays 22 = .ok (.getfield 41, 3) := by decide +kernel
theorem dX7_readTrays_25 : decode cX7_readTrays 25 = .ok (.iload_n 2, 1) := by decide +kernel
theorem dX7_readTrays_26 : decode cX7_readTrays 26 = .ok (.iload_n 1, 1) := by decide +kernel
theorem dX7_readTrays_27 : decode cX7_readTrays 27 = .ok (.ifCond .eq 10, 3) := by decide +kernel
theorem dX7_readTrays_30 : decode cX7_readTrays 30 = .ok (.aload_n 0, 1) := by decide +kernel
theorem dX7_readTrays_31 : decode cX7_readTrays 31 = .ok (.getfield 77, 3) := by decide +kernel
theorem dX7_readTrays_34 : decode cX7_readTrays 34 = .ok (.goto 9, 3) := by decide +kernel
theorem dX7_readTrays_37 : decode cX7_readTrays 37 = .ok (.aload_n 0, 1) := by decide +kernel
theorem dX7_readTrays_38 : decode cX7_readTrays 38 = .ok (.getfield 41, 3) := by decide +kernel
theorem dX7_readTrays_41 : decode cX7_readTrays 41 = .ok (.iload_n 2, 1) := by decide +kernel
theorem dX7_readTrays_42 : decode cX7_readTrays 42 = .ok (.iaload, 1) := by decide +kernel
theorem dX7_readTrays_43 : decode cX7_readTrays 43 = .ok (.iastore, 1) := by decide +kernel
theorem dX7_readTrays_44 : decode cX7_readTrays 44 = .ok (.iinc 2 1, 3) := by decide +kernel
theorem dX7_readTrays_47 : decode cX7_readTrays 47 = .ok (.goto (-43), 3) := by decide +kernel
theorem dX7_readTrays_50 : decode cX7_readTrays 50 = .ok (.iload_n 1, 1) := by decide +kernel
theorem dX7_readTrays_51 : decode cX7_readTrays 51 = .ok (.ireturn, 1) := by decide +kernel
theorem dX7_readJob_0 : decode cX7_readJob 0 = .ok (.iconst 1, 1) := by decide +kernel
theorem dX7_readJob_1 : decode cX7_readJob 1 = .ok (.istore_n 1, 1) := by decide +kernel
theorem dX7_readJob_2 : decode cX7_readJob 2 = .ok (.iconst 0, 1) := by decide +kernel
theorem dX7_readJob_3 : decode cX7_readJob 3 = .ok (.istore_n 2, 1) := by decide +kernel
theorem dX7_readJob_4 : decode cX7_readJob 4 = .ok (.iload_n 2, 1) := by decide +kernel
theorem dX7_readJob_5 : decode cX7_readJob 5 = .ok (.iconst 5, 1) := by decide +kernel
theorem dX7_readJob_6 : decode cX7_readJob 6 = .ok (.if_icmp .ge 65, 3) := by decide +kernel
theorem dX7_readJob_9 : decode cX7_readJob 9 = .ok (.iload_n 1, 1) := by decide +kernel
theorem dX7_readJob_10 : decode cX7_readJob 10 = .ok (.ifCond .eq 61, 3) := by decide +kernel
theorem dX7_readJob_13 : decode cX7_readJob 13 = .ok (.aload_n 0, 1) := by decide +kernel
theorem dX7_readJob_14 : decode cX7_readJob 14 = .ok (.iload_n 2, 1) := by decide +kernel
theorem dX7_readJob_15 : decode cX7_readJob 15 = .ok (.iconst 2, 1) := by decide +kernel
theorem dX7_readJob_16 : decode cX7_readJob 16 = .ok (.if_icmp .ge 7, 3) := by decide +kernel
theorem dX7_readJob_19 : decode cX7_readJob 19 = .ok (.iconst 1, 1) := by decide +kernel
theorem dX7_readJob_20 : decode cX7_readJob 20 = .ok (.goto 4, 3) := by decide +kernel
theorem dX7_readJob_23 : decode cX7_readJob 23 = .ok (.iconst 0, 1) := by decide +kernel
theorem dX7_readJob_24 : decode cX7_readJob 24 = .ok (.iload_n 2, 1) := by decide +kernel
theorem dX7_readJob_25 : decode cX7_readJob 25 = .ok (.iconst 2, 1) := by decide +kernel
theorem dX7_readJob_26 : decode cX7_readJob 26 = .ok (.if_icmp .ge 8, 3) := by decide +kernel
theorem dX7_readJob_29 : decode cX7_readJob 29 = .ok (.bipush 9, 2) := by decide +kernel
theorem dX7_readJob_31 : decode cX7_readJob 31 = .ok (.goto 13, 3) := by decide +kernel
theorem dX7_readJob_34 : decode cX7_readJob 34 = .ok (.iload_n 2, 1) := by decide +kernel
theorem dX7_readJob_35 : decode cX7_readJob 35 = .ok (.iconst 4, 1) := by decide +kernel
theorem dX7_readJob_36 : decode cX7_readJob 36 = .ok (.if_icmp .ne 7, 3) := by decide +kernel
theorem dX7_readJob_39 : decode cX7_readJob 39 = .ok (.iconst 2, 1) := by decide +kernel
theorem dX7_readJob_40 : decode cX7_readJob 40 = .ok (.goto 4, 3) := by decide +kernel
theorem dX7_readJob_43 : decode cX7_readJob 43 = .ok (.iconst 1, 1) := by decide +kernel
theorem dX7_readJob_44 : decode cX7_readJob 44 = .ok (.invokevirtual 107, 3) := by decide +kernel
theorem dX7_readJob_47 : decode cX7_readJob 47 = .ok (.istore_n 1, 1) := by decide +kernel
theorem dX7_readJob_48 : decode cX7_readJob 48 = .ok (.aload_n 0, 1) := by decide +kernel
theorem dX7_readJob_49 : decode cX7_readJob 49 = .ok (.getfield 44, 3) := by decide +kernel
theorem dX7_readJob_52 : decode cX7_readJob 52 = .ok (.iconst 5, 1) := by decide +kernel
theorem dX7_readJob_53 : decode cX7_readJob 53 = .ok (.aload_n 0, 1) := by decide +kernel
theorem dX7_readJob_54 : decode cX7_readJob 54 = .ok (.getfield 111, 3) := by decide +kernel
theorem dX7_readJob_57 : decode cX7_readJob 57 = .ok (.imul, 1) := by decide +kernel
theorem dX7_readJob_58 : decode cX7_readJob 58 = .ok (.iload_n 2, 1) := by decide +kernel
theorem dX7_readJob_59 : decode cX7_readJob 59 = .ok (.iadd, 1) := by decide +kernel
theorem dX7_readJob_60 : decode cX7_readJob 60 = .ok (.aload_n 0, 1) := by decide +kernel
theorem dX7_readJob_61 : decode cX7_readJob 61 = .ok (.getfield 77, 3) := by decide +kernel
theorem dX7_readJob_64 : decode cX7_readJob 64 = .ok (.iastore, 1) := by decide +kernel
theorem dX7_readJob_65 : decode cX7_readJob 65 = .ok (.iinc 2 1, 3) := by decide +kernel
theorem dX7_readJob_68 : decode cX7_readJob 68 = .ok (.goto (-64), 3) := by decide +kernel
theorem dX7_readJob_71 : decode cX7_readJob 71 = .ok (.aload_n 0, 1) := by decide +kernel
theorem dX7_readJob_72 : decode cX7_readJob 72 = .ok (.dup, 1) := by decide +kernel
theorem dX7_readJob_73 : decode cX7_readJob 73 = .ok (.getfield 111, 3) := by decide +kernel
theorem dX7_readJob_76 : decode cX7_readJob 76 = .ok (.iconst 1, 1) := by decide +kernel
theorem dX7_readJob_77 : decode cX7_readJob 77 = .ok (.iadd, 1) := by decide +kernel
theorem dX7_readJob_78 : decode cX7_readJob 78 = .ok (.putfield 111, 3) := by decide +kernel
theorem dX7_readJob_81 : decode cX7_readJob 81 = .ok (.iload_n 1, 1) := by decide +kernel
theorem dX7_readJob_82 : decode cX7_readJob 82 = .ok (.ireturn, 1) := by decide +kernel
theorem dX7_readItem_0 : decode cX7_readItem 0 = .ok (.aload_n 0, 1) := by decide +kernel
theorem dX7_readItem_1 : decode cX7_readItem 1 = .ok (.getfield 77, 3) := by decide +kernel
theorem dX7_readItem_4 : decode cX7_readItem 4 = .ok (.istore_n 1, 1) := by decide +kernel
theorem dX7_readItem_5 : decode cX7_readItem 5 = .ok (.iload_n 1, 1) := by decide +kernel
theorem dX7_readItem_6 : decode cX7_readItem 6 = .ok (.bipush 116, 2) := by decide +kernel
theorem dX7_readItem_8 : decode cX7_readItem 8 = .ok (.if_icmp .ne 7, 3) := by decide +kernel
theorem dX7_readItem_11 : decode cX7_readItem 11 = .ok (.iconst 1, 1) := by decide +kernel
theorem dX7_readItem_12 : decode cX7_readItem 12 = .ok (.goto 24, 3) := by decide +kernel
theorem dX7_readItem_15 : decode cX7_readItem 15 = .ok (.iload_n 1, 1) := by decide +kernel
theorem dX7_readItem_16 : decode cX7_readItem 16 = .ok (.bipush 107, 2) := by decide +kernel
theorem dX7_readItem_18 : decode cX7_readItem 18 = .ok (.if_icmp .ne 7, 3) := by decide +kernel
theorem dX7_readItem_21 : decode cX7_readItem 21 = .ok (.iconst 2, 1) := by decide +kernel
theorem dX7_readItem_22 : decode cX7_readItem 22 = .ok (.goto 14, 3) := by decide +kernel
theorem dX7_readItem_25 : decode cX7_readItem 25 = .ok (.iload_n 1, 1) := by decide +kernel
theorem dX7_readItem_26 : decode cX7_readItem 26 = .ok (.bipush 98, 2) := by decide +kernel
theorem dX7_readItem_28 : decode cX7_readItem 28 = .ok (.if_icmp .ne 7, 3) := by decide +kernel
theorem dX7_readItem_31 : decode cX7_readItem 31 = .ok (.iconst 4, 1) := by decide +kernel
theorem dX7_readItem_32 : decode cX7_readItem 32 = .ok (.goto 4, 3) := by decide +kernel
theorem dX7_readItem_35 : decode cX7_readItem 35 = .ok (.iconst 0, 1) := by decide +kernel
theorem dX7_readItem_36 : decode cX7_readItem 36 = .ok (.istore_n 2, 1) := by decide +kernel
theorem dX7_readItem_37 : decode cX7_readItem 37 = .ok (.aload_n 0, 1) := by decide +kernel
theorem dX7_readItem_38 : decode cX7_readItem 38 = .ok (.getfield 91, 3) := by decide +kernel
theorem dX7_readItem_41 : decode cX7_readItem 41 = .ok (.iconst 1, 1) := by decide +kernel
theorem dX7_readItem_42 : decode cX7_readItem 42 = .ok (.if_icmp .ne 37, 3) := by decide +kernel
theorem dX7_readItem_45 : decode cX7_readItem 45 = .ok (.iload_n 2, 1) := by decide +kernel
theorem dX7_readItem_46 : decode cX7_readItem 46 = .ok (.ifCond .ne 9, 3) := by decide +kernel
theorem dX7_readItem_49 : decode cX7_readItem 49 = .ok (.iload_n 1, 1) := by decide +kernel
theorem dX7_readItem_50 : decode cX7_readItem 50 = .ok (.bipush 106, 2) := by decide +kernel
theorem dX7_readItem_52 : decode cX7_readItem 52 = .ok (.if_icmp .ne 27, 3) := by decide +kernel
theorem dX7_readItem_55 : decode cX7_readItem 55 = .ok (.aload_n 0, 1) := by decide +kernel
theorem dX7_readItem_56 : decode cX7_readItem 56 = .ok (.getfield 114, 3) := by decide +kernel
theorem dX7_readItem_59 : decode cX7_readItem 59 = .ok (.iload_n 2, 1) := by decide +kernel
theorem dX7_readItem_60 : decode cX7_readItem 60 = .ok (.iand, 1) := by decide +kernel
theorem dX7_readItem_61 : decode cX7_readItem 61 = .ok (.ifCond .ne 18, 3) := by decide +kernel
theorem dX7_readItem_64 : decode cX7_readItem 64 = .ok (.iload_n 1, 1) := by decide +kernel
theorem dX7_readItem_65 : decode cX7_readItem 65 = .ok (.bipush 106, 2) := by decide +kernel
theorem dX7_readItem_67 : decode cX7_readItem 67 = .ok (.if_icmp .ne 14, 3) := by decide +kernel
theorem dX7_readItem_70 : decode cX7_readItem 70 = .ok (.aload_n 0, 1) := by decide +kernel
theorem dX7_readItem_71 : decode cX7_readItem 71 = .ok (.getfield 111, 3) := by decide +kernel
theorem dX7_readItem_74 : decode cX7_readItem 74 = .ok (.bipush 6, 2) := by decide +kernel
theorem dX7_readItem_76 : decode cX7_readItem 76 = .ok (.if_icmp .ne 5, 3) := by decide +kernel
theorem dX7_readItem_79 : decode cX7_readItem 79 = .ok (.iconst 0, 1) := by decide +kernel
theorem dX7_readItem_80 : decode cX7_readItem 80 = .ok (.ireturn, 1) := by decide +kernel
theorem dX7_readItem_81 : decode cX7_readItem 81 = .ok (.aload_n 0, 1) := by decide +kernel
theorem dX7_readItem_82 : decode cX7_readItem 82 = .ok (.dup, 1) := by decide +kernel
theorem dX7_readItem_83 : decode cX7_readItem 83 = .ok (.getfield 114, 3) := by decide +kernel
theorem dX7_readItem_86 : decode cX7_readItem 86 = .ok (.iload_n 2, 1) := by decide +kernel
theorem dX7_readItem_87 : decode cX7_readItem 87 = .ok (.ior, 1) := by decide +kernel
theorem dX7_readItem_88 : decode cX7_readItem 88 = .ok (.putfield 114, 3) := by decide +kernel
theorem dX7_readItem_91 : decode cX7_readItem 91 = .ok (.iconst 1, 1) := by decide +kernel
theorem dX7_readItem_92 : decode cX7_readItem 92 = .ok (.istore_n 3, 1) := by decide +kernel
theorem dX7_readItem_93 : decode cX7_readItem 93 = .ok (.iload_n 1, 1) := by decide +kernel
theorem dX7_readItem_94 : decode cX7_readItem 94 = .ok (.lookupswitch 81 #[(98, 62), (107, 42), (116, 34)], 34) := by decide +kernel
theorem dX7_readItem_128 : decode cX7_readItem 128 = .ok (.aload_n 0, 1) := by decide +kernel
theorem dX7_readItem_129 : decode cX7_readItem 129 = .ok (.invokevirtual 117, 3) := by decide +kernel
theorem dX7_readItem_132 : decode cX7_readItem 132 = .ok (.istore_n 3, 1) := by decide +kernel
theorem dX7_readItem_133 : decode cX7_readItem 133 = .ok (.goto 47, 3) := by decide +kernel
theorem dX7_readItem_136 : decode cX7_readItem 136 = .ok (.aload_n 0, 1) := by decide +kernel
theorem dX7_readItem_137 : decode cX7_readItem 137 = .ok (.iconst 0, 1) := by decide +kernel
theorem dX7_readItem_138 : decode cX7_readItem 138 = .ok (.sipush 999, 3) := by decide +kernel
theorem dX7_readItem_141 : decode cX7_readItem 141 = .ok (.invokevirtual 107, 3) := by decide +kernel
theorem dX7_readItem_144 : decode cX7_readItem 144 = .ok (.istore_n 3, 1) := by decide +kernel
theorem dX7_readItem_145 : decode cX7_readItem 145 = .ok (.aload_n 0, 1) := by decide +kernel
theorem dX7_readItem_146 : decode cX7_readItem 146 = .ok (.aload_n 0, 1) := by decide +kernel
theorem dX7_readItem_147 : decode cX7_readItem 147 = .ok (.getfield 77, 3) := by decide +kernel
theorem dX7_readItem_150 : decode cX7_readItem 150 = .ok (.putfield 56, 3) := by decide +kernel
theorem dX7_readItem_153 : decode cX7_readItem 153 = .ok (.goto 27, 3) := by decide +kernel
theorem dX7_readItem_156 : decode cX7_readItem 156 = .ok (.aload_n 0, 1) := by decide +kernel
theorem dX7_readItem_157 : decode cX7_readItem 157 = .ok (.iconst 1, 1) := by decide +kernel
theorem dX7_readItem_158 : decode cX7_readItem 158 = .ok (.bipush 6, 2) := by decide +kernel
theorem dX7_readItem_160 : decode cX7_readItem 160 = .ok (.invokevirtual 107, 3) := by decide +kernel
theorem dX7_readItem_163 : decode cX7_readItem 163 = .ok (.istore_n 3, 1) := by decide +kernel
theorem dX7_readItem_164 : decode cX7_readItem 164 = .ok (.aload_n 0, 1) := by decide +kernel
theorem dX7_readItem_165 : decode cX7_readItem 165 = .ok (.aload_n 0, 1) := by decide +kernel
theorem dX7_readItem_166 : decode cX7_readItem 166 = .ok (.getfield 77, 3) := by decide +kernel
theorem dX7_readItem_169 : decode cX7_readItem 169 = .ok (.putfield 121, 3) := by decide +kernel
theorem dX7_readItem_172 : decode cX7_readItem 172 = .ok (.goto 8, 3) := by decide +kernel
theorem dX7_readItem_175 : decode cX7_readItem 175 = .ok (.aload_n 0, 1) := by decide +kernel
theorem dX7_readItem_176 : decode cX7_readItem 176 = .ok (.invokevirtual 124, 3) := by decide +kernel
theorem dX7_readItem_179 : decode cX7_readItem 179 = .ok (.istore_n 3, 1) := by decide +kernel
theorem dX7_readItem_180 : decode cX7_readItem 180 = .ok (.iload_n 3, 1) := by decide +kernel
theorem dX7_readItem_181 : decode cX7_readItem 181 = .ok (.ifCond .eq 14, 3) := by decide +kernel
theorem dX7_readItem_184 : decode cX7_readItem 184 = .ok (.aload_n 0, 1) := by decide +kernel
theorem dX7_readItem_185 : decode cX7_readItem 185 = .ok (.invokevirtual 127, 3) := by decide +kernel
theorem dX7_readItem_188 : decode cX7_readItem 188 = .ok (.ifCond .eq 7, 3) := by decide +kernel
theorem dX7_readItem_191 : decode cX7_readItem 191 = .ok (.iconst 1, 1) := by decide +kernel
theorem dX7_readItem_192 : decode cX7_readItem 192 = .ok (.goto 4, 3) := by decide +kernel
theorem dX7_readItem_195 : decode cX7_readItem 195 = .ok (.iconst 0, 1) := by decide +kernel
theorem dX7_readItem_196 : decode cX7_readItem 196 = .ok (.ireturn, 1) := by decide +kernel
theorem dX7_office_0 : decode cX7_office 0 = .ok (.aload_n 0, 1) := by decide +kernel
theorem dX7_office_1 : decode cX7_office 1 = .ok (.iconst 0, 1) := by decide +kernel
theorem dX7_office_2 : decode cX7_office 2 = .ok (.putfield 74, 3) := by decide +kernel
theorem dX7_office_5 : decode cX7_office 5 = .ok (.aload_n 0, 1) := by decide +kernel
theorem dX7_office_6 : decode cX7_office 6 = .ok (.iconst 0, 1) := by decide +kernel
theorem dX7_office_7 : decode cX7_office 7 = .ok (.putfield 114, 3) := by decide +kernel
theorem dX7_office_10 : decode cX7_office 10 = .ok (.aload_n 0, 1) := by decide +kernel
theorem dX7_office_11 : decode cX7_office 11 = .ok (.iconst 0, 1) := by decide +kernel
theorem dX7_office_12 : decode cX7_office 12 = .ok (.putfield 111, 3) := by decide +kernel
theorem dX7_office_15 : decode cX7_office 15 = .ok (.aload_n 0, 1) := by decide +kernel
theorem dX7_office_16 : decode cX7_office 16 = .ok (.sipush 200, 3) := by decide +kernel
theorem dX7_office_19 : decode cX7_office 19 = .ok (.putfield 56, 3) := by decide +kernel
theorem dX7_office_22 : decode cX7_office 22 = .ok (.aload_n 0, 1) := by decide +kernel
theorem dX7_office_23 : decode cX7_office 23 = .ok (.iconst 4, 1) := by decide +kernel
theorem dX7_office_24 : decode cX7_office 24 = .ok (.putfield 121, 3) := by decide +kernel
theorem dX7_office_27 : decode cX7_office 27 = .ok (.iconst 0, 1) := by decide +kernel
theorem dX7_office_28 : decode cX7_office 28 = .ok (.istore_n 1, 1) := by decide +kernel
theorem dX7_office_29 : decode cX7_office 29 = .ok (.iload_n 1, 1) := by decide +kernel
theorem dX7_office_30 : decode cX7_office 30 = .ok (.iconst 3, 1) := by decide +kernel
theorem dX7_office_31 : decode cX7_office 31 = .ok (.if_icmp .ge 17, 3) := by decide +kernel
theorem dX7_office_34 : decode cX7_office 34 = .ok (.aload_n 0, 1) := by decide +kernel
theorem dX7_office_35 : decode cX7_office 35 = .ok (.getfield 41, 3) := by decide +kernel
theorem dX7_office_38 : decode cX7_office 38 = .ok (.iload_n 1, 1) := by decide +kernel
theorem dX7_office_39 : decode cX7_office 39 = .ok (.bipush 20, 2) := by decide +kernel
theorem dX7_office_41 : decode cX7_office 41 = .ok (.iastore, 1) := by decide +kernel
theorem dX7_office_42 : decode cX7_office 42 = .ok (.iinc 1 1, 3) := by decide +kernel
theorem dX7_office_45 : decode cX7_office 45 = .ok (.goto (-16), 3) := by decide +kernel
theorem dX7_office_48 : decode cX7_office 48 = .ok (.iconst 0, 1) := by decide +kernel
theorem dX7_office_49 : decode cX7_office 49 = .ok (.istore_n 1, 1) := by decide +kernel
theorem dX7_office_50 : decode cX7_office 50 = .ok (.iconst 1, 1) := by decide +kernel
theorem dX7_office_51 : decode cX7_office 51 = .ok (.istore_n 2, 1) := by decide +kernel
theorem dX7_office_52 : decode cX7_office 52 = .ok (.aload_n 0, 1) := by decide +kernel
theorem dX7_office_53 : decode cX7_office 53 = .ok (.invokevirtual 104, 3) := by decide +kernel
theorem dX7_office_56 : decode cX7_office 56 = .ok (.iload_n 2, 1) := by decide +kernel
theorem dX7_office_57 : decode cX7_office 57 = .ok (.ifCond .eq 29, 3) := by decide +kernel
theorem dX7_office_60 : decode cX7_office 60 = .ok (.aload_n 0, 1) := by decide +kernel
theorem dX7_office_61 : decode cX7_office 61 = .ok (.getfield 91, 3) := by decide +kernel
theorem dX7_office_64 : decode cX7_office 64 = .ok (.ifCond .eq 22, 3) := by decide +kernel
theorem dX7_office_67 : decode cX7_office 67 = .ok (.aload_n 0, 1) := by decide +kernel
theorem dX7_office_68 : decode cX7_office 68 = .ok (.invokevirtual 130, 3) := by decide +kernel
theorem dX7_office_71 : decode cX7_office 71 = .ok (.istore_n 2, 1) := by decide +kernel
theorem dX7_office_72 : decode cX7_office 72 = .ok (.iload_n 2, 1) := by decide +kernel
theorem dX7_office_73 : decode cX7_office 73 = .ok (.ifCond .eq (-17), 3) := by decide +kernel
theorem dX7_office_76 : decode cX7_office 76 = .ok (.iinc 1 1, 3) := by decide +kernel
theorem dX7_office_79 : decode cX7_office 79 = .ok (.aload_n 0, 1) := by decide +kernel
theorem dX7_office_80 : decode cX7_office 80 = .ok (.invokevirtual 104, 3) := by decide +kernel
theorem dX7_office_83 : decode cX7_office 83 = .ok (.goto (-27), 3) := by decide +kernel
theorem dX7_office_86 : decode cX7_office 86 = .ok (.iload_n 2, 1) := by decide +kernel
theorem dX7_office_87 : decode cX7_office 87 = .ok (.ifCond .ne 29, 3) := by decide +kernel
theorem dX7_office_90 : decode cX7_office 90 = .ok (.bipush (-10), 2) := by decide +kernel
theorem dX7_office_92 : decode cX7_office 92 = .ok (.aload_n 0, 1) := by decide +kernel
theorem dX7_office_93 : decode cX7_office 93 = .ok (.getfield 88, 3) := by decide +kernel
theorem dX7_office_96 : decode cX7_office 96 = .ok (.aload_n 0, 1) := by decide +kernel
theorem dX7_office_97 : decode cX7_office 97 = .ok (.getfield 71, 3) := by decide +kernel
theorem dX7_office_100 : decode cX7_office 100 = .ok (.if_icmp .ge 10, 3) := by decide +kernel
theorem dX7_office_103 : decode cX7_office 103 = .ok (.aload_n 0, 1) := by decide +kernel
theorem dX7_office_104 : decode cX7_office 104 = .ok (.getfield 88, 3) := by decide +kernel
theorem dX7_office_107 : decode cX7_office 107 = .ok (.goto 7, 3) := by decide +kernel
theorem dX7_office_110 : decode cX7_office 110 = .ok (.aload_n 0, 1) := by decide +kernel
theorem dX7_office_111 : decode cX7_office 111 = .ok (.getfield 71, 3) := by decide +kernel
theorem dX7_office_114 : decode cX7_office 114 = .ok (.isub, 1) := by decide +kernel
theorem dX7_office_115 : decode cX7_office 115 = .ok (.ireturn, 1) := by decide +kernel
theorem dX7_office_116 : decode cX7_office 116 = .ok (.aload_n 0, 1) := by decide +kernel
theorem dX7_office_117 : decode cX7_office 117 = .ok (.iconst 0, 1) := by decide +kernel
theorem dX7_office_118 : decode cX7_office 118 = .ok (.putfield 71, 3) := by decide +kernel
theorem dX7_office_121 : decode cX7_office 121 = .ok (.aload_n 0, 1) := by decide +kernel
theorem dX7_office_122 : decode cX7_office 122 = .ok (.aload_n 0, 1) := by decide +kernel
theorem dX7_office_123 : decode cX7_office 123 = .ok (.getfield 111, 3) := by decide +kernel
theorem dX7_office_126 : decode cX7_office 126 = .ok (.putfield 66, 3) := by decide +kernel
theorem dX7_office_129 : decode cX7_office 129 = .ok (.aload_n 0, 1) := by decide +kernel
theorem dX7_office_130 : decode cX7_office 130 = .ok (.aload_n 0, 1) := by decide +kernel
theorem dX7_office_131 : decode cX7_office 131 = .ok (.getfield 121, 3) := by decide +kernel
theorem dX7_office_134 : decode cX7_office 134 = .ok (.putfield 25, 3) := by decide +kernel
theorem dX7_office_137 : decode cX7_office 137 = .ok (.iconst 0, 1) := by decide +kernel
theorem dX7_office_138 : decode cX7_office 138 = .ok (.istore_n 3, 1) := by decide +kernel
theorem dX7_office_139 : decode cX7_office 139 = .ok (.iload_n 3, 1) := by decide +kernel
theorem dX7_office_140 : decode cX7_office 140 = .ok (.aload_n 0, 1) := by decide +kernel
theorem dX7_office_141 : decode cX7_office 141 = .ok (.getfield 66, 3) := by decide +kernel
theorem dX7_office_144 : decode cX7_office 144 = .ok (.if_icmp .ge 87, 3) := by decide +kernel
theorem dX7_office_147 : decode cX7_office 147 = .ok (.aload_n 0, 1) := by decide +kernel
theorem dX7_office_148 : decode cX7_office 148 = .ok (.getfield 7, 3) := by decide +kernel
theorem dX7_office_151 : decode cX7_office 151 = .ok (.iload_n 3, 1) := by decide +kernel
theorem dX7_office_152 : decode cX7_office 152 = .ok (.aload_n 0, 1) := by decide +kernel
theorem dX7_office_153 : decode cX7_office 153 = .ok (.getfield 44, 3) := by decide +kernel
theorem dX7_office_156 : decode cX7_office 156 = .ok (.iconst 5, 1) := by decide +kernel
theorem dX7_office_157 : decode cX7_office 157 = .ok (.iload_n 3, 1) := by decide +kernel
theorem dX7_office_158 : decode cX7_office 158 = .ok (.imul, 1) := by decide +kernel
theorem dX7_office_159 : decode cX7_office 159 = .ok (.iaload, 1) := by decide +kernel
theorem dX7_office_160 : decode cX7_office 160 = .ok (.iastore, 1) := by decide +kernel
theorem dX7_office_161 : decode cX7_office 161 = .ok (.aload_n 0, 1) := by decide +kernel
theorem dX7_office_162 : decode cX7_office 162 = .ok (.getfield 13, 3) := by decide +kernel
theorem dX7_office_165 : decode cX7_office 165 = .ok (.iload_n 3, 1) := by decide +kernel
theorem dX7_office_166 : decode cX7_office 166 = .ok (.aload_n 0, 1) := by decide +kernel
theorem dX7_office_167 : decode cX7_office 167 = .ok (.getfield 44, 3) := by decide +kernel
theorem dX7_office_170 : decode cX7_office 170 = .ok (.iconst 5, 1) := by decide +kernel
theorem dX7_office_171 : decode cX7_office 171 = .ok (.iload_n 3, 1) := by decide +kernel
theorem dX7_office_172 : decode cX7_office 172 = .ok (.imul, 1) := by decide +kernel
theorem dX7_office_173 : decode cX7_office 173 = .ok (.iconst 1, 1) := by decide +kernel
theorem dX7_office_174 : decode cX7_office 174 = .ok (.iadd, 1) := by decide +kernel
theorem dX7_office_175 : decode cX7_office 175 = .ok (.iaload, 1) := by decide +kernel
theorem dX7_office_176 : decode cX7_office 176 = .ok (.iastore, 1) := by decide +kernel
theorem dX7_office_177 : decode cX7_office 177 = .ok (.aload_n 0, 1) := by decide +kernel
theorem dX7_office_178 : decode cX7_office 178 = .ok (.getfield 16, 3) := by decide +kernel
theorem dX7_office_181 : decode cX7_office 181 = .ok (.iload_n 3, 1) := by decide +kernel
theorem dX7_office_182 : decode cX7_office 182 = .ok (.aload_n 0, 1) := by decide +kernel
theorem dX7_office_183 : decode cX7_office 183 = .ok (.getfield 44, 3) := by decide +kernel
theorem dX7_office_186 : decode cX7_office 186 = .ok (.iconst 5, 1) := by decide +kernel
theorem dX7_office_187 : decode cX7_office 187 = .ok (.iload_n 3, 1) := by decide +kernel
theorem dX7_office_188 : decode cX7_office 188 = .ok (.imul, 1) := by decide +kernel
theorem dX7_office_189 : decode cX7_office 189 = .ok (.iconst 2, 1) := by decide +kernel
theorem dX7_office_190 : decode cX7_office 190 = .ok (.iadd, 1) := by decide +kernel
theorem dX7_office_191 : decode cX7_office 191 = .ok (.iaload, 1) := by decide +kernel
theorem dX7_office_192 : decode cX7_office 192 = .ok (.iastore, 1) := by decide +kernel
theorem dX7_office_193 : decode cX7_office 193 = .ok (.aload_n 0, 1) := by decide +kernel
theorem dX7_office_194 : decode cX7_office 194 = .ok (.getfield 19, 3) := by decide +kernel
theorem dX7_office_197 : decode cX7_office 197 = .ok (.iload_n 3, 1) := by decide +kernel
theorem dX7_office_198 : decode cX7_office 198 = .ok (.aload_n 0, 1) := by decide +kernel
theorem dX7_office_199 : decode cX7_office 199 = .ok (.getfield 44, 3) := by decide +kernel
theorem dX7_office_202 : decode cX7_office 202 = .ok (.iconst 5, 1) := by decide +kernel
theorem dX7_office_203 : decode cX7_office 203 = .ok (.iload_n 3, 1) := by decide +kernel
theorem dX7_office_204 : decode cX7_office 204 = .ok (.imul, 1) := by decide +kernel
theorem dX7_office_205 : decode cX7_office 205 = .ok (.iconst 3, 1) := by decide +kernel
theorem dX7_office_206 : decode cX7_office 206 = .ok (.iadd, 1) := by decide +kernel
theorem dX7_office_207 : decode cX7_office 207 = .ok (.iaload, 1) := by decide +kernel
theorem dX7_office_208 : decode cX7_office 208 = .ok (.iastore, 1) := by decide +kernel
theorem dX7_office_209 : decode cX7_office 209 = .ok (.aload_n 0, 1) := by decide +kernel
theorem dX7_office_210 : decode cX7_office 210 = .ok (.getfield 22, 3) := by decide +kernel
theorem dX7_office_213 : decode cX7_office 213 = .ok (.iload_n 3, 1) := by decide +kernel
theorem dX7_office_214 : decode cX7_office 214 = .ok (.aload_n 0, 1) := by decide +kernel
theorem dX7_office_215 : decode cX7_office 215 = .ok (.getfield 44, 3) := by decide +kernel
theorem dX7_office_218 : decode cX7_office 218 = .ok (.iconst 5, 1) := by decide +kernel
theorem dX7_office_219 : decode cX7_office 219 = .ok (.iload_n 3, 1) := by decide +kernel
theorem dX7_office_220 : decode cX7_office 220 = .ok (.imul, 1) := by decide +kernel
theorem dX7_office_221 : decode cX7_office 221 = .ok (.iconst 4, 1) := by decide +kernel
theorem dX7_office_222 : decode cX7_office 222 = .ok (.iadd, 1) := by decide +kernel
theorem dX7_office_223 : decode cX7_office 223 = .ok (.iaload, 1) := by decide +kernel
theorem dX7_office_224 : decode cX7_office 224 = .ok (.iastore, 1) := by decide +kernel
theorem dX7_office_225 : decode cX7_office 225 = .ok (.iinc 3 1, 3) := by decide +kernel
theorem dX7_office_228 : decode cX7_office 228 = .ok (.goto (-89), 3) := by decide +kernel
theorem dX7_office_231 : decode cX7_office 231 = .ok (.aload_n 0, 1) := by decide +kernel
theorem dX7_office_232 : decode cX7_office 232 = .ok (.invokevirtual 59, 3) := by decide +kernel
theorem dX7_office_235 : decode cX7_office 235 = .ok (.iload_n 1, 1) := by decide +kernel
theorem dX7_office_236 : decode cX7_office 236 = .ok (.ireturn, 1) := by decide +kernel
theorem dX7_begin_0 : decode cX7_begin 0 = .ok (.iconst 0, 1) := by decide +kernel
theorem dX7_begin_1 : decode cX7_begin 1 = .ok (.istore_n 1, 1) := by decide +kernel
theorem dX7_begin_2 : decode cX7_begin 2 = .ok (.iload_n 1, 1) := by decide +kernel
theorem dX7_begin_3 : decode cX7_begin 3 = .ok (.bipush 31, 2) := by decide +kernel
theorem dX7_begin_5 : decode cX7_begin 5 = .ok (.if_icmp .ge 16, 3) := by decide +kernel
theorem dX7_begin_8 : decode cX7_begin 8 = .ok (.aload_n 0, 1) := by decide +kernel
theorem dX7_begin_9 : decode cX7_begin 9 = .ok (.getfield 29, 3) := by decide +kernel
theorem dX7_begin_12 : decode cX7_begin 12 = .ok (.iload_n 1, 1) := by decide +kernel
theorem dX7_begin_13 : decode cX7_begin 13 = .ok (.iconst 0, 1) := by decide +kernel
theorem dX7_begin_14 : decode cX7_begin 14 = .ok (.iastore, 1) := by decide +kernel
theorem dX7_begin_15 : decode cX7_begin 15 = .ok (.iinc 1 1, 3) := by decide +kernel
theorem dX7_begin_18 : decode cX7_begin 18 = .ok (.goto (-16), 3) := by decide +kernel
theorem dX7_begin_21 : decode cX7_begin 21 = .ok (.aload_n 0, 1) := by decide +kernel
theorem dX7_begin_22 : decode cX7_begin 22 = .ok (.getfield 29, 3) := by decide +kernel
theorem dX7_begin_25 : decode cX7_begin 25 = .ok (.iconst 1, 1) := by decide +kernel
theorem dX7_begin_26 : decode cX7_begin 26 = .ok (.aload_n 0, 1) := by decide +kernel
theorem dX7_begin_27 : decode cX7_begin 27 = .ok (.getfield 56, 3) := by decide +kernel
theorem dX7_begin_30 : decode cX7_begin 30 = .ok (.iastore, 1) := by decide +kernel
theorem dX7_begin_31 : decode cX7_begin 31 = .ok (.iconst 0, 1) := by decide +kernel
theorem dX7_begin_32 : decode cX7_begin 32 = .ok (.istore_n 1, 1) := by decide +kernel
theorem dX7_begin_33 : decode cX7_begin 33 = .ok (.iload_n 1, 1) := by decide +kernel
theorem dX7_begin_34 : decode cX7_begin 34 = .ok (.iconst 3, 1) := by decide +kernel
theorem dX7_begin_35 : decode cX7_begin 35 = .ok (.if_icmp .ge 23, 3) := by decide +kernel
theorem dX7_begin_38 : decode cX7_begin 38 = .ok (.aload_n 0, 1) := by decide +kernel
theorem dX7_begin_39 : decode cX7_begin 39 = .ok (.getfield 29, 3) := by decide +kernel
theorem dX7_begin_42 : decode cX7_begin 42 = .ok (.iconst 4, 1) := by decide +kernel
theorem dX7_begin_43 : decode cX7_begin 43 = .ok (.iload_n 1, 1) := by decide +kernel
theorem dX7_begin_44 : decode cX7_begin 44 = .ok (.iadd, 1) := by decide +kernel
theorem dX7_begin_45 : decode cX7_begin 45 = .ok (.aload_n 0, 1) := by decide +kernel
theorem dX7_begin_46 : decode cX7_begin 46 = .ok (.getfield 41, 3) := by decide +kernel
theorem dX7_begin_49 : decode cX7_begin 49 = .ok (.iload_n 1, 1) := by decide +kernel
theorem dX7_begin_50 : decode cX7_begin 50 = .ok (.iaload, 1) := by decide +kernel
theorem dX7_begin_51 : decode cX7_begin 51 = .ok (.iastore, 1) := by decide +kernel
theorem dX7_begin_52 : decode cX7_begin 52 = .ok (.iinc 1 1, 3) := by decide +kernel
theorem dX7_begin_55 : decode cX7_begin 55 = .ok (.goto (-22), 3) := by decide +kernel
theorem dX7_begin_58 : decode cX7_begin 58 = .ok (.aload_n 0, 1) := by decide +kernel
theorem dX7_begin_59 : decode cX7_begin 59 = .ok (.getfield 29, 3) := by decide +kernel
theorem dX7_begin_62 : decode cX7_begin 62 = .ok (.iconst 3, 1) := by decide +kernel
theorem dX7_begin_63 : decode cX7_begin 63 = .ok (.aload_n 0, 1) := by decide +kernel
theorem dX7_begin_64 : decode cX7_begin 64 = .ok (.getfield 66, 3) := by decide +kernel
theorem dX7_begin_67 : decode cX7_begin 67 = .ok (.iastore, 1) := by decide +kernel
theorem dX7_begin_68 : decode cX7_begin 68 = .ok (.iconst 0, 1) := by decide +kernel
theorem dX7_begin_69 : decode cX7_begin 69 = .ok (.istore_n 1, 1) := by decide +kernel
theorem dX7_begin_70 : decode cX7_begin 70 = .ok (.iload_n 1, 1) := by decide +kernel
theorem dX7_begin_71 : decode cX7_begin 71 = .ok (.aload_n 0, 1) := by decide +kernel
theorem dX7_begin_72 : decode cX7_begin 72 = .ok (.getfield 66, 3) := by decide +kernel
theorem dX7_begin_75 : decode cX7_begin 75 = .ok (.if_icmp .ge 19, 3) := by decide +kernel
theorem dX7_begin_78 : decode cX7_begin 78 = .ok (.aload_n 0, 1) := by decide +kernel
theorem dX7_begin_79 : decode cX7_begin 79 = .ok (.getfield 29, 3) := by decide +kernel
theorem dX7_begin_82 : decode cX7_begin 82 = .ok (.bipush 13, 2) := by decide +kernel
theorem dX7_begin_84 : decode cX7_begin 84 = .ok (.iload_n 1, 1) := by decide +kernel
theorem dX7_begin_85 : decode cX7_begin 85 = .ok (.iadd, 1) := by decide +kernel
theorem dX7_begin_86 : decode cX7_begin 86 = .ok (.iload_n 1, 1) := by decide +kernel
theorem dX7_begin_87 : decode cX7_begin 87 = .ok (.iastore, 1) := by decide +kernel
theorem dX7_begin_88 : decode cX7_begin 88 = .ok (.iinc 1 1, 3) := by decide +kernel
theorem dX7_begin_91 : decode cX7_begin 91 = .ok (.goto (-21), 3) := by decide +kernel
theorem dX7_begin_94 : decode cX7_begin 94 = .ok (.aload_n 0, 1) := by decide +kernel
theorem dX7_begin_95 : decode cX7_begin 95 = .ok (.iconst 0, 1) := by decide +kernel
theorem dX7_begin_96 : decode cX7_begin 96 = .ok (.putfield 133, 3) := by decide +kernel
theorem dX7_begin_99 : decode cX7_begin 99 = .ok (.aload_n 0, 1) := by decide +kernel
theorem dX7_begin_100 : decode cX7_begin 100 = .ok (.iconst 0, 1) := by decide +kernel
theorem dX7_begin_101 : decode cX7_begin 101 = .ok (.putfield 136, 3) := by decide +kernel
theorem dX7_begin_104 : decode cX7_begin 104 = .ok (.aload_n 0, 1) := by decide +kernel
theorem dX7_begin_105 : decode cX7_begin 105 = .ok (.getfield 53, 3) := by decide +kernel
theorem dX7_begin_108 : decode cX7_begin 108 = .ok (.iconst 0, 1) := by decide +kernel
theorem dX7_begin_109 : decode cX7_begin 109 = .ok (.iconst 0, 1) := by decide +kernel
theorem dX7_begin_110 : decode cX7_begin 110 = .ok (.iastore, 1) := by decide +kernel
theorem dX7_begin_111 : decode cX7_begin 111 = .ok (.aload_n 0, 1) := by decide +kernel
theorem dX7_begin_112 : decode cX7_begin 112 = .ok (.getfield 53, 3) := by decide +kernel
theorem dX7_begin_115 : decode cX7_begin 115 = .ok (.iconst 1, 1) := by decide +kernel
theorem dX7_begin_116 : decode cX7_begin 116 = .ok (.iconst 0, 1) := by decide +kernel
theorem dX7_begin_117 : decode cX7_begin 117 = .ok (.iastore, 1) := by decide +kernel
theorem dX7_begin_118 : decode cX7_begin 118 = .ok (.return_, 1) := by decide +kernel
theorem dX7_leaves_0 : decode cX7_leaves 0 = .ok (.aload_n 0, 1) := by decide +kernel
theorem dX7_leaves_1 : decode cX7_leaves 1 = .ok (.getfield 16, 3) := by decide +kernel
theorem dX7_leaves_4 : decode cX7_leaves 4 = .ok (.iload_n 1, 1) := by decide +kernel
theorem dX7_leaves_5 : decode cX7_leaves 5 = .ok (.iaload, 1) := by decide +kernel
theorem dX7_leaves_6 : decode cX7_leaves 6 = .ok (.iconst 1, 1) := by decide +kernel
theorem dX7_leaves_7 : decode cX7_leaves 7 = .ok (.if_icmp .ne 16, 3) := by decide +kernel
theorem dX7_leaves_10 : decode cX7_leaves 10 = .ok (.aload_n 0, 1) := by decide +kernel
theorem dX7_leaves_11 : decode cX7_leaves 11 = .ok (.getfield 7, 3) := by decide +kernel
theorem dX7_leaves_14 : decode cX7_leaves 14 = .ok (.iload_n 1, 1) := by decide +kernel
theorem dX7_leaves_15 : decode cX7_leaves 15 = .ok (.iaload, 1) := by decide +kernel
theorem dX7_leaves_16 : decode cX7_leaves 16 = .ok (.iconst 1, 1) := by decide +kernel
theorem dX7_leaves_17 : decode cX7_leaves 17 = .ok (.iadd, 1) := by decide +kernel
theorem dX7_leaves_18 : decode cX7_leaves 18 = .ok (.iconst 2, 1) := by decide +kernel
theorem dX7_leaves_19 : decode cX7_leaves 19 = .ok (.idiv, 1) := by decide +kernel
theorem dX7_leaves_20 : decode cX7_leaves 20 = .ok (.goto 9, 3) := by decide +kernel
theorem dX7_leaves_23 : decode cX7_leaves 23 = .ok (.aload_n 0, 1) := by decide +kernel
theorem dX7_leaves_24 : decode cX7_leaves 24 = .ok (.getfield 7, 3) := by decide +kernel
theorem dX7_leaves_27 : decode cX7_leaves 27 = .ok (.iload_n 1, 1) := by decide +kernel
theorem dX7_leaves_28 : decode cX7_leaves 28 = .ok (.iaload, 1) := by decide +kernel
theorem dX7_leaves_29 : decode cX7_leaves 29 = .ok (.ireturn, 1) := by decide +kernel
theorem dX7_allOf_0 : decode cX7_allOf 0 = .ok (.aload_n 0, 1) := by decide +kernel
theorem dX7_allOf_1 : decode cX7_allOf 1 = .ok (.iload_n 1, 1) := by decide +kernel
theorem dX7_allOf_2 : decode cX7_allOf 2 = .ok (.invokevirtual 139, 3) := by decide +kernel
theorem dX7_allOf_5 : decode cX7_allOf 5 = .ok (.aload_n 0, 1) := by decide +kernel
theorem dX7_allOf_6 : decode cX7_allOf 6 = .ok (.getfield 13, 3) := by decide +kernel
theorem dX7_allOf_9 : decode cX7_allOf 9 = .ok (.iload_n 1, 1) := by decide +kernel
theorem dX7_allOf_10 : decode cX7_allOf 10 = .ok (.iaload, 1) := by decide +kernel
theorem dX7_allOf_11 : decode cX7_allOf 11 = .ok (.imul, 1) := by decide +kernel
theorem dX7_allOf_12 : decode cX7_allOf 12 = .ok (.ireturn, 1) := by decide +kernel
theorem dX7_copyOf_0 : decode cX7_copyOf 0 = .ok (.aload_n 0, 1) := by decide +kernel
theorem dX7_copyOf_1 : decode cX7_copyOf 1 = .ok (.getfield 19, 3) := by decide +kernel
theorem dX7_copyOf_4 : decode cX7_copyOf 4 = .ok (.iload_n 1, 1) := by decide +kernel
theorem dX7_copyOf_5 : decode cX7_copyOf 5 = .ok (.iaload, 1) := by decide +kernel
theorem dX7_copyOf_6 : decode cX7_copyOf 6 = .ok (.iconst 1, 1) := by decide +kernel
theorem dX7_copyOf_7 : decode cX7_copyOf 7 = .ok (.if_icmp .ne 13, 3) := by decide +kernel
theorem dX7_copyOf_10 : decode cX7_copyOf 10 = .ok (.iload_n 2, 1) := by decide +kernel
theorem dX7_copyOf_11 : decode cX7_copyOf 11 = .ok (.aload_n 0, 1) := by decide +kernel
theorem dX7_copyOf_12 : decode cX7_copyOf 12 = .ok (.iload_n 1, 1) := by decide +kernel
theorem dX7_copyOf_13 : decode cX7_copyOf 13 = .ok (.invokevirtual 139, 3) := by decide +kernel
theorem dX7_copyOf_16 : decode cX7_copyOf 16 = .ok (.idiv, 1) := by decide +kernel
theorem dX7_copyOf_17 : decode cX7_copyOf 17 = .ok (.goto 11, 3) := by decide +kernel
theorem dX7_copyOf_20 : decode cX7_copyOf 20 = .ok (.iload_n 2, 1) := by decide +kernel
theorem dX7_copyOf_21 : decode cX7_copyOf 21 = .ok (.aload_n 0, 1) := by decide +kernel
theorem dX7_copyOf_22 : decode cX7_copyOf 22 = .ok (.getfield 13, 3) := by decide +kernel
theorem dX7_copyOf_25 : decode cX7_copyOf 25 = .ok (.iload_n 1, 1) := by decide +kernel
theorem dX7_copyOf_26 : decode cX7_copyOf 26 = .ok (.iaload, 1) := by decide +kernel
theorem dX7_copyOf_27 : decode cX7_copyOf 27 = .ok (.irem, 1) := by decide +kernel
theorem dX7_copyOf_28 : decode cX7_copyOf 28 = .ok (.ireturn, 1) := by decide +kernel
theorem dX7_leafOf_0 : decode cX7_leafOf 0 = .ok (.aload_n 0, 1) := by decide +kernel
theorem dX7_leafOf_1 : decode cX7_leafOf 1 = .ok (.getfield 19, 3) := by decide +kernel
theorem dX7_leafOf_4 : decode cX7_leafOf 4 = .ok (.iload_n 1, 1) := by decide +kernel
theorem dX7_leafOf_5 : decode cX7_leafOf 5 = .ok (.iaload, 1) := by decide +kernel
theorem dX7_leafOf_6 : decode cX7_leafOf 6 = .ok (.iconst 1, 1) := by decide +kernel
theorem dX7_leafOf_7 : decode cX7_leafOf 7 = .ok (.if_icmp .ne 13, 3) := by decide +kernel
theorem dX7_leafOf_10 : decode cX7_leafOf 10 = .ok (.iload_n 2, 1) := by decide +kernel
theorem dX7_leafOf_11 : decode cX7_leafOf 11 = .ok (.aload_n 0, 1) := by decide +kernel
theorem dX7_leafOf_12 : decode cX7_leafOf 12 = .ok (.iload_n 1, 1) := by decide +kernel
theorem dX7_leafOf_13 : decode cX7_leafOf 13 = .ok (.invokevirtual 139, 3) := by decide +kernel
theorem dX7_leafOf_16 : decode cX7_leafOf 16 = .ok (.irem, 1) := by decide +kernel
theorem dX7_leafOf_17 : decode cX7_leafOf 17 = .ok (.goto 11, 3) := by decide +kernel
theorem dX7_leafOf_20 : decode cX7_leafOf 20 = .ok (.iload_n 2, 1) := by decide +kernel
theorem dX7_leafOf_21 : decode cX7_leafOf 21 = .ok (.aload_n 0, 1) := by decide +kernel
theorem dX7_leafOf_22 : decode cX7_leafOf 22 = .ok (.getfield 13, 3) := by decide +kernel
theorem dX7_leafOf_25 : decode cX7_leafOf 25 = .ok (.iload_n 1, 1) := by decide +kernel
theorem dX7_leafOf_26 : decode cX7_leafOf 26 = .ok (.iaload, 1) := by decide +kernel
theorem dX7_leafOf_27 : decode cX7_leafOf 27 = .ok (.idiv, 1) := by decide +kernel
theorem dX7_leafOf_28 : decode cX7_leafOf 28 = .ok (.ireturn, 1) := by decide +kernel
theorem dX7_frontOf_0 : decode cX7_frontOf 0 = .ok (.aload_n 0, 1) := by decide +kernel
theorem dX7_frontOf_1 : decode cX7_frontOf 1 = .ok (.getfield 16, 3) := by decide +kernel
theorem dX7_frontOf_4 : decode cX7_frontOf 4 = .ok (.iload_n 1, 1) := by decide +kernel
theorem dX7_frontOf_5 : decode cX7_frontOf 5 = .ok (.iaload, 1) := by decide +kernel
theorem dX7_frontOf_6 : decode cX7_frontOf 6 = .ok (.iconst 1, 1) := by decide +kernel
theorem dX7_frontOf_7 : decode cX7_frontOf 7 = .ok (.if_icmp .ne 16, 3) := by decide +kernel
theorem dX7_frontOf_10 : decode cX7_frontOf 10 = .ok (.iconst 2, 1) := by decide +kernel
theorem dX7_frontOf_11 : decode cX7_frontOf 11 = .ok (.aload_n 0, 1) := by decide +kernel
theorem dX7_frontOf_12 : decode cX7_frontOf 12 = .ok (.iload_n 1, 1) := by decide +kernel
theorem dX7_frontOf_13 : decode cX7_frontOf 13 = .ok (.iload_n 2, 1) := by decide +kernel
theorem dX7_frontOf_14 : decode cX7_frontOf 14 = .ok (.invokevirtual 143, 3) := by decide +kernel
theorem dX7_frontOf_17 : decode cX7_frontOf 17 = .ok (.imul, 1) := by decide +kernel
theorem dX7_frontOf_18 : decode cX7_frontOf 18 = .ok (.iconst 1, 1) := by decide +kernel
theorem dX7_frontOf_19 : decode cX7_frontOf 19 = .ok (.iadd, 1) := by decide +kernel
theorem dX7_frontOf_20 : decode cX7_frontOf 20 = .ok (.goto 11, 3) := by decide +kernel
theorem dX7_frontOf_23 : decode cX7_frontOf 23 = .ok (.aload_n 0, 1) := by decide +kernel
theorem dX7_frontOf_24 : decode cX7_frontOf 24 = .ok (.iload_n 1, 1) := by decide +kernel
theorem dX7_frontOf_25 : decode cX7_frontOf 25 = .ok (.iload_n 2, 1) := by decide +kernel
theorem dX7_frontOf_26 : decode cX7_frontOf 26 = .ok (.invokevirtual 143, 3) := by decide +kernel
theorem dX7_frontOf_29 : decode cX7_frontOf 29 = .ok (.iconst 1, 1) := by decide +kernel
theorem dX7_frontOf_30 : decode cX7_frontOf 30 = .ok (.iadd, 1) := by decide +kernel
theorem dX7_frontOf_31 : decode cX7_frontOf 31 = .ok (.ireturn, 1) := by decide +kernel
theorem dX7_backOf_0 : decode cX7_backOf 0 = .ok (.aload_n 0, 1) := by decide +kernel
theorem dX7_backOf_1 : decode cX7_backOf 1 = .ok (.iload_n 1, 1) := by decide +kernel
theorem dX7_backOf_2 : decode cX7_backOf 2 = .ok (.iload_n 2, 1) := by decide +kernel
theorem dX7_backOf_3 : decode cX7_backOf 3 = .ok (.invokevirtual 147, 3) := by decide +kernel
theorem dX7_backOf_6 : decode cX7_backOf 6 = .ok (.iconst 1, 1) := by decide +kernel
theorem dX7_backOf_7 : decode cX7_backOf 7 = .ok (.iadd, 1) := by decide +kernel
theorem dX7_backOf_8 : decode cX7_backOf 8 = .ok (.istore_n 3, 1) := by decide +kernel
theorem dX7_backOf_9 : decode cX7_backOf 9 = .ok (.aload_n 0, 1) := by decide +kernel
theorem dX7_backOf_10 : decode cX7_backOf 10 = .ok (.getfield 16, 3) := by decide +kernel
theorem dX7_backOf_13 : decode cX7_backOf 13 = .ok (.iload_n 1, 1) := by decide +kernel
theorem dX7_backOf_14 : decode cX7_backOf 14 = .ok (.iaload, 1) := by decide +kernel
theorem dX7_backOf_15 : decode cX7_backOf 15 = .ok (.iconst 1, 1) := by decide +kernel
theorem dX7_backOf_16 : decode cX7_backOf 16 = .ok (.if_icmp .ne 17, 3) := by decide +kernel
theorem dX7_backOf_19 : decode cX7_backOf 19 = .ok (.iload_n 3, 1) := by decide +kernel
theorem dX7_backOf_20 : decode cX7_backOf 20 = .ok (.aload_n 0, 1) := by decide +kernel
theorem dX7_backOf_21 : decode cX7_backOf 21 = .ok (.getfield 7, 3) := by decide +kernel
theorem dX7_backOf_24 : decode cX7_backOf 24 = .ok (.iload_n 1, 1) := by decide +kernel
theorem dX7_backOf_25 : decode cX7_backOf 25 = .ok (.iaload, 1) := by decide +kernel
theorem dX7_backOf_26 : decode cX7_backOf 26 = .ok (.if_icmp .gt 7, 3) := by decide +kernel
theorem dX7_backOf_29 : decode cX7_backOf 29 = .ok (.iload_n 3, 1) := by decide +kernel
theorem dX7_backOf_30 : decode cX7_backOf 30 = .ok (.goto 4, 3) := by decide +kernel
theorem dX7_backOf_33 : decode cX7_backOf 33 = .ok (.iconst 0, 1) := by decide +kernel
theorem dX7_backOf_34 : decode cX7_backOf 34 = .ok (.ireturn, 1) := by decide +kernel
theorem dX7_binOf_0 : decode cX7_binOf 0 = .ok (.aload_n 0, 1) := by decide +kernel
theorem dX7_binOf_1 : decode cX7_binOf 1 = .ok (.getfield 19, 3) := by decide +kernel
theorem dX7_binOf_4 : decode cX7_binOf 4 = .ok (.iload_n 1, 1) := by decide +kernel
theorem dX7_binOf_5 : decode cX7_binOf 5 = .ok (.iaload, 1) := by decide +kernel
theorem dX7_binOf_6 : decode cX7_binOf 6 = .ok (.iconst 1, 1) := by decide +kernel
theorem dX7_binOf_7 : decode cX7_binOf 7 = .ok (.if_icmp .ne 12, 3) := by decide +kernel
theorem dX7_binOf_10 : decode cX7_binOf 10 = .ok (.aload_n 0, 1) := by decide +kernel
theorem dX7_binOf_11 : decode cX7_binOf 11 = .ok (.iload_n 1, 1) := by decide +kernel
theorem dX7_binOf_12 : decode cX7_binOf 12 = .ok (.iload_n 2, 1) := by decide +kernel
theorem dX7_binOf_13 : decode cX7_binOf 13 = .ok (.invokevirtual 150, 3) := by decide +kernel
theorem dX7_binOf_16 : decode cX7_binOf 16 = .ok (.goto 9, 3) := by decide +kernel
theorem dX7_binOf_19 : decode cX7_binOf 19 = .ok (.aload_n 0, 1) := by decide +kernel
theorem dX7_binOf_20 : decode cX7_binOf 20 = .ok (.iload_n 1, 1) := by decide +kernel
end
section
theorem dX7_binOf_21 : decode cX7_binOf 21 = .ok (.iload_n 2, 1) := by decide +kernel
theorem dX7_binOf_22 : decode cX7_binOf 22 = .ok (.invokevirtual 143, 3) := by decide +kernel
theorem dX7_binOf_25 : decode cX7_binOf 25 = .ok (.aload_n 0, 1) := by decide +kernel
theorem dX7_binOf_26 : decode cX7_binOf 26 = .ok (.getfield 25, 3) := by decide +kernel
theorem dX7_binOf_29 : decode cX7_binOf 29 = .ok (.irem, 1) := by decide +kernel
theorem dX7_binOf_30 : decode cX7_binOf 30 = .ok (.ireturn, 1) := by decide +kernel
theorem dX7_sidesOf_0 : decode cX7_sidesOf 0 = .ok (.aload_n 0, 1) := by decide +kernel
theorem dX7_sidesOf_1 : decode cX7_sidesOf 1 = .ok (.iload_n 1, 1) := by decide +kernel
theorem dX7_sidesOf_2 : decode cX7_sidesOf 2 = .ok (.iload_n 2, 1) := by decide +kernel
theorem dX7_sidesOf_3 : decode cX7_sidesOf 3 = .ok (.invokevirtual 153, 3) := by decide +kernel
theorem dX7_sidesOf_6 : decode cX7_sidesOf 6 = .ok (.ifCond .le 7, 3) := by decide +kernel
theorem dX7_sidesOf_9 : decode cX7_sidesOf 9 = .ok (.iconst 2, 1) := by decide +kernel
theorem dX7_sidesOf_10 : decode cX7_sidesOf 10 = .ok (.goto 4, 3) := by decide +kernel
theorem dX7_sidesOf_13 : decode cX7_sidesOf 13 = .ok (.iconst 1, 1) := by decide +kernel
theorem dX7_sidesOf_14 : decode cX7_sidesOf 14 = .ok (.ireturn, 1) := by decide +kernel
theorem dX7_sheet_0 : decode cX7_sheet 0 = .ok (.aload_n 0, 1) := by decide +kernel
theorem dX7_sheet_1 : decode cX7_sheet 1 = .ok (.iload_n 1, 1) := by decide +kernel
theorem dX7_sheet_2 : decode cX7_sheet 2 = .ok (.invokevirtual 156, 3) := by decide +kernel
theorem dX7_sheet_5 : decode cX7_sheet 5 = .ok (.ifCond .eq 20, 3) := by decide +kernel
theorem dX7_sheet_8 : decode cX7_sheet 8 = .ok (.iload_n 2, 1) := by decide +kernel
theorem dX7_sheet_9 : decode cX7_sheet 9 = .ok (.i2l, 1) := by decide +kernel
theorem dX7_sheet_10 : decode cX7_sheet 10 = .ok (.lconst 0, 1) := by decide +kernel
theorem dX7_sheet_11 : decode cX7_sheet 11 = .ok (.aload_n 0, 1) := by decide +kernel
theorem dX7_sheet_12 : decode cX7_sheet 12 = .ok (.iload_n 1, 1) := by decide +kernel
theorem dX7_sheet_13 : decode cX7_sheet 13 = .ok (.invokevirtual 160, 3) := by decide +kernel
theorem dX7_sheet_16 : decode cX7_sheet 16 = .ok (.iconst 1, 1) := by decide +kernel
theorem dX7_sheet_17 : decode cX7_sheet 17 = .ok (.isub, 1) := by decide +kernel
theorem dX7_sheet_18 : decode cX7_sheet 18 = .ok (.i2l, 1) := by decide +kernel
theorem dX7_sheet_19 : decode cX7_sheet 19 = .ok (.invokestatic 62, 3) := by decide +kernel
theorem dX7_sheet_22 : decode cX7_sheet 22 = .ok (.ifCond .ne 5, 3) := by decide +kernel
theorem dX7_sheet_25 : decode cX7_sheet 25 = .ok (.iconst (-1), 1) := by decide +kernel
theorem dX7_sheet_26 : decode cX7_sheet 26 = .ok (.ireturn, 1) := by decide +kernel
theorem dX7_sheet_27 : decode cX7_sheet 27 = .ok (.iload_n 3, 1) := by decide +kernel
theorem dX7_sheet_28 : decode cX7_sheet 28 = .ok (.tableswitch 60 0 3 #[32, 39, 46, 53], 32) := by decide +kernel
theorem dX7_sheet_60 : decode cX7_sheet 60 = .ok (.aload_n 0, 1) := by decide +kernel
theorem dX7_sheet_61 : decode cX7_sheet 61 = .ok (.iload_n 1, 1) := by decide +kernel
theorem dX7_sheet_62 : decode cX7_sheet 62 = .ok (.iload_n 2, 1) := by decide +kernel
theorem dX7_sheet_63 : decode cX7_sheet 63 = .ok (.invokevirtual 150, 3) := by decide +kernel
theorem dX7_sheet_66 : decode cX7_sheet 66 = .ok (.ireturn, 1) := by decide +kernel
theorem dX7_sheet_67 : decode cX7_sheet 67 = .ok (.aload_n 0, 1) := by decide +kernel
theorem dX7_sheet_68 : decode cX7_sheet 68 = .ok (.iload_n 1, 1) := by decide +kernel
theorem dX7_sheet_69 : decode cX7_sheet 69 = .ok (.iload_n 2, 1) := by decide +kernel
theorem dX7_sheet_70 : decode cX7_sheet 70 = .ok (.invokevirtual 147, 3) := by decide +kernel
theorem dX7_sheet_73 : decode cX7_sheet 73 = .ok (.ireturn, 1) := by decide +kernel
theorem dX7_sheet_74 : decode cX7_sheet 74 = .ok (.aload_n 0, 1) := by decide +kernel
theorem dX7_sheet_75 : decode cX7_sheet 75 = .ok (.iload_n 1, 1) := by decide +kernel
theorem dX7_sheet_76 : decode cX7_sheet 76 = .ok (.iload_n 2, 1) := by decide +kernel
theorem dX7_sheet_77 : decode cX7_sheet 77 = .ok (.invokevirtual 153, 3) := by decide +kernel
theorem dX7_sheet_80 : decode cX7_sheet 80 = .ok (.ireturn, 1) := by decide +kernel
theorem dX7_sheet_81 : decode cX7_sheet 81 = .ok (.aload_n 0, 1) := by decide +kernel
theorem dX7_sheet_82 : decode cX7_sheet 82 = .ok (.iload_n 1, 1) := by decide +kernel
theorem dX7_sheet_83 : decode cX7_sheet 83 = .ok (.iload_n 2, 1) := by decide +kernel
theorem dX7_sheet_84 : decode cX7_sheet 84 = .ok (.invokevirtual 163, 3) := by decide +kernel
theorem dX7_sheet_87 : decode cX7_sheet 87 = .ok (.ireturn, 1) := by decide +kernel
theorem dX7_sheet_88 : decode cX7_sheet 88 = .ok (.iconst (-1), 1) := by decide +kernel
theorem dX7_sheet_89 : decode cX7_sheet 89 = .ok (.ireturn, 1) := by decide +kernel
theorem dX7_isPage_0 : decode cX7_isPage 0 = .ok (.iload_n 2, 1) := by decide +kernel
theorem dX7_isPage_1 : decode cX7_isPage 1 = .ok (.i2l, 1) := by decide +kernel
theorem dX7_isPage_2 : decode cX7_isPage 2 = .ok (.lconst 1, 1) := by decide +kernel
theorem dX7_isPage_3 : decode cX7_isPage 3 = .ok (.aload_n 0, 1) := by decide +kernel
theorem dX7_isPage_4 : decode cX7_isPage 4 = .ok (.getfield 7, 3) := by decide +kernel
theorem dX7_isPage_7 : decode cX7_isPage 7 = .ok (.iload_n 1, 1) := by decide +kernel
theorem dX7_isPage_8 : decode cX7_isPage 8 = .ok (.iaload, 1) := by decide +kernel
theorem dX7_isPage_9 : decode cX7_isPage 9 = .ok (.i2l, 1) := by decide +kernel
theorem dX7_isPage_10 : decode cX7_isPage 10 = .ok (.invokestatic 62, 3) := by decide +kernel
theorem dX7_isPage_13 : decode cX7_isPage 13 = .ok (.ireturn, 1) := by decide +kernel
theorem dX7_where_0 : decode cX7_where 0 = .ok (.aload_n 0, 1) := by decide +kernel
theorem dX7_where_1 : decode cX7_where 1 = .ok (.iload_n 1, 1) := by decide +kernel
theorem dX7_where_2 : decode cX7_where 2 = .ok (.invokevirtual 156, 3) := by decide +kernel
theorem dX7_where_5 : decode cX7_where 5 = .ok (.ifCond .eq 30, 3) := by decide +kernel
theorem dX7_where_8 : decode cX7_where 8 = .ok (.aload_n 0, 1) := by decide +kernel
theorem dX7_where_9 : decode cX7_where 9 = .ok (.iload_n 1, 1) := by decide +kernel
theorem dX7_where_10 : decode cX7_where 10 = .ok (.iload_n 2, 1) := by decide +kernel
theorem dX7_where_11 : decode cX7_where 11 = .ok (.invokevirtual 166, 3) := by decide +kernel
theorem dX7_where_14 : decode cX7_where 14 = .ok (.ifCond .eq 21, 3) := by decide +kernel
theorem dX7_where_17 : decode cX7_where 17 = .ok (.iload_n 3, 1) := by decide +kernel
theorem dX7_where_18 : decode cX7_where 18 = .ok (.i2l, 1) := by decide +kernel
theorem dX7_where_19 : decode cX7_where 19 = .ok (.lconst 0, 1) := by decide +kernel
theorem dX7_where_20 : decode cX7_where 20 = .ok (.aload_n 0, 1) := by decide +kernel
theorem dX7_where_21 : decode cX7_where 21 = .ok (.getfield 13, 3) := by decide +kernel
theorem dX7_where_24 : decode cX7_where 24 = .ok (.iload_n 1, 1) := by decide +kernel
theorem dX7_where_25 : decode cX7_where 25 = .ok (.iaload, 1) := by decide +kernel
theorem dX7_where_26 : decode cX7_where 26 = .ok (.iconst 1, 1) := by decide +kernel
theorem dX7_where_27 : decode cX7_where 27 = .ok (.isub, 1) := by decide +kernel
theorem dX7_where_28 : decode cX7_where 28 = .ok (.i2l, 1) := by decide +kernel
theorem dX7_where_29 : decode cX7_where 29 = .ok (.invokestatic 62, 3) := by decide +kernel
theorem dX7_where_32 : decode cX7_where 32 = .ok (.ifCond .ne 5, 3) := by decide +kernel
theorem dX7_where_35 : decode cX7_where 35 = .ok (.iconst (-1), 1) := by decide +kernel
theorem dX7_where_36 : decode cX7_where 36 = .ok (.ireturn, 1) := by decide +kernel
theorem dX7_where_37 : decode cX7_where 37 = .ok (.aload_n 0, 1) := by decide +kernel
theorem dX7_where_38 : decode cX7_where 38 = .ok (.getfield 16, 3) := by decide +kernel
theorem dX7_where_41 : decode cX7_where 41 = .ok (.iload_n 1, 1) := by decide +kernel
theorem dX7_where_42 : decode cX7_where 42 = .ok (.iaload, 1) := by decide +kernel
theorem dX7_where_43 : decode cX7_where 43 = .ok (.iconst 1, 1) := by decide +kernel
theorem dX7_where_44 : decode cX7_where 44 = .ok (.if_icmp .ne 11, 3) := by decide +kernel
theorem dX7_where_47 : decode cX7_where 47 = .ok (.iload_n 2, 1) := by decide +kernel
theorem dX7_where_48 : decode cX7_where 48 = .ok (.iconst 1, 1) := by decide +kernel
theorem dX7_where_49 : decode cX7_where 49 = .ok (.isub, 1) := by decide +kernel
theorem dX7_where_50 : decode cX7_where 50 = .ok (.iconst 2, 1) := by decide +kernel
theorem dX7_where_51 : decode cX7_where 51 = .ok (.idiv, 1) := by decide +kernel
theorem dX7_where_52 : decode cX7_where 52 = .ok (.goto 6, 3) := by decide +kernel
theorem dX7_where_55 : decode cX7_where 55 = .ok (.iload_n 2, 1) := by decide +kernel
theorem dX7_where_56 : decode cX7_where 56 = .ok (.iconst 1, 1) := by decide +kernel
theorem dX7_where_57 : decode cX7_where 57 = .ok (.isub, 1) := by decide +kernel
theorem dX7_where_58 : decode cX7_where 58 = .ok (.istore 4, 2) := by decide +kernel
theorem dX7_where_60 : decode cX7_where 60 = .ok (.aload_n 0, 1) := by decide +kernel
theorem dX7_where_61 : decode cX7_where 61 = .ok (.getfield 19, 3) := by decide +kernel
theorem dX7_where_64 : decode cX7_where 64 = .ok (.iload_n 1, 1) := by decide +kernel
theorem dX7_where_65 : decode cX7_where 65 = .ok (.iaload, 1) := by decide +kernel
theorem dX7_where_66 : decode cX7_where 66 = .ok (.iconst 1, 1) := by decide +kernel
theorem dX7_where_67 : decode cX7_where 67 = .ok (.if_icmp .ne 16, 3) := by decide +kernel
theorem dX7_where_70 : decode cX7_where 70 = .ok (.iload_n 3, 1) := by decide +kernel
theorem dX7_where_71 : decode cX7_where 71 = .ok (.aload_n 0, 1) := by decide +kernel
theorem dX7_where_72 : decode cX7_where 72 = .ok (.iload_n 1, 1) := by decide +kernel
theorem dX7_where_73 : decode cX7_where 73 = .ok (.invokevirtual 139, 3) := by decide +kernel
theorem dX7_where_76 : decode cX7_where 76 = .ok (.imul, 1) := by decide +kernel
theorem dX7_where_77 : decode cX7_where 77 = .ok (.iload 4, 2) := by decide +kernel
theorem dX7_where_79 : decode cX7_where 79 = .ok (.iadd, 1) := by decide +kernel
theorem dX7_where_80 : decode cX7_where 80 = .ok (.goto 14, 3) := by decide +kernel
theorem dX7_where_83 : decode cX7_where 83 = .ok (.iload 4, 2) := by decide +kernel
theorem dX7_where_85 : decode cX7_where 85 = .ok (.aload_n 0, 1) := by decide +kernel
theorem dX7_where_86 : decode cX7_where 86 = .ok (.getfield 13, 3) := by decide +kernel
theorem dX7_where_89 : decode cX7_where 89 = .ok (.iload_n 1, 1) := by decide +kernel
theorem dX7_where_90 : decode cX7_where 90 = .ok (.iaload, 1) := by decide +kernel
theorem dX7_where_91 : decode cX7_where 91 = .ok (.imul, 1) := by decide +kernel
theorem dX7_where_92 : decode cX7_where 92 = .ok (.iload_n 3, 1) := by decide +kernel
theorem dX7_where_93 : decode cX7_where 93 = .ok (.iadd, 1) := by decide +kernel
theorem dX7_where_94 : decode cX7_where 94 = .ok (.ireturn, 1) := by decide +kernel
theorem dX7_placeOf_0 : decode cX7_placeOf 0 = .ok (.iconst 0, 1) := by decide +kernel
theorem dX7_placeOf_1 : decode cX7_placeOf 1 = .ok (.istore_n 2, 1) := by decide +kernel
theorem dX7_placeOf_2 : decode cX7_placeOf 2 = .ok (.iload_n 2, 1) := by decide +kernel
theorem dX7_placeOf_3 : decode cX7_placeOf 3 = .ok (.aload_n 0, 1) := by decide +kernel
theorem dX7_placeOf_4 : decode cX7_placeOf 4 = .ok (.getfield 29, 3) := by decide +kernel
theorem dX7_placeOf_7 : decode cX7_placeOf 7 = .ok (.iconst 3, 1) := by decide +kernel
theorem dX7_placeOf_8 : decode cX7_placeOf 8 = .ok (.iaload, 1) := by decide +kernel
theorem dX7_placeOf_9 : decode cX7_placeOf 9 = .ok (.if_icmp .ge 24, 3) := by decide +kernel
theorem dX7_placeOf_12 : decode cX7_placeOf 12 = .ok (.aload_n 0, 1) := by decide +kernel
theorem dX7_placeOf_13 : decode cX7_placeOf 13 = .ok (.getfield 29, 3) := by decide +kernel
theorem dX7_placeOf_16 : decode cX7_placeOf 16 = .ok (.bipush 13, 2) := by decide +kernel
theorem dX7_placeOf_18 : decode cX7_placeOf 18 = .ok (.iload_n 2, 1) := by decide +kernel
theorem dX7_placeOf_19 : decode cX7_placeOf 19 = .ok (.iadd, 1) := by decide +kernel
theorem dX7_placeOf_20 : decode cX7_placeOf 20 = .ok (.iaload, 1) := by decide +kernel
theorem dX7_placeOf_21 : decode cX7_placeOf 21 = .ok (.iload_n 1, 1) := by decide +kernel
theorem dX7_placeOf_22 : decode cX7_placeOf 22 = .ok (.if_icmp .ne 5, 3) := by decide +kernel
theorem dX7_placeOf_25 : decode cX7_placeOf 25 = .ok (.iload_n 2, 1) := by decide +kernel
theorem dX7_placeOf_26 : decode cX7_placeOf 26 = .ok (.ireturn, 1) := by decide +kernel
theorem dX7_placeOf_27 : decode cX7_placeOf 27 = .ok (.iinc 2 1, 3) := by decide +kernel
theorem dX7_placeOf_30 : decode cX7_placeOf 30 = .ok (.goto (-28), 3) := by decide +kernel
theorem dX7_placeOf_33 : decode cX7_placeOf 33 = .ok (.bipush (-9), 2) := by decide +kernel
theorem dX7_placeOf_35 : decode cX7_placeOf 35 = .ok (.ireturn, 1) := by decide +kernel
theorem dX7_stands_0 : decode cX7_stands 0 = .ok (.aload_n 0, 1) := by decide +kernel
theorem dX7_stands_1 : decode cX7_stands 1 = .ok (.getfield 29, 3) := by decide +kernel
theorem dX7_stands_4 : decode cX7_stands 4 = .ok (.iconst 3, 1) := by decide +kernel
theorem dX7_stands_5 : decode cX7_stands 5 = .ok (.iaload, 1) := by decide +kernel
theorem dX7_stands_6 : decode cX7_stands 6 = .ok (.ifCond .ne 5, 3) := by decide +kernel
theorem dX7_stands_9 : decode cX7_stands 9 = .ok (.iconst 0, 1) := by decide +kernel
theorem dX7_stands_10 : decode cX7_stands 10 = .ok (.ireturn, 1) := by decide +kernel
theorem dX7_stands_11 : decode cX7_stands 11 = .ok (.aload_n 0, 1) := by decide +kernel
theorem dX7_stands_12 : decode cX7_stands 12 = .ok (.getfield 29, 3) := by decide +kernel
theorem dX7_stands_15 : decode cX7_stands 15 = .ok (.bipush 13, 2) := by decide +kernel
theorem dX7_stands_17 : decode cX7_stands 17 = .ok (.iaload, 1) := by decide +kernel
theorem dX7_stands_18 : decode cX7_stands 18 = .ok (.istore_n 1, 1) := by decide +kernel
theorem dX7_stands_19 : decode cX7_stands 19 = .ok (.aload_n 0, 1) := by decide +kernel
theorem dX7_stands_20 : decode cX7_stands 20 = .ok (.getfield 29, 3) := by decide +kernel
theorem dX7_stands_23 : decode cX7_stands 23 = .ok (.bipush 19, 2) := by decide +kernel
theorem dX7_stands_25 : decode cX7_stands 25 = .ok (.iload_n 1, 1) := by decide +kernel
theorem dX7_stands_26 : decode cX7_stands 26 = .ok (.iadd, 1) := by decide +kernel
theorem dX7_stands_27 : decode cX7_stands 27 = .ok (.iaload, 1) := by decide +kernel
theorem dX7_stands_28 : decode cX7_stands 28 = .ok (.istore_n 2, 1) := by decide +kernel
theorem dX7_stands_29 : decode cX7_stands 29 = .ok (.aload_n 0, 1) := by decide +kernel
theorem dX7_stands_30 : decode cX7_stands 30 = .ok (.getfield 29, 3) := by decide +kernel
theorem dX7_stands_33 : decode cX7_stands 33 = .ok (.iconst 4, 1) := by decide +kernel
theorem dX7_stands_34 : decode cX7_stands 34 = .ok (.aload_n 0, 1) := by decide +kernel
theorem dX7_stands_35 : decode cX7_stands 35 = .ok (.getfield 22, 3) := by decide +kernel
theorem dX7_stands_38 : decode cX7_stands 38 = .ok (.iload_n 1, 1) := by decide +kernel
theorem dX7_stands_39 : decode cX7_stands 39 = .ok (.iaload, 1) := by decide +kernel
theorem dX7_stands_40 : decode cX7_stands 40 = .ok (.iadd, 1) := by decide +kernel
theorem dX7_stands_41 : decode cX7_stands 41 = .ok (.iaload, 1) := by decide +kernel
theorem dX7_stands_42 : decode cX7_stands 42 = .ok (.ifCond .ne 7, 3) := by decide +kernel
theorem dX7_stands_45 : decode cX7_stands 45 = .ok (.iconst 1, 1) := by decide +kernel
theorem dX7_stands_46 : decode cX7_stands 46 = .ok (.goto 46, 3) := by decide +kernel
theorem dX7_stands_49 : decode cX7_stands 49 = .ok (.aload_n 0, 1) := by decide +kernel
theorem dX7_stands_50 : decode cX7_stands 50 = .ok (.getfield 29, 3) := by decide +kernel
theorem dX7_stands_53 : decode cX7_stands 53 = .ok (.iconst 1, 1) := by decide +kernel
theorem dX7_stands_54 : decode cX7_stands 54 = .ok (.iaload, 1) := by decide +kernel
theorem dX7_stands_55 : decode cX7_stands 55 = .ok (.aload_n 0, 1) := by decide +kernel
theorem dX7_stands_56 : decode cX7_stands 56 = .ok (.iload_n 1, 1) := by decide +kernel
theorem dX7_stands_57 : decode cX7_stands 57 = .ok (.iload_n 2, 1) := by decide +kernel
theorem dX7_stands_58 : decode cX7_stands 58 = .ok (.invokevirtual 169, 3) := by decide +kernel
theorem dX7_stands_61 : decode cX7_stands 61 = .ok (.if_icmp .ge 7, 3) := by decide +kernel
theorem dX7_stands_64 : decode cX7_stands 64 = .ok (.iconst 2, 1) := by decide +kernel
theorem dX7_stands_65 : decode cX7_stands 65 = .ok (.goto 27, 3) := by decide +kernel
theorem dX7_stands_68 : decode cX7_stands 68 = .ok (.aload_n 0, 1) := by decide +kernel
theorem dX7_stands_69 : decode cX7_stands 69 = .ok (.getfield 29, 3) := by decide +kernel
theorem dX7_stands_72 : decode cX7_stands 72 = .ok (.bipush 7, 2) := by decide +kernel
theorem dX7_stands_74 : decode cX7_stands 74 = .ok (.aload_n 0, 1) := by decide +kernel
theorem dX7_stands_75 : decode cX7_stands 75 = .ok (.iload_n 1, 1) := by decide +kernel
theorem dX7_stands_76 : decode cX7_stands 76 = .ok (.iload_n 2, 1) := by decide +kernel
theorem dX7_stands_77 : decode cX7_stands 77 = .ok (.invokevirtual 163, 3) := by decide +kernel
theorem dX7_stands_80 : decode cX7_stands 80 = .ok (.iadd, 1) := by decide +kernel
theorem dX7_stands_81 : decode cX7_stands 81 = .ok (.iaload, 1) := by decide +kernel
theorem dX7_stands_82 : decode cX7_stands 82 = .ok (.bipush 20, 2) := by decide +kernel
theorem dX7_stands_84 : decode cX7_stands 84 = .ok (.if_icmp .ne 7, 3) := by decide +kernel
theorem dX7_stands_87 : decode cX7_stands 87 = .ok (.iconst 3, 1) := by decide +kernel
theorem dX7_stands_88 : decode cX7_stands 88 = .ok (.goto 4, 3) := by decide +kernel
theorem dX7_stands_91 : decode cX7_stands 91 = .ok (.iconst 0, 1) := by decide +kernel
theorem dX7_stands_92 : decode cX7_stands 92 = .ok (.ireturn, 1) := by decide +kernel
theorem dX7_leaveAt_0 : decode cX7_leaveAt 0 = .ok (.aload_n 0, 1) := by decide +kernel
theorem dX7_leaveAt_1 : decode cX7_leaveAt 1 = .ok (.getfield 29, 3) := by decide +kernel
theorem dX7_leaveAt_4 : decode cX7_leaveAt 4 = .ok (.iconst 3, 1) := by decide +kernel
theorem dX7_leaveAt_5 : decode cX7_leaveAt 5 = .ok (.dup2, 1) := by decide +kernel
theorem dX7_leaveAt_6 : decode cX7_leaveAt 6 = .ok (.iaload, 1) := by decide +kernel
theorem dX7_leaveAt_7 : decode cX7_leaveAt 7 = .ok (.iconst 1, 1) := by decide +kernel
theorem dX7_leaveAt_8 : decode cX7_leaveAt 8 = .ok (.isub, 1) := by decide +kernel
theorem dX7_leaveAt_9 : decode cX7_leaveAt 9 = .ok (.iastore, 1) := by decide +kernel
theorem dX7_leaveAt_10 : decode cX7_leaveAt 10 = .ok (.iload_n 1, 1) := by decide +kernel
theorem dX7_leaveAt_11 : decode cX7_leaveAt 11 = .ok (.istore_n 2, 1) := by decide +kernel
theorem dX7_leaveAt_12 : decode cX7_leaveAt 12 = .ok (.iload_n 2, 1) := by decide +kernel
theorem dX7_leaveAt_13 : decode cX7_leaveAt 13 = .ok (.aload_n 0, 1) := by decide +kernel
theorem dX7_leaveAt_14 : decode cX7_leaveAt 14 = .ok (.getfield 29, 3) := by decide +kernel
theorem dX7_leaveAt_17 : decode cX7_leaveAt 17 = .ok (.iconst 3, 1) := by decide +kernel
theorem dX7_leaveAt_18 : decode cX7_leaveAt 18 = .ok (.iaload, 1) := by decide +kernel
theorem dX7_leaveAt_19 : decode cX7_leaveAt 19 = .ok (.if_icmp .ge 29, 3) := by decide +kernel
theorem dX7_leaveAt_22 : decode cX7_leaveAt 22 = .ok (.aload_n 0, 1) := by decide +kernel
theorem dX7_leaveAt_23 : decode cX7_leaveAt 23 = .ok (.getfield 29, 3) := by decide +kernel
theorem dX7_leaveAt_26 : decode cX7_leaveAt 26 = .ok (.bipush 13, 2) := by decide +kernel
theorem dX7_leaveAt_28 : decode cX7_leaveAt 28 = .ok (.iload_n 2, 1) := by decide +kernel
theorem dX7_leaveAt_29 : decode cX7_leaveAt 29 = .ok (.iadd, 1) := by decide +kernel
theorem dX7_leaveAt_30 : decode cX7_leaveAt 30 = .ok (.aload_n 0, 1) := by decide +kernel
theorem dX7_leaveAt_31 : decode cX7_leaveAt 31 = .ok (.getfield 29, 3) := by decide +kernel
theorem dX7_leaveAt_34 : decode cX7_leaveAt 34 = .ok (.bipush 13, 2) := by decide +kernel
theorem dX7_leaveAt_36 : decode cX7_leaveAt 36 = .ok (.iload_n 2, 1) := by decide +kernel
theorem dX7_leaveAt_37 : decode cX7_leaveAt 37 = .ok (.iadd, 1) := by decide +kernel
theorem dX7_leaveAt_38 : decode cX7_leaveAt 38 = .ok (.iconst 1, 1) := by decide +kernel
theorem dX7_leaveAt_39 : decode cX7_leaveAt 39 = .ok (.iadd, 1) := by decide +kernel
theorem dX7_leaveAt_40 : decode cX7_leaveAt 40 = .ok (.iaload, 1) := by decide +kernel
theorem dX7_leaveAt_41 : decode cX7_leaveAt 41 = .ok (.iastore, 1) := by decide +kernel
theorem dX7_leaveAt_42 : decode cX7_leaveAt 42 = .ok (.iinc 2 1, 3) := by decide +kernel
theorem dX7_leaveAt_45 : decode cX7_leaveAt 45 = .ok (.goto (-33), 3) := by decide +kernel
theorem dX7_leaveAt_48 : decode cX7_leaveAt 48 = .ok (.aload_n 0, 1) := by decide +kernel
theorem dX7_leaveAt_49 : decode cX7_leaveAt 49 = .ok (.getfield 29, 3) := by decide +kernel
theorem dX7_leaveAt_52 : decode cX7_leaveAt 52 = .ok (.bipush 13, 2) := by decide +kernel
theorem dX7_leaveAt_54 : decode cX7_leaveAt 54 = .ok (.aload_n 0, 1) := by decide +kernel
theorem dX7_leaveAt_55 : decode cX7_leaveAt 55 = .ok (.getfield 29, 3) := by decide +kernel
theorem dX7_leaveAt_58 : decode cX7_leaveAt 58 = .ok (.iconst 3, 1) := by decide +kernel
theorem dX7_leaveAt_59 : decode cX7_leaveAt 59 = .ok (.iaload, 1) := by decide +kernel
theorem dX7_leaveAt_60 : decode cX7_leaveAt 60 = .ok (.iadd, 1) := by decide +kernel
theorem dX7_leaveAt_61 : decode cX7_leaveAt 61 = .ok (.iconst 0, 1) := by decide +kernel
theorem dX7_leaveAt_62 : decode cX7_leaveAt 62 = .ok (.iastore, 1) := by decide +kernel
theorem dX7_leaveAt_63 : decode cX7_leaveAt 63 = .ok (.return_, 1) := by decide +kernel
theorem dX7_oneTick_0 : decode cX7_oneTick 0 = .ok (.aload_n 0, 1) := by decide +kernel
theorem dX7_oneTick_1 : decode cX7_oneTick 1 = .ok (.getfield 29, 3) := by decide +kernel
theorem dX7_oneTick_4 : decode cX7_oneTick 4 = .ok (.iconst 0, 1) := by decide +kernel
theorem dX7_oneTick_5 : decode cX7_oneTick 5 = .ok (.dup2, 1) := by decide +kernel
theorem dX7_oneTick_6 : decode cX7_oneTick 6 = .ok (.iaload, 1) := by decide +kernel
theorem dX7_oneTick_7 : decode cX7_oneTick 7 = .ok (.iconst 1, 1) := by decide +kernel
theorem dX7_oneTick_8 : decode cX7_oneTick 8 = .ok (.iadd, 1) := by decide +kernel
theorem dX7_oneTick_9 : decode cX7_oneTick 9 = .ok (.iastore, 1) := by decide +kernel
theorem dX7_oneTick_10 : decode cX7_oneTick 10 = .ok (.aload_n 0, 1) := by decide +kernel
theorem dX7_oneTick_11 : decode cX7_oneTick 11 = .ok (.getfield 29, 3) := by decide +kernel
theorem dX7_oneTick_14 : decode cX7_oneTick 14 = .ok (.iconst 3, 1) := by decide +kernel
theorem dX7_oneTick_15 : decode cX7_oneTick 15 = .ok (.iaload, 1) := by decide +kernel
theorem dX7_oneTick_16 : decode cX7_oneTick 16 = .ok (.ifCond .eq 10, 3) := by decide +kernel
theorem dX7_oneTick_19 : decode cX7_oneTick 19 = .ok (.aload_n 0, 1) := by decide +kernel
theorem dX7_oneTick_20 : decode cX7_oneTick 20 = .ok (.invokevirtual 172, 3) := by decide +kernel
theorem dX7_oneTick_23 : decode cX7_oneTick 23 = .ok (.ifCond .le 5, 3) := by decide +kernel
theorem dX7_oneTick_26 : decode cX7_oneTick 26 = .ok (.iconst 0, 1) := by decide +kernel
theorem dX7_oneTick_27 : decode cX7_oneTick 27 = .ok (.ireturn, 1) := by decide +kernel
theorem dX7_oneTick_28 : decode cX7_oneTick 28 = .ok (.aload_n 0, 1) := by decide +kernel
theorem dX7_oneTick_29 : decode cX7_oneTick 29 = .ok (.getfield 29, 3) := by decide +kernel
theorem dX7_oneTick_32 : decode cX7_oneTick 32 = .ok (.bipush 13, 2) := by decide +kernel
theorem dX7_oneTick_34 : decode cX7_oneTick 34 = .ok (.iaload, 1) := by decide +kernel
theorem dX7_oneTick_35 : decode cX7_oneTick 35 = .ok (.istore_n 1, 1) := by decide +kernel
theorem dX7_oneTick_36 : decode cX7_oneTick 36 = .ok (.aload_n 0, 1) := by decide +kernel
theorem dX7_oneTick_37 : decode cX7_oneTick 37 = .ok (.getfield 29, 3) := by decide +kernel
theorem dX7_oneTick_40 : decode cX7_oneTick 40 = .ok (.bipush 19, 2) := by decide +kernel
theorem dX7_oneTick_42 : decode cX7_oneTick 42 = .ok (.iload_n 1, 1) := by decide +kernel
theorem dX7_oneTick_43 : decode cX7_oneTick 43 = .ok (.iadd, 1) := by decide +kernel
theorem dX7_oneTick_44 : decode cX7_oneTick 44 = .ok (.iaload, 1) := by decide +kernel
theorem dX7_oneTick_45 : decode cX7_oneTick 45 = .ok (.istore_n 2, 1) := by decide +kernel
theorem dX7_oneTick_46 : decode cX7_oneTick 46 = .ok (.aload_n 0, 1) := by decide +kernel
theorem dX7_oneTick_47 : decode cX7_oneTick 47 = .ok (.iload_n 1, 1) := by decide +kernel
theorem dX7_oneTick_48 : decode cX7_oneTick 48 = .ok (.iload_n 2, 1) := by decide +kernel
theorem dX7_oneTick_49 : decode cX7_oneTick 49 = .ok (.invokevirtual 169, 3) := by decide +kernel
theorem dX7_oneTick_52 : decode cX7_oneTick 52 = .ok (.istore_n 3, 1) := by decide +kernel
theorem dX7_oneTick_53 : decode cX7_oneTick 53 = .ok (.iload_n 3, 1) := by decide +kernel
theorem dX7_oneTick_54 : decode cX7_oneTick 54 = .ok (.iconst 2, 1) := by decide +kernel
theorem dX7_oneTick_55 : decode cX7_oneTick 55 = .ok (.if_icmp .ne 21, 3) := by decide +kernel
theorem dX7_oneTick_58 : decode cX7_oneTick 58 = .ok (.aload_n 0, 1) := by decide +kernel
theorem dX7_oneTick_59 : decode cX7_oneTick 59 = .ok (.getfield 29, 3) := by decide +kernel
theorem dX7_oneTick_62 : decode cX7_oneTick 62 = .ok (.iconst 2, 1) := by decide +kernel
theorem dX7_oneTick_63 : decode cX7_oneTick 63 = .ok (.iaload, 1) := by decide +kernel
theorem dX7_oneTick_64 : decode cX7_oneTick 64 = .ok (.ifCond .ne 12, 3) := by decide +kernel
theorem dX7_oneTick_67 : decode cX7_oneTick 67 = .ok (.aload_n 0, 1) := by decide +kernel
theorem dX7_oneTick_68 : decode cX7_oneTick 68 = .ok (.getfield 29, 3) := by decide +kernel
theorem dX7_oneTick_71 : decode cX7_oneTick 71 = .ok (.iconst 2, 1) := by decide +kernel
theorem dX7_oneTick_72 : decode cX7_oneTick 72 = .ok (.iconst 1, 1) := by decide +kernel
theorem dX7_oneTick_73 : decode cX7_oneTick 73 = .ok (.iastore, 1) := by decide +kernel
theorem dX7_oneTick_74 : decode cX7_oneTick 74 = .ok (.iconst 0, 1) := by decide +kernel
theorem dX7_oneTick_75 : decode cX7_oneTick 75 = .ok (.ireturn, 1) := by decide +kernel
theorem dX7_oneTick_76 : decode cX7_oneTick 76 = .ok (.aload_n 0, 1) := by decide +kernel
theorem dX7_oneTick_77 : decode cX7_oneTick 77 = .ok (.getfield 29, 3) := by decide +kernel
theorem dX7_oneTick_80 : decode cX7_oneTick 80 = .ok (.iconst 2, 1) := by decide +kernel
theorem dX7_oneTick_81 : decode cX7_oneTick 81 = .ok (.iconst 0, 1) := by decide +kernel
theorem dX7_oneTick_82 : decode cX7_oneTick 82 = .ok (.iastore, 1) := by decide +kernel
theorem dX7_oneTick_83 : decode cX7_oneTick 83 = .ok (.aload_n 0, 1) := by decide +kernel
theorem dX7_oneTick_84 : decode cX7_oneTick 84 = .ok (.getfield 29, 3) := by decide +kernel
theorem dX7_oneTick_87 : decode cX7_oneTick 87 = .ok (.iconst 4, 1) := by decide +kernel
theorem dX7_oneTick_88 : decode cX7_oneTick 88 = .ok (.aload_n 0, 1) := by decide +kernel
theorem dX7_oneTick_89 : decode cX7_oneTick 89 = .ok (.getfield 22, 3) := by decide +kernel
theorem dX7_oneTick_92 : decode cX7_oneTick 92 = .ok (.iload_n 1, 1) := by decide +kernel
theorem dX7_oneTick_93 : decode cX7_oneTick 93 = .ok (.iaload, 1) := by decide +kernel
theorem dX7_oneTick_94 : decode cX7_oneTick 94 = .ok (.iadd, 1) := by decide +kernel
theorem dX7_oneTick_95 : decode cX7_oneTick 95 = .ok (.dup2, 1) := by decide +kernel
theorem dX7_oneTick_96 : decode cX7_oneTick 96 = .ok (.iaload, 1) := by decide +kernel
theorem dX7_oneTick_97 : decode cX7_oneTick 97 = .ok (.iconst 1, 1) := by decide +kernel
theorem dX7_oneTick_98 : decode cX7_oneTick 98 = .ok (.isub, 1) := by decide +kernel
theorem dX7_oneTick_99 : decode cX7_oneTick 99 = .ok (.iastore, 1) := by decide +kernel
theorem dX7_oneTick_100 : decode cX7_oneTick 100 = .ok (.aload_n 0, 1) := by decide +kernel
theorem dX7_oneTick_101 : decode cX7_oneTick 101 = .ok (.getfield 29, 3) := by decide +kernel
theorem dX7_oneTick_104 : decode cX7_oneTick 104 = .ok (.iconst 1, 1) := by decide +kernel
theorem dX7_oneTick_105 : decode cX7_oneTick 105 = .ok (.dup2, 1) := by decide +kernel
theorem dX7_oneTick_106 : decode cX7_oneTick 106 = .ok (.iaload, 1) := by decide +kernel
theorem dX7_oneTick_107 : decode cX7_oneTick 107 = .ok (.iload_n 3, 1) := by decide +kernel
theorem dX7_oneTick_108 : decode cX7_oneTick 108 = .ok (.isub, 1) := by decide +kernel
theorem dX7_oneTick_109 : decode cX7_oneTick 109 = .ok (.iastore, 1) := by decide +kernel
theorem dX7_oneTick_110 : decode cX7_oneTick 110 = .ok (.aload_n 0, 1) := by decide +kernel
theorem dX7_oneTick_111 : decode cX7_oneTick 111 = .ok (.getfield 29, 3) := by decide +kernel
theorem dX7_oneTick_114 : decode cX7_oneTick 114 = .ok (.bipush 7, 2) := by decide +kernel
theorem dX7_oneTick_116 : decode cX7_oneTick 116 = .ok (.aload_n 0, 1) := by decide +kernel
theorem dX7_oneTick_117 : decode cX7_oneTick 117 = .ok (.iload_n 1, 1) := by decide +kernel
theorem dX7_oneTick_118 : decode cX7_oneTick 118 = .ok (.iload_n 2, 1) := by decide +kernel
theorem dX7_oneTick_119 : decode cX7_oneTick 119 = .ok (.invokevirtual 163, 3) := by decide +kernel
theorem dX7_oneTick_122 : decode cX7_oneTick 122 = .ok (.iadd, 1) := by decide +kernel
theorem dX7_oneTick_123 : decode cX7_oneTick 123 = .ok (.dup2, 1) := by decide +kernel
theorem dX7_oneTick_124 : decode cX7_oneTick 124 = .ok (.iaload, 1) := by decide +kernel
theorem dX7_oneTick_125 : decode cX7_oneTick 125 = .ok (.iconst 1, 1) := by decide +kernel
theorem dX7_oneTick_126 : decode cX7_oneTick 126 = .ok (.iadd, 1) := by decide +kernel
theorem dX7_oneTick_127 : decode cX7_oneTick 127 = .ok (.iastore, 1) := by decide +kernel
theorem dX7_oneTick_128 : decode cX7_oneTick 128 = .ok (.aload_n 0, 1) := by decide +kernel
theorem dX7_oneTick_129 : decode cX7_oneTick 129 = .ok (.getfield 29, 3) := by decide +kernel
theorem dX7_oneTick_132 : decode cX7_oneTick 132 = .ok (.bipush 19, 2) := by decide +kernel
theorem dX7_oneTick_134 : decode cX7_oneTick 134 = .ok (.iload_n 1, 1) := by decide +kernel
theorem dX7_oneTick_135 : decode cX7_oneTick 135 = .ok (.iadd, 1) := by decide +kernel
theorem dX7_oneTick_136 : decode cX7_oneTick 136 = .ok (.dup2, 1) := by decide +kernel
theorem dX7_oneTick_137 : decode cX7_oneTick 137 = .ok (.iaload, 1) := by decide +kernel
theorem dX7_oneTick_138 : decode cX7_oneTick 138 = .ok (.iconst 1, 1) := by decide +kernel
theorem dX7_oneTick_139 : decode cX7_oneTick 139 = .ok (.iadd, 1) := by decide +kernel
theorem dX7_oneTick_140 : decode cX7_oneTick 140 = .ok (.iastore, 1) := by decide +kernel
theorem dX7_oneTick_141 : decode cX7_oneTick 141 = .ok (.aload_n 0, 1) := by decide +kernel
theorem dX7_oneTick_142 : decode cX7_oneTick 142 = .ok (.getfield 29, 3) := by decide +kernel
theorem dX7_oneTick_145 : decode cX7_oneTick 145 = .ok (.bipush 19, 2) := by decide +kernel
theorem dX7_oneTick_147 : decode cX7_oneTick 147 = .ok (.iload_n 1, 1) := by decide +kernel
theorem dX7_oneTick_148 : decode cX7_oneTick 148 = .ok (.iadd, 1) := by decide +kernel
theorem dX7_oneTick_149 : decode cX7_oneTick 149 = .ok (.iaload, 1) := by decide +kernel
theorem dX7_oneTick_150 : decode cX7_oneTick 150 = .ok (.aload_n 0, 1) := by decide +kernel
theorem dX7_oneTick_151 : decode cX7_oneTick 151 = .ok (.iload_n 1, 1) := by decide +kernel
theorem dX7_oneTick_152 : decode cX7_oneTick 152 = .ok (.invokevirtual 160, 3) := by decide +kernel
theorem dX7_oneTick_155 : decode cX7_oneTick 155 = .ok (.if_icmp .ne 23, 3) := by decide +kernel
theorem dX7_oneTick_158 : decode cX7_oneTick 158 = .ok (.aload_n 0, 1) := by decide +kernel
theorem dX7_oneTick_159 : decode cX7_oneTick 159 = .ok (.getfield 29, 3) := by decide +kernel
theorem dX7_oneTick_162 : decode cX7_oneTick 162 = .ok (.bipush 25, 2) := by decide +kernel
theorem dX7_oneTick_164 : decode cX7_oneTick 164 = .ok (.iload_n 1, 1) := by decide +kernel
theorem dX7_oneTick_165 : decode cX7_oneTick 165 = .ok (.iadd, 1) := by decide +kernel
theorem dX7_oneTick_166 : decode cX7_oneTick 166 = .ok (.aload_n 0, 1) := by decide +kernel
theorem dX7_oneTick_167 : decode cX7_oneTick 167 = .ok (.getfield 29, 3) := by decide +kernel
theorem dX7_oneTick_170 : decode cX7_oneTick 170 = .ok (.iconst 0, 1) := by decide +kernel
theorem dX7_oneTick_171 : decode cX7_oneTick 171 = .ok (.iaload, 1) := by decide +kernel
theorem dX7_oneTick_172 : decode cX7_oneTick 172 = .ok (.iastore, 1) := by decide +kernel
theorem dX7_oneTick_173 : decode cX7_oneTick 173 = .ok (.aload_n 0, 1) := by decide +kernel
theorem dX7_oneTick_174 : decode cX7_oneTick 174 = .ok (.iconst 0, 1) := by decide +kernel
theorem dX7_oneTick_175 : decode cX7_oneTick 175 = .ok (.invokevirtual 175, 3) := by decide +kernel
theorem dX7_oneTick_178 : decode cX7_oneTick 178 = .ok (.iconst 1, 1) := by decide +kernel
theorem dX7_oneTick_179 : decode cX7_oneTick 179 = .ok (.ireturn, 1) := by decide +kernel
theorem dX7_note_0 : decode cX7_note 0 = .ok (.aload_n 0, 1) := by decide +kernel
theorem dX7_note_1 : decode cX7_note 1 = .ok (.getfield 133, 3) := by decide +kernel
theorem dX7_note_4 : decode cX7_note 4 = .ok (.bipush 10, 2) := by decide +kernel
theorem dX7_note_6 : decode cX7_note 6 = .ok (.if_icmp .ne 43, 3) := by decide +kernel
theorem dX7_note_9 : decode cX7_note 9 = .ok (.iconst 0, 1) := by decide +kernel
theorem dX7_note_10 : decode cX7_note 10 = .ok (.istore_n 1, 1) := by decide +kernel
theorem dX7_note_11 : decode cX7_note 11 = .ok (.iload_n 1, 1) := by decide +kernel
theorem dX7_note_12 : decode cX7_note 12 = .ok (.sipush 279, 3) := by decide +kernel
theorem dX7_note_15 : decode cX7_note 15 = .ok (.if_icmp .ge 24, 3) := by decide +kernel
theorem dX7_note_18 : decode cX7_note 18 = .ok (.aload_n 0, 1) := by decide +kernel
theorem dX7_note_19 : decode cX7_note 19 = .ok (.getfield 32, 3) := by decide +kernel
theorem dX7_note_22 : decode cX7_note 22 = .ok (.iload_n 1, 1) := by decide +kernel
theorem dX7_note_23 : decode cX7_note 23 = .ok (.aload_n 0, 1) := by decide +kernel
theorem dX7_note_24 : decode cX7_note 24 = .ok (.getfield 32, 3) := by decide +kernel
theorem dX7_note_27 : decode cX7_note 27 = .ok (.iload_n 1, 1) := by decide +kernel
theorem dX7_note_28 : decode cX7_note 28 = .ok (.bipush 31, 2) := by decide +kernel
theorem dX7_note_30 : decode cX7_note 30 = .ok (.iadd, 1) := by decide +kernel
theorem dX7_note_31 : decode cX7_note 31 = .ok (.iaload, 1) := by decide +kernel
theorem dX7_note_32 : decode cX7_note 32 = .ok (.iastore, 1) := by decide +kernel
theorem dX7_note_33 : decode cX7_note 33 = .ok (.iinc 1 1, 3) := by decide +kernel
theorem dX7_note_36 : decode cX7_note 36 = .ok (.goto (-25), 3) := by decide +kernel
theorem dX7_note_39 : decode cX7_note 39 = .ok (.aload_n 0, 1) := by decide +kernel
theorem dX7_note_40 : decode cX7_note 40 = .ok (.dup, 1) := by decide +kernel
theorem dX7_note_41 : decode cX7_note 41 = .ok (.getfield 133, 3) := by decide +kernel
theorem dX7_note_44 : decode cX7_note 44 = .ok (.iconst 1, 1) := by decide +kernel
theorem dX7_note_45 : decode cX7_note 45 = .ok (.isub, 1) := by decide +kernel
theorem dX7_note_46 : decode cX7_note 46 = .ok (.putfield 133, 3) := by decide +kernel
theorem dX7_note_49 : decode cX7_note 49 = .ok (.iconst 0, 1) := by decide +kernel
theorem dX7_note_50 : decode cX7_note 50 = .ok (.istore_n 1, 1) := by decide +kernel
theorem dX7_note_51 : decode cX7_note 51 = .ok (.iload_n 1, 1) := by decide +kernel
theorem dX7_note_52 : decode cX7_note 52 = .ok (.bipush 31, 2) := by decide +kernel
theorem dX7_note_54 : decode cX7_note 54 = .ok (.if_icmp .ge 29, 3) := by decide +kernel
theorem dX7_note_57 : decode cX7_note 57 = .ok (.aload_n 0, 1) := by decide +kernel
theorem dX7_note_58 : decode cX7_note 58 = .ok (.getfield 32, 3) := by decide +kernel
theorem dX7_note_61 : decode cX7_note 61 = .ok (.bipush 31, 2) := by decide +kernel
theorem dX7_note_63 : decode cX7_note 63 = .ok (.aload_n 0, 1) := by decide +kernel
theorem dX7_note_64 : decode cX7_note 64 = .ok (.getfield 133, 3) := by decide +kernel
theorem dX7_note_67 : decode cX7_note 67 = .ok (.imul, 1) := by decide +kernel
theorem dX7_note_68 : decode cX7_note 68 = .ok (.iload_n 1, 1) := by decide +kernel
theorem dX7_note_69 : decode cX7_note 69 = .ok (.iadd, 1) := by decide +kernel
theorem dX7_note_70 : decode cX7_note 70 = .ok (.aload_n 0, 1) := by decide +kernel
theorem dX7_note_71 : decode cX7_note 71 = .ok (.getfield 29, 3) := by decide +kernel
theorem dX7_note_74 : decode cX7_note 74 = .ok (.iload_n 1, 1) := by decide +kernel
theorem dX7_note_75 : decode cX7_note 75 = .ok (.iaload, 1) := by decide +kernel
theorem dX7_note_76 : decode cX7_note 76 = .ok (.iastore, 1) := by decide +kernel
theorem dX7_note_77 : decode cX7_note 77 = .ok (.iinc 1 1, 3) := by decide +kernel
theorem dX7_note_80 : decode cX7_note 80 = .ok (.goto (-29), 3) := by decide +kernel
theorem dX7_note_83 : decode cX7_note 83 = .ok (.aload_n 0, 1) := by decide +kernel
theorem dX7_note_84 : decode cX7_note 84 = .ok (.dup, 1) := by decide +kernel
theorem dX7_note_85 : decode cX7_note 85 = .ok (.getfield 133, 3) := by decide +kernel
theorem dX7_note_88 : decode cX7_note 88 = .ok (.iconst 1, 1) := by decide +kernel
theorem dX7_note_89 : decode cX7_note 89 = .ok (.iadd, 1) := by decide +kernel
theorem dX7_note_90 : decode cX7_note 90 = .ok (.putfield 133, 3) := by decide +kernel
theorem dX7_note_93 : decode cX7_note 93 = .ok (.return_, 1) := by decide +kernel
theorem dX7_ticks_0 : decode cX7_ticks 0 = .ok (.iload_n 1, 1) := by decide +kernel
theorem dX7_ticks_1 : decode cX7_ticks 1 = .ok (.i2l, 1) := by decide +kernel
theorem dX7_ticks_2 : decode cX7_ticks 2 = .ok (.lconst 1, 1) := by decide +kernel
theorem dX7_ticks_3 : decode cX7_ticks 3 = .ok (.ldc2_w 179, 3) := by decide +kernel
theorem dX7_ticks_6 : decode cX7_ticks 6 = .ok (.invokestatic 62, 3) := by decide +kernel
theorem dX7_ticks_9 : decode cX7_ticks 9 = .ok (.ifCond .ne 5, 3) := by decide +kernel
theorem dX7_ticks_12 : decode cX7_ticks 12 = .ok (.iconst (-1), 1) := by decide +kernel
theorem dX7_ticks_13 : decode cX7_ticks 13 = .ok (.ireturn, 1) := by decide +kernel
theorem dX7_ticks_14 : decode cX7_ticks 14 = .ok (.aload_n 0, 1) := by decide +kernel
theorem dX7_ticks_15 : decode cX7_ticks 15 = .ok (.getfield 29, 3) := by decide +kernel
theorem dX7_ticks_18 : decode cX7_ticks 18 = .ok (.iconst 0, 1) := by decide +kernel
theorem dX7_ticks_19 : decode cX7_ticks 19 = .ok (.iaload, 1) := by decide +kernel
theorem dX7_ticks_20 : decode cX7_ticks 20 = .ok (.iload_n 1, 1) := by decide +kernel
theorem dX7_ticks_21 : decode cX7_ticks 21 = .ok (.iadd, 1) := by decide +kernel
theorem dX7_ticks_22 : decode cX7_ticks 22 = .ok (.sipush 9999, 3) := by decide +kernel
theorem dX7_ticks_25 : decode cX7_ticks 25 = .ok (.if_icmp .le 6, 3) := by decide +kernel
theorem dX7_ticks_28 : decode cX7_ticks 28 = .ok (.bipush (-2), 2) := by decide +kernel
theorem dX7_ticks_30 : decode cX7_ticks 30 = .ok (.ireturn, 1) := by decide +kernel
theorem dX7_ticks_31 : decode cX7_ticks 31 = .ok (.aload_n 0, 1) := by decide +kernel
theorem dX7_ticks_32 : decode cX7_ticks 32 = .ok (.invokevirtual 181, 3) := by decide +kernel
theorem dX7_ticks_35 : decode cX7_ticks 35 = .ok (.iconst 0, 1) := by decide +kernel
theorem dX7_ticks_36 : decode cX7_ticks 36 = .ok (.istore_n 2, 1) := by decide +kernel
theorem dX7_ticks_37 : decode cX7_ticks 37 = .ok (.iconst 0, 1) := by decide +kernel
theorem dX7_ticks_38 : decode cX7_ticks 38 = .ok (.istore_n 3, 1) := by decide +kernel
theorem dX7_ticks_39 : decode cX7_ticks 39 = .ok (.iload_n 3, 1) := by decide +kernel
theorem dX7_ticks_40 : decode cX7_ticks 40 = .ok (.iload_n 1, 1) := by decide +kernel
theorem dX7_ticks_41 : decode cX7_ticks 41 = .ok (.if_icmp .ge 16, 3) := by decide +kernel
theorem dX7_ticks_44 : decode cX7_ticks 44 = .ok (.iload_n 2, 1) := by decide +kernel
theorem dX7_ticks_45 : decode cX7_ticks 45 = .ok (.aload_n 0, 1) := by decide +kernel
theorem dX7_ticks_46 : decode cX7_ticks 46 = .ok (.invokevirtual 184, 3) := by decide +kernel
theorem dX7_ticks_49 : decode cX7_ticks 49 = .ok (.iadd, 1) := by decide +kernel
theorem dX7_ticks_50 : decode cX7_ticks 50 = .ok (.istore_n 2, 1) := by decide +kernel
theorem dX7_ticks_51 : decode cX7_ticks 51 = .ok (.iinc 3 1, 3) := by decide +kernel
theorem dX7_ticks_54 : decode cX7_ticks 54 = .ok (.goto (-15), 3) := by decide +kernel
theorem dX7_ticks_57 : decode cX7_ticks 57 = .ok (.iload_n 2, 1) := by decide +kernel
theorem dX7_ticks_58 : decode cX7_ticks 58 = .ok (.ireturn, 1) := by decide +kernel
theorem dX7_ahead_0 : decode cX7_ahead 0 = .ok (.aload_n 0, 1) := by decide +kernel
theorem dX7_ahead_1 : decode cX7_ahead 1 = .ok (.iload_n 1, 1) := by decide +kernel
theorem dX7_ahead_2 : decode cX7_ahead 2 = .ok (.invokevirtual 156, 3) := by decide +kernel
theorem dX7_ahead_5 : decode cX7_ahead 5 = .ok (.ifCond .ne 5, 3) := by decide +kernel
theorem dX7_ahead_8 : decode cX7_ahead 8 = .ok (.iconst (-1), 1) := by decide +kernel
theorem dX7_ahead_9 : decode cX7_ahead 9 = .ok (.ireturn, 1) := by decide +kernel
theorem dX7_ahead_10 : decode cX7_ahead 10 = .ok (.aload_n 0, 1) := by decide +kernel
theorem dX7_ahead_11 : decode cX7_ahead 11 = .ok (.iload_n 1, 1) := by decide +kernel
theorem dX7_ahead_12 : decode cX7_ahead 12 = .ok (.invokevirtual 187, 3) := by decide +kernel
theorem dX7_ahead_15 : decode cX7_ahead 15 = .ok (.istore_n 2, 1) := by decide +kernel
theorem dX7_ahead_16 : decode cX7_ahead 16 = .ok (.iload_n 2, 1) := by decide +kernel
theorem dX7_ahead_17 : decode cX7_ahead 17 = .ok (.ifCond .gt 6, 3) := by decide +kernel
theorem dX7_ahead_20 : decode cX7_ahead 20 = .ok (.bipush (-2), 2) := by decide +kernel
theorem dX7_ahead_22 : decode cX7_ahead 22 = .ok (.ireturn, 1) := by decide +kernel
theorem dX7_ahead_23 : decode cX7_ahead 23 = .ok (.aload_n 0, 1) := by decide +kernel
theorem dX7_ahead_24 : decode cX7_ahead 24 = .ok (.invokevirtual 181, 3) := by decide +kernel
theorem dX7_ahead_27 : decode cX7_ahead 27 = .ok (.aload_n 0, 1) := by decide +kernel
theorem dX7_ahead_28 : decode cX7_ahead 28 = .ok (.getfield 29, 3) := by decide +kernel
theorem dX7_ahead_31 : decode cX7_ahead 31 = .ok (.bipush 13, 2) := by decide +kernel
theorem dX7_ahead_33 : decode cX7_ahead 33 = .ok (.iaload, 1) := by decide +kernel
theorem dX7_ahead_34 : decode cX7_ahead 34 = .ok (.istore_n 3, 1) := by decide +kernel
theorem dX7_ahead_35 : decode cX7_ahead 35 = .ok (.iload_n 2, 1) := by decide +kernel
theorem dX7_ahead_36 : decode cX7_ahead 36 = .ok (.istore 4, 2) := by decide +kernel
theorem dX7_ahead_38 : decode cX7_ahead 38 = .ok (.iload 4, 2) := by decide +kernel
theorem dX7_ahead_40 : decode cX7_ahead 40 = .ok (.ifCond .le 31, 3) := by decide +kernel
theorem dX7_ahead_43 : decode cX7_ahead 43 = .ok (.aload_n 0, 1) := by decide +kernel
theorem dX7_ahead_44 : decode cX7_ahead 44 = .ok (.getfield 29, 3) := by decide +kernel
theorem dX7_ahead_47 : decode cX7_ahead 47 = .ok (.bipush 13, 2) := by decide +kernel
theorem dX7_ahead_49 : decode cX7_ahead 49 = .ok (.iload 4, 2) := by decide +kernel
theorem dX7_ahead_51 : decode cX7_ahead 51 = .ok (.iadd, 1) := by decide +kernel
theorem dX7_ahead_52 : decode cX7_ahead 52 = .ok (.aload_n 0, 1) := by decide +kernel
theorem dX7_ahead_53 : decode cX7_ahead 53 = .ok (.getfield 29, 3) := by decide +kernel
theorem dX7_ahead_56 : decode cX7_ahead 56 = .ok (.bipush 13, 2) := by decide +kernel
theorem dX7_ahead_58 : decode cX7_ahead 58 = .ok (.iload 4, 2) := by decide +kernel
theorem dX7_ahead_60 : decode cX7_ahead 60 = .ok (.iadd, 1) := by decide +kernel
theorem dX7_ahead_61 : decode cX7_ahead 61 = .ok (.iconst 1, 1) := by decide +kernel
theorem dX7_ahead_62 : decode cX7_ahead 62 = .ok (.isub, 1) := by decide +kernel
theorem dX7_ahead_63 : decode cX7_ahead 63 = .ok (.iaload, 1) := by decide +kernel
theorem dX7_ahead_64 : decode cX7_ahead 64 = .ok (.iastore, 1) := by decide +kernel
theorem dX7_ahead_65 : decode cX7_ahead 65 = .ok (.iinc 4 (-1), 3) := by decide +kernel
theorem dX7_ahead_68 : decode cX7_ahead 68 = .ok (.goto (-30), 3) := by decide +kernel
theorem dX7_ahead_71 : decode cX7_ahead 71 = .ok (.aload_n 0, 1) := by decide +kernel
theorem dX7_ahead_72 : decode cX7_ahead 72 = .ok (.getfield 29, 3) := by decide +kernel
theorem dX7_ahead_75 : decode cX7_ahead 75 = .ok (.bipush 13, 2) := by decide +kernel
theorem dX7_ahead_77 : decode cX7_ahead 77 = .ok (.iload_n 1, 1) := by decide +kernel
theorem dX7_ahead_78 : decode cX7_ahead 78 = .ok (.iastore, 1) := by decide +kernel
theorem dX7_ahead_79 : decode cX7_ahead 79 = .ok (.aload_n 0, 1) := by decide +kernel
theorem dX7_ahead_80 : decode cX7_ahead 80 = .ok (.getfield 29, 3) := by decide +kernel
theorem dX7_ahead_83 : decode cX7_ahead 83 = .ok (.iconst 2, 1) := by decide +kernel
theorem dX7_ahead_84 : decode cX7_ahead 84 = .ok (.iconst 0, 1) := by decide +kernel
theorem dX7_ahead_85 : decode cX7_ahead 85 = .ok (.iastore, 1) := by decide +kernel
theorem dX7_ahead_86 : decode cX7_ahead 86 = .ok (.iload_n 3, 1) := by decide +kernel
theorem dX7_ahead_87 : decode cX7_ahead 87 = .ok (.ireturn, 1) := by decide +kernel
theorem dX7_breaks_0 : decode cX7_breaks 0 = .ok (.aload_n 0, 1) := by decide +kernel
theorem dX7_breaks_1 : decode cX7_breaks 1 = .ok (.iload_n 1, 1) := by decide +kernel
theorem dX7_breaks_2 : decode cX7_breaks 2 = .ok (.invokevirtual 156, 3) := by decide +kernel
theorem dX7_breaks_5 : decode cX7_breaks 5 = .ok (.ifCond .ne 5, 3) := by decide +kernel
theorem dX7_breaks_8 : decode cX7_breaks 8 = .ok (.iconst (-1), 1) := by decide +kernel
theorem dX7_breaks_9 : decode cX7_breaks 9 = .ok (.ireturn, 1) := by decide +kernel
theorem dX7_breaks_10 : decode cX7_breaks 10 = .ok (.aload_n 0, 1) := by decide +kernel
theorem dX7_breaks_11 : decode cX7_breaks 11 = .ok (.iload_n 1, 1) := by decide +kernel
theorem dX7_breaks_12 : decode cX7_breaks 12 = .ok (.invokevirtual 187, 3) := by decide +kernel
theorem dX7_breaks_15 : decode cX7_breaks 15 = .ok (.istore_n 2, 1) := by decide +kernel
theorem dX7_breaks_16 : decode cX7_breaks 16 = .ok (.iload_n 2, 1) := by decide +kernel
theorem dX7_breaks_17 : decode cX7_breaks 17 = .ok (.ifCond .ge 6, 3) := by decide +kernel
theorem dX7_breaks_20 : decode cX7_breaks 20 = .ok (.bipush (-2), 2) := by decide +kernel
theorem dX7_breaks_22 : decode cX7_breaks 22 = .ok (.ireturn, 1) := by decide +kernel
theorem dX7_breaks_23 : decode cX7_breaks 23 = .ok (.aload_n 0, 1) := by decide +kernel
theorem dX7_breaks_24 : decode cX7_breaks 24 = .ok (.invokevirtual 181, 3) := by decide +kernel
theorem dX7_breaks_27 : decode cX7_breaks 27 = .ok (.aload_n 0, 1) := by decide +kernel
theorem dX7_breaks_28 : decode cX7_breaks 28 = .ok (.iload_n 2, 1) := by decide +kernel
theorem dX7_breaks_29 : decode cX7_breaks 29 = .ok (.invokevirtual 175, 3) := by decide +kernel
theorem dX7_breaks_32 : decode cX7_breaks 32 = .ok (.aload_n 0, 1) := by decide +kernel
theorem dX7_breaks_33 : decode cX7_breaks 33 = .ok (.getfield 29, 3) := by decide +kernel
theorem dX7_breaks_36 : decode cX7_breaks 36 = .ok (.iconst 2, 1) := by decide +kernel
theorem dX7_breaks_37 : decode cX7_breaks 37 = .ok (.iload_n 2, 1) := by decide +kernel
theorem dX7_breaks_38 : decode cX7_breaks 38 = .ok (.ifCond .ne 7, 3) := by decide +kernel
theorem dX7_breaks_41 : decode cX7_breaks 41 = .ok (.iconst 0, 1) := by decide +kernel
theorem dX7_breaks_42 : decode cX7_breaks 42 = .ok (.goto 9, 3) := by decide +kernel
theorem dX7_breaks_45 : decode cX7_breaks 45 = .ok (.aload_n 0, 1) := by decide +kernel
theorem dX7_breaks_46 : decode cX7_breaks 46 = .ok (.getfield 29, 3) := by decide +kernel
theorem dX7_breaks_49 : decode cX7_breaks 49 = .ok (.iconst 2, 1) := by decide +kernel
theorem dX7_breaks_50 : decode cX7_breaks 50 = .ok (.iaload, 1) := by decide +kernel
theorem dX7_breaks_51 : decode cX7_breaks 51 = .ok (.iastore, 1) := by decide +kernel
theorem dX7_breaks_52 : decode cX7_breaks 52 = .ok (.aload_n 0, 1) := by decide +kernel
theorem dX7_breaks_53 : decode cX7_breaks 53 = .ok (.getfield 29, 3) := by decide +kernel
theorem dX7_breaks_56 : decode cX7_breaks 56 = .ok (.iconst 3, 1) := by decide +kernel
theorem dX7_breaks_57 : decode cX7_breaks 57 = .ok (.iaload, 1) := by decide +kernel
theorem dX7_breaks_58 : decode cX7_breaks 58 = .ok (.ireturn, 1) := by decide +kernel
theorem dX7_fills_0 : decode cX7_fills 0 = .ok (.iload_n 1, 1) := by decide +kernel
theorem dX7_fills_1 : decode cX7_fills 1 = .ok (.i2l, 1) := by decide +kernel
theorem dX7_fills_2 : decode cX7_fills 2 = .ok (.lconst 0, 1) := by decide +kernel
theorem dX7_fills_3 : decode cX7_fills 3 = .ok (.ldc2_w 190, 3) := by decide +kernel
theorem dX7_fills_6 : decode cX7_fills 6 = .ok (.invokestatic 62, 3) := by decide +kernel
theorem dX7_fills_9 : decode cX7_fills 9 = .ok (.ifCond .eq 15, 3) := by decide +kernel
theorem dX7_fills_12 : decode cX7_fills 12 = .ok (.iload_n 2, 1) := by decide +kernel
theorem dX7_fills_13 : decode cX7_fills 13 = .ok (.i2l, 1) := by decide +kernel
theorem dX7_fills_14 : decode cX7_fills 14 = .ok (.lconst 1, 1) := by decide +kernel
theorem dX7_fills_15 : decode cX7_fills 15 = .ok (.ldc2_w 192, 3) := by decide +kernel
theorem dX7_fills_18 : decode cX7_fills 18 = .ok (.invokestatic 62, 3) := by decide +kernel
theorem dX7_fills_21 : decode cX7_fills 21 = .ok (.ifCond .ne 5, 3) := by decide +kernel
theorem dX7_fills_24 : decode cX7_fills 24 = .ok (.iconst (-1), 1) := by decide +kernel
theorem dX7_fills_25 : decode cX7_fills 25 = .ok (.ireturn, 1) := by decide +kernel
theorem dX7_fills_26 : decode cX7_fills 26 = .ok (.aload_n 0, 1) := by decide +kernel
theorem dX7_fills_27 : decode cX7_fills 27 = .ok (.getfield 29, 3) := by decide +kernel
theorem dX7_fills_30 : decode cX7_fills 30 = .ok (.iconst 4, 1) := by decide +kernel
theorem dX7_fills_31 : decode cX7_fills 31 = .ok (.iload_n 1, 1) := by decide +kernel
theorem dX7_fills_32 : decode cX7_fills 32 = .ok (.iadd, 1) := by decide +kernel
theorem dX7_fills_33 : decode cX7_fills 33 = .ok (.iaload, 1) := by decide +kernel
theorem dX7_fills_34 : decode cX7_fills 34 = .ok (.bipush 99, 2) := by decide +kernel
theorem dX7_fills_36 : decode cX7_fills 36 = .ok (.if_icmp .ne 6, 3) := by decide +kernel
theorem dX7_fills_39 : decode cX7_fills 39 = .ok (.bipush (-2), 2) := by decide +kernel
theorem dX7_fills_41 : decode cX7_fills 41 = .ok (.ireturn, 1) := by decide +kernel
theorem dX7_fills_42 : decode cX7_fills 42 = .ok (.aload_n 0, 1) := by decide +kernel
theorem dX7_fills_43 : decode cX7_fills 43 = .ok (.invokevirtual 181, 3) := by decide +kernel
theorem dX7_fills_46 : decode cX7_fills 46 = .ok (.aload_n 0, 1) := by decide +kernel
theorem dX7_fills_47 : decode cX7_fills 47 = .ok (.getfield 29, 3) := by decide +kernel
theorem dX7_fills_50 : decode cX7_fills 50 = .ok (.iconst 4, 1) := by decide +kernel
theorem dX7_fills_51 : decode cX7_fills 51 = .ok (.iload_n 1, 1) := by decide +kernel
theorem dX7_fills_52 : decode cX7_fills 52 = .ok (.iadd, 1) := by decide +kernel
theorem dX7_fills_53 : decode cX7_fills 53 = .ok (.iaload, 1) := by decide +kernel
theorem dX7_fills_54 : decode cX7_fills 54 = .ok (.iload_n 2, 1) := by decide +kernel
theorem dX7_fills_55 : decode cX7_fills 55 = .ok (.iadd, 1) := by decide +kernel
theorem dX7_fills_56 : decode cX7_fills 56 = .ok (.istore_n 3, 1) := by decide +kernel
theorem dX7_fills_57 : decode cX7_fills 57 = .ok (.aload_n 0, 1) := by decide +kernel
theorem dX7_fills_58 : decode cX7_fills 58 = .ok (.getfield 29, 3) := by decide +kernel
theorem dX7_fills_61 : decode cX7_fills 61 = .ok (.iconst 4, 1) := by decide +kernel
theorem dX7_fills_62 : decode cX7_fills 62 = .ok (.iload_n 1, 1) := by decide +kernel
theorem dX7_fills_63 : decode cX7_fills 63 = .ok (.iadd, 1) := by decide +kernel
theorem dX7_fills_64 : decode cX7_fills 64 = .ok (.iload_n 3, 1) := by decide +kernel
theorem dX7_fills_65 : decode cX7_fills 65 = .ok (.bipush 99, 2) := by decide +kernel
theorem dX7_fills_67 : decode cX7_fills 67 = .ok (.if_icmp .le 8, 3) := by decide +kernel
theorem dX7_fills_70 : decode cX7_fills 70 = .ok (.bipush 99, 2) := by decide +kernel
theorem dX7_fills_72 : decode cX7_fills 72 = .ok (.goto 4, 3) := by decide +kernel
theorem dX7_fills_75 : decode cX7_fills 75 = .ok (.iload_n 3, 1) := by decide +kernel
theorem dX7_fills_76 : decode cX7_fills 76 = .ok (.iastore, 1) := by decide +kernel
theorem dX7_fills_77 : decode cX7_fills 77 = .ok (.aload_n 0, 1) := by decide +kernel
theorem dX7_fills_78 : decode cX7_fills 78 = .ok (.getfield 29, 3) := by decide +kernel
theorem dX7_fills_81 : decode cX7_fills 81 = .ok (.iconst 4, 1) := by decide +kernel
theorem dX7_fills_82 : decode cX7_fills 82 = .ok (.iload_n 1, 1) := by decide +kernel
theorem dX7_fills_83 : decode cX7_fills 83 = .ok (.iadd, 1) := by decide +kernel
theorem dX7_fills_84 : decode cX7_fills 84 = .ok (.iaload, 1) := by decide +kernel
theorem dX7_fills_85 : decode cX7_fills 85 = .ok (.ireturn, 1) := by decide +kernel
theorem dX7_toner_0 : decode cX7_toner 0 = .ok (.iload_n 1, 1) := by decide +kernel
theorem dX7_toner_1 : decode cX7_toner 1 = .ok (.i2l, 1) := by decide +kernel
theorem dX7_toner_2 : decode cX7_toner 2 = .ok (.lconst 1, 1) := by decide +kernel
theorem dX7_toner_3 : decode cX7_toner 3 = .ok (.ldc2_w 194, 3) := by decide +kernel
theorem dX7_toner_6 : decode cX7_toner 6 = .ok (.invokestatic 62, 3) := by decide +kernel
theorem dX7_toner_9 : decode cX7_toner 9 = .ok (.ifCond .ne 5, 3) := by decide +kernel
theorem dX7_toner_12 : decode cX7_toner 12 = .ok (.iconst (-1), 1) := by decide +kernel
theorem dX7_toner_13 : decode cX7_toner 13 = .ok (.ireturn, 1) := by decide +kernel
theorem dX7_toner_14 : decode cX7_toner 14 = .ok (.aload_n 0, 1) := by decide +kernel
theorem dX7_toner_15 : decode cX7_toner 15 = .ok (.getfield 29, 3) := by decide +kernel
theorem dX7_toner_18 : decode cX7_toner 18 = .ok (.iconst 1, 1) := by decide +kernel
theorem dX7_toner_19 : decode cX7_toner 19 = .ok (.iaload, 1) := by decide +kernel
theorem dX7_toner_20 : decode cX7_toner 20 = .ok (.sipush 999, 3) := by decide +kernel
theorem dX7_toner_23 : decode cX7_toner 23 = .ok (.if_icmp .ne 6, 3) := by decide +kernel
theorem dX7_toner_26 : decode cX7_toner 26 = .ok (.bipush (-2), 2) := by decide +kernel
theorem dX7_toner_28 : decode cX7_toner 28 = .ok (.ireturn, 1) := by decide +kernel
theorem dX7_toner_29 : decode cX7_toner 29 = .ok (.aload_n 0, 1) := by decide +kernel
theorem dX7_toner_30 : decode cX7_toner 30 = .ok (.invokevirtual 181, 3) := by decide +kernel
theorem dX7_toner_33 : decode cX7_toner 33 = .ok (.aload_n 0, 1) := by decide +kernel
theorem dX7_toner_34 : decode cX7_toner 34 = .ok (.getfield 29, 3) := by decide +kernel
theorem dX7_toner_37 : decode cX7_toner 37 = .ok (.iconst 1, 1) := by decide +kernel
theorem dX7_toner_38 : decode cX7_toner 38 = .ok (.iaload, 1) := by decide +kernel
theorem dX7_toner_39 : decode cX7_toner 39 = .ok (.iload_n 1, 1) := by decide +kernel
theorem dX7_toner_40 : decode cX7_toner 40 = .ok (.iadd, 1) := by decide +kernel
theorem dX7_toner_41 : decode cX7_toner 41 = .ok (.istore_n 2, 1) := by decide +kernel
theorem dX7_toner_42 : decode cX7_toner 42 = .ok (.aload_n 0, 1) := by decide +kernel
theorem dX7_toner_43 : decode cX7_toner 43 = .ok (.getfield 29, 3) := by decide +kernel
theorem dX7_toner_46 : decode cX7_toner 46 = .ok (.iconst 1, 1) := by decide +kernel
theorem dX7_toner_47 : decode cX7_toner 47 = .ok (.iload_n 2, 1) := by decide +kernel
theorem dX7_toner_48 : decode cX7_toner 48 = .ok (.sipush 999, 3) := by decide +kernel
theorem dX7_toner_51 : decode cX7_toner 51 = .ok (.if_icmp .le 9, 3) := by decide +kernel
theorem dX7_toner_54 : decode cX7_toner 54 = .ok (.sipush 999, 3) := by decide +kernel
theorem dX7_toner_57 : decode cX7_toner 57 = .ok (.goto 4, 3) := by decide +kernel
theorem dX7_toner_60 : decode cX7_toner 60 = .ok (.iload_n 2, 1) := by decide +kernel
theorem dX7_toner_61 : decode cX7_toner 61 = .ok (.iastore, 1) := by decide +kernel
theorem dX7_toner_62 : decode cX7_toner 62 = .ok (.aload_n 0, 1) := by decide +kernel
theorem dX7_toner_63 : decode cX7_toner 63 = .ok (.getfield 29, 3) := by decide +kernel
theorem dX7_toner_66 : decode cX7_toner 66 = .ok (.iconst 1, 1) := by decide +kernel
theorem dX7_toner_67 : decode cX7_toner 67 = .ok (.iaload, 1) := by decide +kernel
theorem dX7_toner_68 : decode cX7_toner 68 = .ok (.ireturn, 1) := by decide +kernel
theorem dX7_empties_0 : decode cX7_empties 0 = .ok (.iload_n 1, 1) := by decide +kernel
theorem dX7_empties_1 : decode cX7_empties 1 = .ok (.i2l, 1) := by decide +kernel
theorem dX7_empties_2 : decode cX7_empties 2 = .ok (.lconst 0, 1) := by decide +kernel
theorem dX7_empties_3 : decode cX7_empties 3 = .ok (.aload_n 0, 1) := by decide +kernel
theorem dX7_empties_4 : decode cX7_empties 4 = .ok (.getfield 25, 3) := by decide +kernel
theorem dX7_empties_7 : decode cX7_empties 7 = .ok (.iconst 1, 1) := by decide +kernel
theorem dX7_empties_8 : decode cX7_empties 8 = .ok (.isub, 1) := by decide +kernel
theorem dX7_empties_9 : decode cX7_empties 9 = .ok (.i2l, 1) := by decide +kernel
theorem dX7_empties_10 : decode cX7_empties 10 = .ok (.invokestatic 62, 3) := by decide +kernel
theorem dX7_empties_13 : decode cX7_empties 13 = .ok (.ifCond .ne 5, 3) := by decide +kernel
theorem dX7_empties_16 : decode cX7_empties 16 = .ok (.iconst (-1), 1) := by decide +kernel
theorem dX7_empties_17 : decode cX7_empties 17 = .ok (.ireturn, 1) := by decide +kernel
theorem dX7_empties_18 : decode cX7_empties 18 = .ok (.aload_n 0, 1) := by decide +kernel
theorem dX7_empties_19 : decode cX7_empties 19 = .ok (.getfield 29, 3) := by decide +kernel
theorem dX7_empties_22 : decode cX7_empties 22 = .ok (.bipush 7, 2) := by decide +kernel
theorem dX7_empties_24 : decode cX7_empties 24 = .ok (.iload_n 1, 1) := by decide +kernel
theorem dX7_empties_25 : decode cX7_empties 25 = .ok (.iadd, 1) := by decide +kernel
theorem dX7_empties_26 : decode cX7_empties 26 = .ok (.iaload, 1) := by decide +kernel
theorem dX7_empties_27 : decode cX7_empties 27 = .ok (.istore_n 2, 1) := by decide +kernel
theorem dX7_empties_28 : decode cX7_empties 28 = .ok (.iload_n 2, 1) := by decide +kernel
theorem dX7_empties_29 : decode cX7_empties 29 = .ok (.ifCond .ne 6, 3) := by decide +kernel
theorem dX7_empties_32 : decode cX7_empties 32 = .ok (.bipush (-2), 2) := by decide +kernel
theorem dX7_empties_34 : decode cX7_empties 34 = .ok (.ireturn, 1) := by decide +kernel
theorem dX7_empties_35 : decode cX7_empties 35 = .ok (.aload_n 0, 1) := by decide +kernel
theorem dX7_empties_36 : decode cX7_empties 36 = .ok (.invokevirtual 181, 3) := by decide +kernel
theorem dX7_empties_39 : decode cX7_empties 39 = .ok (.aload_n 0, 1) := by decide +kernel
theorem dX7_empties_40 : decode cX7_empties 40 = .ok (.getfield 29, 3) := by decide +kernel
theorem dX7_empties_43 : decode cX7_empties 43 = .ok (.bipush 7, 2) := by decide +kernel
theorem dX7_empties_45 : decode cX7_empties 45 = .ok (.iload_n 1, 1) := by decide +kernel
theorem dX7_empties_46 : decode cX7_empties 46 = .ok (.iadd, 1) := by decide +kernel
theorem dX7_empties_47 : decode cX7_empties 47 = .ok (.iconst 0, 1) := by decide +kernel
theorem dX7_empties_48 : decode cX7_empties 48 = .ok (.iastore, 1) := by decide +kernel
theorem dX7_empties_49 : decode cX7_empties 49 = .ok (.iload_n 2, 1) := by decide +kernel
theorem dX7_empties_50 : decode cX7_empties 50 = .ok (.ireturn, 1) := by decide +kernel
theorem dX7_undo_0 : decode cX7_undo 0 = .ok (.aload_n 0, 1) := by decide +kernel
theorem dX7_undo_1 : decode cX7_undo 1 = .ok (.getfield 133, 3) := by decide +kernel
theorem dX7_undo_4 : decode cX7_undo 4 = .ok (.ifCond .ne 6, 3) := by decide +kernel
theorem dX7_undo_7 : decode cX7_undo 7 = .ok (.bipush (-2), 2) := by decide +kernel
theorem dX7_undo_9 : decode cX7_undo 9 = .ok (.ireturn, 1) := by decide +kernel
theorem dX7_undo_10 : decode cX7_undo 10 = .ok (.aload_n 0, 1) := by decide +kernel
theorem dX7_undo_11 : decode cX7_undo 11 = .ok (.dup, 1) := by decide +kernel
theorem dX7_undo_12 : decode cX7_undo 12 = .ok (.getfield 133, 3) := by decide +kernel
theorem dX7_undo_15 : decode cX7_undo 15 = .ok (.iconst 1, 1) := by decide +kernel
theorem dX7_undo_16 : decode cX7_undo 16 = .ok (.isub, 1) := by decide +kernel
theorem dX7_undo_17 : decode cX7_undo 17 = .ok (.putfield 133, 3) := by decide +kernel
theorem dX7_undo_20 : decode cX7_undo 20 = .ok (.iconst 0, 1) := by decide +kernel
theorem dX7_undo_21 : decode cX7_undo 21 = .ok (.istore_n 1, 1) := by decide +kernel
theorem dX7_undo_22 : decode cX7_undo 22 = .ok (.iload_n 1, 1) := by decide +kernel
theorem dX7_undo_23 : decode cX7_undo 23 = .ok (.bipush 31, 2) := by decide +kernel
theorem dX7_undo_25 : decode cX7_undo 25 = .ok (.if_icmp .ge 29, 3) := by decide +kernel
theorem dX7_undo_28 : decode cX7_undo 28 = .ok (.aload_n 0, 1) := by decide +kernel
theorem dX7_undo_29 : decode cX7_undo 29 = .ok (.getfield 29, 3) := by decide +kernel
theorem dX7_undo_32 : decode cX7_undo 32 = .ok (.iload_n 1, 1) := by decide +kernel
theorem dX7_undo_33 : decode cX7_undo 33 = .ok (.aload_n 0, 1) := by decide +kernel
theorem dX7_undo_34 : decode cX7_undo 34 = .ok (.getfield 32, 3) := by decide +kernel
theorem dX7_undo_37 : decode cX7_undo 37 = .ok (.bipush 31, 2) := by decide +kernel
theorem dX7_undo_39 : decode cX7_undo 39 = .ok (.aload_n 0, 1) := by decide +kernel
theorem dX7_undo_40 : decode cX7_undo 40 = .ok (.getfield 133, 3) := by decide +kernel
theorem dX7_undo_43 : decode cX7_undo 43 = .ok (.imul, 1) := by decide +kernel
theorem dX7_undo_44 : decode cX7_undo 44 = .ok (.iload_n 1, 1) := by decide +kernel
theorem dX7_undo_45 : decode cX7_undo 45 = .ok (.iadd, 1) := by decide +kernel
theorem dX7_undo_46 : decode cX7_undo 46 = .ok (.iaload, 1) := by decide +kernel
theorem dX7_undo_47 : decode cX7_undo 47 = .ok (.iastore, 1) := by decide +kernel
theorem dX7_undo_48 : decode cX7_undo 48 = .ok (.iinc 1 1, 3) := by decide +kernel
theorem dX7_undo_51 : decode cX7_undo 51 = .ok (.goto (-29), 3) := by decide +kernel
theorem dX7_undo_54 : decode cX7_undo 54 = .ok (.aload_n 0, 1) := by decide +kernel
theorem dX7_undo_55 : decode cX7_undo 55 = .ok (.getfield 133, 3) := by decide +kernel
theorem dX7_undo_58 : decode cX7_undo 58 = .ok (.ireturn, 1) := by decide +kernel
theorem dX7_inTicks_0 : decode cX7_inTicks 0 = .ok (.aload_n 0, 1) := by decide +kernel
theorem dX7_inTicks_1 : decode cX7_inTicks 1 = .ok (.iload_n 1, 1) := by decide +kernel
theorem dX7_inTicks_2 : decode cX7_inTicks 2 = .ok (.invokevirtual 187, 3) := by decide +kernel
theorem dX7_inTicks_5 : decode cX7_inTicks 5 = .ok (.ifCond .ge 6, 3) := by decide +kernel
theorem dX7_inTicks_8 : decode cX7_inTicks 8 = .ok (.bipush (-9), 2) := by decide +kernel
theorem dX7_inTicks_10 : decode cX7_inTicks 10 = .ok (.ireturn, 1) := by decide +kernel
theorem dX7_inTicks_11 : decode cX7_inTicks 11 = .ok (.iconst 0, 1) := by decide +kernel
theorem dX7_inTicks_12 : decode cX7_inTicks 12 = .ok (.istore_n 2, 1) := by decide +kernel
theorem dX7_inTicks_13 : decode cX7_inTicks 13 = .ok (.iload_n 2, 1) := by decide +kernel
theorem dX7_inTicks_14 : decode cX7_inTicks 14 = .ok (.bipush 31, 2) := by decide +kernel
theorem dX7_inTicks_16 : decode cX7_inTicks 16 = .ok (.if_icmp .ge 21, 3) := by decide +kernel
theorem dX7_inTicks_19 : decode cX7_inTicks 19 = .ok (.aload_n 0, 1) := by decide +kernel
theorem dX7_inTicks_20 : decode cX7_inTicks 20 = .ok (.getfield 47, 3) := by decide +kernel
theorem dX7_inTicks_23 : decode cX7_inTicks 23 = .ok (.iload_n 2, 1) := by decide +kernel
theorem dX7_inTicks_24 : decode cX7_inTicks 24 = .ok (.aload_n 0, 1) := by decide +kernel
theorem dX7_inTicks_25 : decode cX7_inTicks 25 = .ok (.getfield 29, 3) := by decide +kernel
theorem dX7_inTicks_28 : decode cX7_inTicks 28 = .ok (.iload_n 2, 1) := by decide +kernel
theorem dX7_inTicks_29 : decode cX7_inTicks 29 = .ok (.iaload, 1) := by decide +kernel
theorem dX7_inTicks_30 : decode cX7_inTicks 30 = .ok (.iastore, 1) := by decide +kernel
theorem dX7_inTicks_31 : decode cX7_inTicks 31 = .ok (.iinc 2 1, 3) := by decide +kernel
theorem dX7_inTicks_34 : decode cX7_inTicks 34 = .ok (.goto (-21), 3) := by decide +kernel
theorem dX7_inTicks_37 : decode cX7_inTicks 37 = .ok (.iconst 0, 1) := by decide +kernel
theorem dX7_inTicks_38 : decode cX7_inTicks 38 = .ok (.istore_n 2, 1) := by decide +kernel
theorem dX7_inTicks_39 : decode cX7_inTicks 39 = .ok (.aload_n 0, 1) := by decide +kernel
theorem dX7_inTicks_40 : decode cX7_inTicks 40 = .ok (.iload_n 1, 1) := by decide +kernel
theorem dX7_inTicks_41 : decode cX7_inTicks 41 = .ok (.invokevirtual 187, 3) := by decide +kernel
theorem dX7_inTicks_44 : decode cX7_inTicks 44 = .ok (.ifCond .lt 21, 3) := by decide +kernel
theorem dX7_inTicks_47 : decode cX7_inTicks 47 = .ok (.iload_n 2, 1) := by decide +kernel
theorem dX7_inTicks_48 : decode cX7_inTicks 48 = .ok (.sipush 400, 3) := by decide +kernel
theorem dX7_inTicks_51 : decode cX7_inTicks 51 = .ok (.if_icmp .ge 14, 3) := by decide +kernel
theorem dX7_inTicks_54 : decode cX7_inTicks 54 = .ok (.aload_n 0, 1) := by decide +kernel
theorem dX7_inTicks_55 : decode cX7_inTicks 55 = .ok (.invokevirtual 184, 3) := by decide +kernel
theorem dX7_inTicks_58 : decode cX7_inTicks 58 = .ok (.pop, 1) := by decide +kernel
theorem dX7_inTicks_59 : decode cX7_inTicks 59 = .ok (.iinc 2 1, 3) := by decide +kernel
theorem dX7_inTicks_62 : decode cX7_inTicks 62 = .ok (.goto (-23), 3) := by decide +kernel
theorem dX7_inTicks_65 : decode cX7_inTicks 65 = .ok (.aload_n 0, 1) := by decide +kernel
theorem dX7_inTicks_66 : decode cX7_inTicks 66 = .ok (.iload_n 1, 1) := by decide +kernel
theorem dX7_inTicks_67 : decode cX7_inTicks 67 = .ok (.invokevirtual 187, 3) := by decide +kernel
theorem dX7_inTicks_70 : decode cX7_inTicks 70 = .ok (.ifCond .ge 7, 3) := by decide +kernel
theorem dX7_inTicks_73 : decode cX7_inTicks 73 = .ok (.iconst 1, 1) := by decide +kernel
theorem dX7_inTicks_74 : decode cX7_inTicks 74 = .ok (.goto 4, 3) := by decide +kernel
theorem dX7_inTicks_77 : decode cX7_inTicks 77 = .ok (.iconst 0, 1) := by decide +kernel
theorem dX7_inTicks_78 : decode cX7_inTicks 78 = .ok (.istore_n 3, 1) := by decide +kernel
theorem dX7_inTicks_79 : decode cX7_inTicks 79 = .ok (.iconst 0, 1) := by decide +kernel
theorem dX7_inTicks_80 : decode cX7_inTicks 80 = .ok (.istore 4, 2) := by decide +kernel
theorem dX7_inTicks_82 : decode cX7_inTicks 82 = .ok (.iload 4, 2) := by decide +kernel
theorem dX7_inTicks_84 : decode cX7_inTicks 84 = .ok (.bipush 31, 2) := by decide +kernel
theorem dX7_inTicks_86 : decode cX7_inTicks 86 = .ok (.if_icmp .ge 23, 3) := by decide +kernel
theorem dX7_inTicks_89 : decode cX7_inTicks 89 = .ok (.aload_n 0, 1) := by decide +kernel
theorem dX7_inTicks_90 : decode cX7_inTicks 90 = .ok (.getfield 29, 3) := by decide +kernel
theorem dX7_inTicks_93 : decode cX7_inTicks 93 = .ok (.iload 4, 2) := by decide +kernel
theorem dX7_inTicks_95 : decode cX7_inTicks 95 = .ok (.aload_n 0, 1) := by decide +kernel
theorem dX7_inTicks_96 : decode cX7_inTicks 96 = .ok (.getfield 47, 3) := by decide +kernel
theorem dX7_inTicks_99 : decode cX7_inTicks 99 = .ok (.iload 4, 2) := by decide +kernel
theorem dX7_inTicks_101 : decode cX7_inTicks 101 = .ok (.iaload, 1) := by decide +kernel
theorem dX7_inTicks_102 : decode cX7_inTicks 102 = .ok (.iastore, 1) := by decide +kernel
theorem dX7_inTicks_103 : decode cX7_inTicks 103 = .ok (.iinc 4 1, 3) := by decide +kernel
theorem dX7_inTicks_106 : decode cX7_inTicks 106 = .ok (.goto (-24), 3) := by decide +kernel
theorem dX7_inTicks_109 : decode cX7_inTicks 109 = .ok (.iload_n 3, 1) := by decide +kernel
theorem dX7_inTicks_110 : decode cX7_inTicks 110 = .ok (.ifCond .eq 7, 3) := by decide +kernel
theorem dX7_inTicks_113 : decode cX7_inTicks 113 = .ok (.iload_n 2, 1) := by decide +kernel
theorem dX7_inTicks_114 : decode cX7_inTicks 114 = .ok (.goto 5, 3) := by decide +kernel
theorem dX7_inTicks_117 : decode cX7_inTicks 117 = .ok (.bipush (-9), 2) := by decide +kernel
theorem dX7_inTicks_119 : decode cX7_inTicks 119 = .ok (.ireturn, 1) := by decide +kernel
theorem dX7_leftOf_0 : decode cX7_leftOf 0 = .ok (.iconst 0, 1) := by decide +kernel
theorem dX7_leftOf_1 : decode cX7_leftOf 1 = .ok (.istore_n 2, 1) := by decide +kernel
theorem dX7_leftOf_2 : decode cX7_leftOf 2 = .ok (.aload_n 0, 1) := by decide +kernel
theorem dX7_leftOf_3 : decode cX7_leftOf 3 = .ok (.getfield 29, 3) := by decide +kernel
theorem dX7_leftOf_6 : decode cX7_leftOf 6 = .ok (.bipush 19, 2) := by decide +kernel
theorem dX7_leftOf_8 : decode cX7_leftOf 8 = .ok (.iload_n 1, 1) := by decide +kernel
theorem dX7_leftOf_9 : decode cX7_leftOf 9 = .ok (.iadd, 1) := by decide +kernel
theorem dX7_leftOf_10 : decode cX7_leftOf 10 = .ok (.iaload, 1) := by decide +kernel
theorem dX7_leftOf_11 : decode cX7_leftOf 11 = .ok (.istore_n 3, 1) := by decide +kernel
theorem dX7_leftOf_12 : decode cX7_leftOf 12 = .ok (.iload_n 3, 1) := by decide +kernel
theorem dX7_leftOf_13 : decode cX7_leftOf 13 = .ok (.aload_n 0, 1) := by decide +kernel
theorem dX7_leftOf_14 : decode cX7_leftOf 14 = .ok (.iload_n 1, 1) := by decide +kernel
theorem dX7_leftOf_15 : decode cX7_leftOf 15 = .ok (.invokevirtual 160, 3) := by decide +kernel
theorem dX7_leftOf_18 : decode cX7_leftOf 18 = .ok (.if_icmp .ge 26, 3) := by decide +kernel
theorem dX7_leftOf_21 : decode cX7_leftOf 21 = .ok (.aload_n 0, 1) := by decide +kernel
theorem dX7_leftOf_22 : decode cX7_leftOf 22 = .ok (.iload_n 1, 1) := by decide +kernel
theorem dX7_leftOf_23 : decode cX7_leftOf 23 = .ok (.invokevirtual 187, 3) := by decide +kernel
theorem dX7_leftOf_26 : decode cX7_leftOf 26 = .ok (.ifCond .lt 18, 3) := by decide +kernel
theorem dX7_leftOf_29 : decode cX7_leftOf 29 = .ok (.iload_n 2, 1) := by decide +kernel
theorem dX7_leftOf_30 : decode cX7_leftOf 30 = .ok (.aload_n 0, 1) := by decide +kernel
theorem dX7_leftOf_31 : decode cX7_leftOf 31 = .ok (.iload_n 1, 1) := by decide +kernel
theorem dX7_leftOf_32 : decode cX7_leftOf 32 = .ok (.iload_n 3, 1) := by decide +kernel
theorem dX7_leftOf_33 : decode cX7_leftOf 33 = .ok (.invokevirtual 169, 3) := by decide +kernel
theorem dX7_leftOf_36 : decode cX7_leftOf 36 = .ok (.iadd, 1) := by decide +kernel
theorem dX7_leftOf_37 : decode cX7_leftOf 37 = .ok (.istore_n 2, 1) := by decide +kernel
theorem dX7_leftOf_38 : decode cX7_leftOf 38 = .ok (.iinc 3 1, 3) := by decide +kernel
theorem dX7_leftOf_41 : decode cX7_leftOf 41 = .ok (.goto (-29), 3) := by decide +kernel
theorem dX7_leftOf_44 : decode cX7_leftOf 44 = .ok (.iload_n 2, 1) := by decide +kernel
theorem dX7_leftOf_45 : decode cX7_leftOf 45 = .ok (.ireturn, 1) := by decide +kernel
theorem dX7_job_0 : decode cX7_job 0 = .ok (.aload_n 0, 1) := by decide +kernel
theorem dX7_job_1 : decode cX7_job 1 = .ok (.iload_n 1, 1) := by decide +kernel
theorem dX7_job_2 : decode cX7_job 2 = .ok (.invokevirtual 156, 3) := by decide +kernel
theorem dX7_job_5 : decode cX7_job 5 = .ok (.ifCond .ne 5, 3) := by decide +kernel
theorem dX7_job_8 : decode cX7_job 8 = .ok (.iconst (-1), 1) := by decide +kernel
theorem dX7_job_9 : decode cX7_job 9 = .ok (.ireturn, 1) := by decide +kernel
theorem dX7_job_10 : decode cX7_job 10 = .ok (.iload_n 2, 1) := by decide +kernel
theorem dX7_job_11 : decode cX7_job 11 = .ok (.tableswitch 153 0 10 #[57, 64, 71, 78, 85, 92, 98, 108, 114, 141, 147], 57) := by decide +kernel
theorem dX7_job_68 : decode cX7_job 68 = .ok (.aload_n 0, 1) := by decide +kernel
theorem dX7_job_69 : decode cX7_job 69 = .ok (.getfield 7, 3) := by decide +kernel
theorem dX7_job_72 : decode cX7_job 72 = .ok (.iload_n 1, 1) := by decide +kernel
theorem dX7_job_73 : decode cX7_job 73 = .ok (.iaload, 1) := by decide +kernel
theorem dX7_job_74 : decode cX7_job 74 = .ok (.ireturn, 1) := by decide +kernel
theorem dX7_job_75 : decode cX7_job 75 = .ok (.aload_n 0, 1) := by decide +kernel
theorem dX7_job_76 : decode cX7_job 76 = .ok (.getfield 13, 3) := by decide +kernel
theorem dX7_job_79 : decode cX7_job 79 = .ok (.iload_n 1, 1) := by decide +kernel
theorem dX7_job_80 : decode cX7_job 80 = .ok (.iaload, 1) := by decide +kernel
theorem dX7_job_81 : decode cX7_job 81 = .ok (.ireturn, 1) := by decide +kernel
theorem dX7_job_82 : decode cX7_job 82 = .ok (.aload_n 0, 1) := by decide +kernel
theorem dX7_job_83 : decode cX7_job 83 = .ok (.getfield 16, 3) := by decide +kernel
theorem dX7_job_86 : decode cX7_job 86 = .ok (.iload_n 1, 1) := by decide +kernel
theorem dX7_job_87 : decode cX7_job 87 = .ok (.iaload, 1) := by decide +kernel
theorem dX7_job_88 : decode cX7_job 88 = .ok (.ireturn, 1) := by decide +kernel
theorem dX7_job_89 : decode cX7_job 89 = .ok (.aload_n 0, 1) := by decide +kernel
theorem dX7_job_90 : decode cX7_job 90 = .ok (.getfield 19, 3) := by decide +kernel
theorem dX7_job_93 : decode cX7_job 93 = .ok (.iload_n 1, 1) := by decide +kernel
theorem dX7_job_94 : decode cX7_job 94 = .ok (.iaload, 1) := by decide +kernel
theorem dX7_job_95 : decode cX7_job 95 = .ok (.ireturn, 1) := by decide +kernel
theorem dX7_job_96 : decode cX7_job 96 = .ok (.aload_n 0, 1) := by decide +kernel
theorem dX7_job_97 : decode cX7_job 97 = .ok (.getfield 22, 3) := by decide +kernel
theorem dX7_job_100 : decode cX7_job 100 = .ok (.iload_n 1, 1) := by decide +kernel
theorem dX7_job_101 : decode cX7_job 101 = .ok (.iaload, 1) := by decide +kernel
theorem dX7_job_102 : decode cX7_job 102 = .ok (.ireturn, 1) := by decide +kernel
theorem dX7_job_103 : decode cX7_job 103 = .ok (.aload_n 0, 1) := by decide +kernel
theorem dX7_job_104 : decode cX7_job 104 = .ok (.iload_n 1, 1) := by decide +kernel
theorem dX7_job_105 : decode cX7_job 105 = .ok (.invokevirtual 160, 3) := by decide +kernel
theorem dX7_job_108 : decode cX7_job 108 = .ok (.ireturn, 1) := by decide +kernel
theorem dX7_job_109 : decode cX7_job 109 = .ok (.aload_n 0, 1) := by decide +kernel
theorem dX7_job_110 : decode cX7_job 110 = .ok (.getfield 29, 3) := by decide +kernel
theorem dX7_job_113 : decode cX7_job 113 = .ok (.bipush 19, 2) := by decide +kernel
theorem dX7_job_115 : decode cX7_job 115 = .ok (.iload_n 1, 1) := by decide +kernel
theorem dX7_job_116 : decode cX7_job 116 = .ok (.iadd, 1) := by decide +kernel
theorem dX7_job_117 : decode cX7_job 117 = .ok (.iaload, 1) := by decide +kernel
theorem dX7_job_118 : decode cX7_job 118 = .ok (.ireturn, 1) := by decide +kernel
theorem dX7_job_119 : decode cX7_job 119 = .ok (.aload_n 0, 1) := by decide +kernel
theorem dX7_job_120 : decode cX7_job 120 = .ok (.iload_n 1, 1) := by decide +kernel
theorem dX7_job_121 : decode cX7_job 121 = .ok (.invokevirtual 187, 3) := by decide +kernel
theorem dX7_job_124 : decode cX7_job 124 = .ok (.ireturn, 1) := by decide +kernel
theorem dX7_job_125 : decode cX7_job 125 = .ok (.aload_n 0, 1) := by decide +kernel
theorem dX7_job_126 : decode cX7_job 126 = .ok (.getfield 29, 3) := by decide +kernel
theorem dX7_job_129 : decode cX7_job 129 = .ok (.bipush 25, 2) := by decide +kernel
theorem dX7_job_131 : decode cX7_job 131 = .ok (.iload_n 1, 1) := by decide +kernel
theorem dX7_job_132 : decode cX7_job 132 = .ok (.iadd, 1) := by decide +kernel
theorem dX7_job_133 : decode cX7_job 133 = .ok (.iaload, 1) := by decide +kernel
theorem dX7_job_134 : decode cX7_job 134 = .ok (.ifCond .ne 8, 3) := by decide +kernel
theorem dX7_job_137 : decode cX7_job 137 = .ok (.bipush (-9), 2) := by decide +kernel
theorem dX7_job_139 : decode cX7_job 139 = .ok (.goto 12, 3) := by decide +kernel
theorem dX7_job_142 : decode cX7_job 142 = .ok (.aload_n 0, 1) := by decide +kernel
theorem dX7_job_143 : decode cX7_job 143 = .ok (.getfield 29, 3) := by decide +kernel
theorem dX7_job_146 : decode cX7_job 146 = .ok (.bipush 25, 2) := by decide +kernel
theorem dX7_job_148 : decode cX7_job 148 = .ok (.iload_n 1, 1) := by decide +kernel
theorem dX7_job_149 : decode cX7_job 149 = .ok (.iadd, 1) := by decide +kernel
theorem dX7_job_150 : decode cX7_job 150 = .ok (.iaload, 1) := by decide +kernel
theorem dX7_job_151 : decode cX7_job 151 = .ok (.ireturn, 1) := by decide +kernel
theorem dX7_job_152 : decode cX7_job 152 = .ok (.aload_n 0, 1) := by decide +kernel
theorem dX7_job_153 : decode cX7_job 153 = .ok (.iload_n 1, 1) := by decide +kernel
theorem dX7_job_154 : decode cX7_job 154 = .ok (.invokevirtual 196, 3) := by decide +kernel
theorem dX7_job_157 : decode cX7_job 157 = .ok (.ireturn, 1) := by decide +kernel
theorem dX7_job_158 : decode cX7_job 158 = .ok (.aload_n 0, 1) := by decide +kernel
theorem dX7_job_159 : decode cX7_job 159 = .ok (.iload_n 1, 1) := by decide +kernel
theorem dX7_job_160 : decode cX7_job 160 = .ok (.invokevirtual 199, 3) := by decide +kernel
theorem dX7_job_163 : decode cX7_job 163 = .ok (.ireturn, 1) := by decide +kernel
theorem dX7_job_164 : decode cX7_job 164 = .ok (.iconst (-1), 1) := by decide +kernel
theorem dX7_job_165 : decode cX7_job 165 = .ok (.ireturn, 1) := by decide +kernel
theorem dX7_wantsOf_0 : decode cX7_wantsOf 0 = .ok (.aload_n 0, 1) := by decide +kernel
theorem dX7_wantsOf_1 : decode cX7_wantsOf 1 = .ok (.getfield 29, 3) := by decide +kernel
theorem dX7_wantsOf_4 : decode cX7_wantsOf 4 = .ok (.iconst 4, 1) := by decide +kernel
theorem dX7_wantsOf_5 : decode cX7_wantsOf 5 = .ok (.iload_n 1, 1) := by decide +kernel
theorem dX7_wantsOf_6 : decode cX7_wantsOf 6 = .ok (.iadd, 1) := by decide +kernel
theorem dX7_wantsOf_7 : decode cX7_wantsOf 7 = .ok (.iaload, 1) := by decide +kernel
theorem dX7_wantsOf_8 : decode cX7_wantsOf 8 = .ok (.ineg, 1) := by decide +kernel
theorem dX7_wantsOf_9 : decode cX7_wantsOf 9 = .ok (.istore_n 2, 1) := by decide +kernel
theorem dX7_wantsOf_10 : decode cX7_wantsOf 10 = .ok (.iconst 0, 1) := by decide +kernel
theorem dX7_wantsOf_11 : decode cX7_wantsOf 11 = .ok (.istore_n 3, 1) := by decide +kernel
theorem dX7_wantsOf_12 : decode cX7_wantsOf 12 = .ok (.iload_n 3, 1) := by decide +kernel
theorem dX7_wantsOf_13 : decode cX7_wantsOf 13 = .ok (.aload_n 0, 1) := by decide +kernel
theorem dX7_wantsOf_14 : decode cX7_wantsOf 14 = .ok (.getfield 66, 3) := by decide +kernel
theorem dX7_wantsOf_17 : decode cX7_wantsOf 17 = .ok (.if_icmp .ge 49, 3) := by decide +kernel
theorem dX7_wantsOf_20 : decode cX7_wantsOf 20 = .ok (.iload_n 2, 1) := by decide +kernel
theorem dX7_wantsOf_21 : decode cX7_wantsOf 21 = .ok (.aload_n 0, 1) := by decide +kernel
theorem dX7_wantsOf_22 : decode cX7_wantsOf 22 = .ok (.iload_n 3, 1) := by decide +kernel
theorem dX7_wantsOf_23 : decode cX7_wantsOf 23 = .ok (.invokevirtual 187, 3) := by decide +kernel
theorem dX7_wantsOf_26 : decode cX7_wantsOf 26 = .ok (.ifCond .lt 31, 3) := by decide +kernel
theorem dX7_wantsOf_29 : decode cX7_wantsOf 29 = .ok (.aload_n 0, 1) := by decide +kernel
theorem dX7_wantsOf_30 : decode cX7_wantsOf 30 = .ok (.getfield 22, 3) := by decide +kernel
theorem dX7_wantsOf_33 : decode cX7_wantsOf 33 = .ok (.iload_n 3, 1) := by decide +kernel
theorem dX7_wantsOf_34 : decode cX7_wantsOf 34 = .ok (.iaload, 1) := by decide +kernel
theorem dX7_wantsOf_35 : decode cX7_wantsOf 35 = .ok (.iload_n 1, 1) := by decide +kernel
theorem dX7_wantsOf_36 : decode cX7_wantsOf 36 = .ok (.if_icmp .ne 21, 3) := by decide +kernel
theorem dX7_wantsOf_39 : decode cX7_wantsOf 39 = .ok (.aload_n 0, 1) := by decide +kernel
theorem dX7_wantsOf_40 : decode cX7_wantsOf 40 = .ok (.iload_n 3, 1) := by decide +kernel
theorem dX7_wantsOf_41 : decode cX7_wantsOf 41 = .ok (.invokevirtual 160, 3) := by decide +kernel
theorem dX7_wantsOf_44 : decode cX7_wantsOf 44 = .ok (.aload_n 0, 1) := by decide +kernel
theorem dX7_wantsOf_45 : decode cX7_wantsOf 45 = .ok (.getfield 29, 3) := by decide +kernel
theorem dX7_wantsOf_48 : decode cX7_wantsOf 48 = .ok (.bipush 19, 2) := by decide +kernel
theorem dX7_wantsOf_50 : decode cX7_wantsOf 50 = .ok (.iload_n 3, 1) := by decide +kernel
theorem dX7_wantsOf_51 : decode cX7_wantsOf 51 = .ok (.iadd, 1) := by decide +kernel
theorem dX7_wantsOf_52 : decode cX7_wantsOf 52 = .ok (.iaload, 1) := by decide +kernel
theorem dX7_wantsOf_53 : decode cX7_wantsOf 53 = .ok (.isub, 1) := by decide +kernel
theorem dX7_wantsOf_54 : decode cX7_wantsOf 54 = .ok (.goto 4, 3) := by decide +kernel
theorem dX7_wantsOf_57 : decode cX7_wantsOf 57 = .ok (.iconst 0, 1) := by decide +kernel
theorem dX7_wantsOf_58 : decode cX7_wantsOf 58 = .ok (.iadd, 1) := by decide +kernel
theorem dX7_wantsOf_59 : decode cX7_wantsOf 59 = .ok (.istore_n 2, 1) := by decide +kernel
theorem dX7_wantsOf_60 : decode cX7_wantsOf 60 = .ok (.iinc 3 1, 3) := by decide +kernel
theorem dX7_wantsOf_63 : decode cX7_wantsOf 63 = .ok (.goto (-51), 3) := by decide +kernel
theorem dX7_wantsOf_66 : decode cX7_wantsOf 66 = .ok (.iload_n 2, 1) := by decide +kernel
theorem dX7_wantsOf_67 : decode cX7_wantsOf 67 = .ok (.ifCond .ge 7, 3) := by decide +kernel
theorem dX7_wantsOf_70 : decode cX7_wantsOf 70 = .ok (.iconst 0, 1) := by decide +kernel
theorem dX7_wantsOf_71 : decode cX7_wantsOf 71 = .ok (.goto 4, 3) := by decide +kernel
theorem dX7_wantsOf_74 : decode cX7_wantsOf 74 = .ok (.iload_n 2, 1) := by decide +kernel
theorem dX7_wantsOf_75 : decode cX7_wantsOf 75 = .ok (.ireturn, 1) := by decide +kernel
theorem dX7_wantsInk_0 : decode cX7_wantsInk 0 = .ok (.aload_n 0, 1) := by decide +kernel
theorem dX7_wantsInk_1 : decode cX7_wantsInk 1 = .ok (.getfield 29, 3) := by decide +kernel
theorem dX7_wantsInk_4 : decode cX7_wantsInk 4 = .ok (.iconst 1, 1) := by decide +kernel
theorem dX7_wantsInk_5 : decode cX7_wantsInk 5 = .ok (.iaload, 1) := by decide +kernel
theorem dX7_wantsInk_6 : decode cX7_wantsInk 6 = .ok (.ineg, 1) := by decide +kernel
theorem dX7_wantsInk_7 : decode cX7_wantsInk 7 = .ok (.istore_n 1, 1) := by decide +kernel
theorem dX7_wantsInk_8 : decode cX7_wantsInk 8 = .ok (.iconst 0, 1) := by decide +kernel
theorem dX7_wantsInk_9 : decode cX7_wantsInk 9 = .ok (.istore_n 2, 1) := by decide +kernel
theorem dX7_wantsInk_10 : decode cX7_wantsInk 10 = .ok (.iload_n 2, 1) := by decide +kernel
theorem dX7_wantsInk_11 : decode cX7_wantsInk 11 = .ok (.aload_n 0, 1) := by decide +kernel
theorem dX7_wantsInk_12 : decode cX7_wantsInk 12 = .ok (.getfield 66, 3) := by decide +kernel
theorem dX7_wantsInk_15 : decode cX7_wantsInk 15 = .ok (.if_icmp .ge 17, 3) := by decide +kernel
theorem dX7_wantsInk_18 : decode cX7_wantsInk 18 = .ok (.iload_n 1, 1) := by decide +kernel
theorem dX7_wantsInk_19 : decode cX7_wantsInk 19 = .ok (.aload_n 0, 1) := by decide +kernel
theorem dX7_wantsInk_20 : decode cX7_wantsInk 20 = .ok (.iload_n 2, 1) := by decide +kernel
theorem dX7_wantsInk_21 : decode cX7_wantsInk 21 = .ok (.invokevirtual 199, 3) := by decide +kernel
theorem dX7_wantsInk_24 : decode cX7_wantsInk 24 = .ok (.iadd, 1) := by decide +kernel
theorem dX7_wantsInk_25 : decode cX7_wantsInk 25 = .ok (.istore_n 1, 1) := by decide +kernel
theorem dX7_wantsInk_26 : decode cX7_wantsInk 26 = .ok (.iinc 2 1, 3) := by decide +kernel
theorem dX7_wantsInk_29 : decode cX7_wantsInk 29 = .ok (.goto (-19), 3) := by decide +kernel
theorem dX7_wantsInk_32 : decode cX7_wantsInk 32 = .ok (.iload_n 1, 1) := by decide +kernel
theorem dX7_wantsInk_33 : decode cX7_wantsInk 33 = .ok (.ifCond .ge 7, 3) := by decide +kernel
theorem dX7_wantsInk_36 : decode cX7_wantsInk 36 = .ok (.iconst 0, 1) := by decide +kernel
theorem dX7_wantsInk_37 : decode cX7_wantsInk 37 = .ok (.goto 4, 3) := by decide +kernel
theorem dX7_wantsInk_40 : decode cX7_wantsInk 40 = .ok (.iload_n 1, 1) := by decide +kernel
theorem dX7_wantsInk_41 : decode cX7_wantsInk 41 = .ok (.ireturn, 1) := by decide +kernel
theorem dX7_tray_0 : decode cX7_tray 0 = .ok (.iload_n 1, 1) := by decide +kernel
theorem dX7_tray_1 : decode cX7_tray 1 = .ok (.i2l, 1) := by decide +kernel
theorem dX7_tray_2 : decode cX7_tray 2 = .ok (.lconst 0, 1) := by decide +kernel
theorem dX7_tray_3 : decode cX7_tray 3 = .ok (.ldc2_w 190, 3) := by decide +kernel
theorem dX7_tray_6 : decode cX7_tray 6 = .ok (.invokestatic 62, 3) := by decide +kernel
theorem dX7_tray_9 : decode cX7_tray 9 = .ok (.ifCond .eq 10, 3) := by decide +kernel
theorem dX7_tray_12 : decode cX7_tray 12 = .ok (.iload_n 2, 1) := by decide +kernel
theorem dX7_tray_13 : decode cX7_tray 13 = .ok (.invokestatic 202, 3) := by decide +kernel
theorem dX7_tray_16 : decode cX7_tray 16 = .ok (.ifCond .ne 5, 3) := by decide +kernel
theorem dX7_tray_19 : decode cX7_tray 19 = .ok (.iconst (-1), 1) := by decide +kernel
theorem dX7_tray_20 : decode cX7_tray 20 = .ok (.ireturn, 1) := by decide +kernel
theorem dX7_tray_21 : decode cX7_tray 21 = .ok (.iload_n 2, 1) := by decide +kernel
theorem dX7_tray_22 : decode cX7_tray 22 = .ok (.ifCond .ne 14, 3) := by decide +kernel
theorem dX7_tray_25 : decode cX7_tray 25 = .ok (.aload_n 0, 1) := by decide +kernel
theorem dX7_tray_26 : decode cX7_tray 26 = .ok (.getfield 29, 3) := by decide +kernel
theorem dX7_tray_29 : decode cX7_tray 29 = .ok (.iconst 4, 1) := by decide +kernel
theorem dX7_tray_30 : decode cX7_tray 30 = .ok (.iload_n 1, 1) := by decide +kernel
theorem dX7_tray_31 : decode cX7_tray 31 = .ok (.iadd, 1) := by decide +kernel
theorem dX7_tray_32 : decode cX7_tray 32 = .ok (.iaload, 1) := by decide +kernel
theorem dX7_tray_33 : decode cX7_tray 33 = .ok (.goto 8, 3) := by decide +kernel
theorem dX7_tray_36 : decode cX7_tray 36 = .ok (.aload_n 0, 1) := by decide +kernel
theorem dX7_tray_37 : decode cX7_tray 37 = .ok (.iload_n 1, 1) := by decide +kernel
theorem dX7_tray_38 : decode cX7_tray 38 = .ok (.invokevirtual 205, 3) := by decide +kernel
theorem dX7_tray_41 : decode cX7_tray 41 = .ok (.ireturn, 1) := by decide +kernel
theorem dX7_bin_0 : decode cX7_bin 0 = .ok (.iload_n 1, 1) := by decide +kernel
theorem dX7_bin_1 : decode cX7_bin 1 = .ok (.i2l, 1) := by decide +kernel
theorem dX7_bin_2 : decode cX7_bin 2 = .ok (.lconst 0, 1) := by decide +kernel
theorem dX7_bin_3 : decode cX7_bin 3 = .ok (.aload_n 0, 1) := by decide +kernel
theorem dX7_bin_4 : decode cX7_bin 4 = .ok (.getfield 25, 3) := by decide +kernel
theorem dX7_bin_7 : decode cX7_bin 7 = .ok (.iconst 1, 1) := by decide +kernel
theorem dX7_bin_8 : decode cX7_bin 8 = .ok (.isub, 1) := by decide +kernel
theorem dX7_bin_9 : decode cX7_bin 9 = .ok (.i2l, 1) := by decide +kernel
theorem dX7_bin_10 : decode cX7_bin 10 = .ok (.invokestatic 62, 3) := by decide +kernel
theorem dX7_bin_13 : decode cX7_bin 13 = .ok (.ifCond .eq 15, 3) := by decide +kernel
theorem dX7_bin_16 : decode cX7_bin 16 = .ok (.aload_n 0, 1) := by decide +kernel
theorem dX7_bin_17 : decode cX7_bin 17 = .ok (.getfield 29, 3) := by decide +kernel
theorem dX7_bin_20 : decode cX7_bin 20 = .ok (.bipush 7, 2) := by decide +kernel
theorem dX7_bin_22 : decode cX7_bin 22 = .ok (.iload_n 1, 1) := by decide +kernel
theorem dX7_bin_23 : decode cX7_bin 23 = .ok (.iadd, 1) := by decide +kernel
theorem dX7_bin_24 : decode cX7_bin 24 = .ok (.iaload, 1) := by decide +kernel
theorem dX7_bin_25 : decode cX7_bin 25 = .ok (.goto 4, 3) := by decide +kernel
theorem dX7_bin_28 : decode cX7_bin 28 = .ok (.iconst (-1), 1) := by decide +kernel
theorem dX7_bin_29 : decode cX7_bin 29 = .ok (.ireturn, 1) := by decide +kernel
theorem dX7_inBins_0 : decode cX7_inBins 0 = .ok (.iconst 0, 1) := by decide +kernel
theorem dX7_inBins_1 : decode cX7_inBins 1 = .ok (.istore_n 1, 1) := by decide +kernel
theorem dX7_inBins_2 : decode cX7_inBins 2 = .ok (.iconst 0, 1) := by decide +kernel
theorem dX7_inBins_3 : decode cX7_inBins 3 = .ok (.istore_n 2, 1) := by decide +kernel
theorem dX7_inBins_4 : decode cX7_inBins 4 = .ok (.iload_n 2, 1) := by decide +kernel
theorem dX7_inBins_5 : decode cX7_inBins 5 = .ok (.bipush 6, 2) := by decide +kernel
theorem dX7_inBins_7 : decode cX7_inBins 7 = .ok (.if_icmp .ge 21, 3) := by decide +kernel
theorem dX7_inBins_10 : decode cX7_inBins 10 = .ok (.iload_n 1, 1) := by decide +kernel
theorem dX7_inBins_11 : decode cX7_inBins 11 = .ok (.aload_n 0, 1) := by decide +kernel
theorem dX7_inBins_12 : decode cX7_inBins 12 = .ok (.getfield 29, 3) := by decide +kernel
theorem dX7_inBins_15 : decode cX7_inBins 15 = .ok (.bipush 7, 2) := by decide +kernel
theorem dX7_inBins_17 : decode cX7_inBins 17 = .ok (.iload_n 2, 1) := by decide +kernel
theorem dX7_inBins_18 : decode cX7_inBins 18 = .ok (.iadd, 1) := by decide +kernel
theorem dX7_inBins_19 : decode cX7_inBins 19 = .ok (.iaload, 1) := by decide +kernel
theorem dX7_inBins_20 : decode cX7_inBins 20 = .ok (.iadd, 1) := by decide +kernel
theorem dX7_inBins_21 : decode cX7_inBins 21 = .ok (.istore_n 1, 1) := by decide +kernel
theorem dX7_inBins_22 : decode cX7_inBins 22 = .ok (.iinc 2 1, 3) := by decide +kernel
theorem dX7_inBins_25 : decode cX7_inBins 25 = .ok (.goto (-21), 3) := by decide +kernel
theorem dX7_inBins_28 : decode cX7_inBins 28 = .ok (.iload_n 1, 1) := by decide +kernel
theorem dX7_inBins_29 : decode cX7_inBins 29 = .ok (.ireturn, 1) := by decide +kernel
theorem dX7_now_0 : decode cX7_now 0 = .ok (.iload_n 1, 1) := by decide +kernel
theorem dX7_now_1 : decode cX7_now 1 = .ok (.tableswitch 112 0 7 #[47, 54, 61, 83, 88, 95, 102, 107], 47) := by decide +kernel
theorem dX7_now_48 : decode cX7_now 48 = .ok (.aload_n 0, 1) := by decide +kernel
theorem dX7_now_49 : decode cX7_now 49 = .ok (.getfield 29, 3) := by decide +kernel
theorem dX7_now_52 : decode cX7_now 52 = .ok (.iconst 0, 1) := by decide +kernel
theorem dX7_now_53 : decode cX7_now 53 = .ok (.iaload, 1) := by decide +kernel
theorem dX7_now_54 : decode cX7_now 54 = .ok (.ireturn, 1) := by decide +kernel
theorem dX7_now_55 : decode cX7_now 55 = .ok (.aload_n 0, 1) := by decide +kernel
theorem dX7_now_56 : decode cX7_now 56 = .ok (.getfield 29, 3) := by decide +kernel
theorem dX7_now_59 : decode cX7_now 59 = .ok (.iconst 1, 1) := by decide +kernel
theorem dX7_now_60 : decode cX7_now 60 = .ok (.iaload, 1) := by decide +kernel
theorem dX7_now_61 : decode cX7_now 61 = .ok (.ireturn, 1) := by decide +kernel
theorem dX7_now_62 : decode cX7_now 62 = .ok (.aload_n 0, 1) := by decide +kernel
theorem dX7_now_63 : decode cX7_now 63 = .ok (.getfield 29, 3) := by decide +kernel
theorem dX7_now_66 : decode cX7_now 66 = .ok (.iconst 3, 1) := by decide +kernel
theorem dX7_now_67 : decode cX7_now 67 = .ok (.iaload, 1) := by decide +kernel
theorem dX7_now_68 : decode cX7_now 68 = .ok (.ifCond .ne 8, 3) := by decide +kernel
theorem dX7_now_71 : decode cX7_now 71 = .ok (.bipush (-9), 2) := by decide +kernel
theorem dX7_now_73 : decode cX7_now 73 = .ok (.goto 10, 3) := by decide +kernel
theorem dX7_now_76 : decode cX7_now 76 = .ok (.aload_n 0, 1) := by decide +kernel
theorem dX7_now_77 : decode cX7_now 77 = .ok (.getfield 29, 3) := by decide +kernel
theorem dX7_now_80 : decode cX7_now 80 = .ok (.bipush 13, 2) := by decide +kernel
theorem dX7_now_82 : decode cX7_now 82 = .ok (.iaload, 1) := by decide +kernel
theorem dX7_now_83 : decode cX7_now 83 = .ok (.ireturn, 1) := by decide +kernel
theorem dX7_now_84 : decode cX7_now 84 = .ok (.aload_n 0, 1) := by decide +kernel
theorem dX7_now_85 : decode cX7_now 85 = .ok (.invokevirtual 172, 3) := by decide +kernel
theorem dX7_now_88 : decode cX7_now 88 = .ok (.ireturn, 1) := by decide +kernel
theorem dX7_now_89 : decode cX7_now 89 = .ok (.aload_n 0, 1) := by decide +kernel
theorem dX7_now_90 : decode cX7_now 90 = .ok (.getfield 29, 3) := by decide +kernel
theorem dX7_now_93 : decode cX7_now 93 = .ok (.iconst 2, 1) := by decide +kernel
theorem dX7_now_94 : decode cX7_now 94 = .ok (.iaload, 1) := by decide +kernel
theorem dX7_now_95 : decode cX7_now 95 = .ok (.ireturn, 1) := by decide +kernel
theorem dX7_now_96 : decode cX7_now 96 = .ok (.aload_n 0, 1) := by decide +kernel
theorem dX7_now_97 : decode cX7_now 97 = .ok (.getfield 29, 3) := by decide +kernel
theorem dX7_now_100 : decode cX7_now 100 = .ok (.iconst 3, 1) := by decide +kernel
theorem dX7_now_101 : decode cX7_now 101 = .ok (.iaload, 1) := by decide +kernel
theorem dX7_now_102 : decode cX7_now 102 = .ok (.ireturn, 1) := by decide +kernel
theorem dX7_now_103 : decode cX7_now 103 = .ok (.aload_n 0, 1) := by decide +kernel
theorem dX7_now_104 : decode cX7_now 104 = .ok (.invokevirtual 208, 3) := by decide +kernel
theorem dX7_now_107 : decode cX7_now 107 = .ok (.ireturn, 1) := by decide +kernel
theorem dX7_now_108 : decode cX7_now 108 = .ok (.aload_n 0, 1) := by decide +kernel
theorem dX7_now_109 : decode cX7_now 109 = .ok (.invokevirtual 211, 3) := by decide +kernel
theorem dX7_now_112 : decode cX7_now 112 = .ok (.ireturn, 1) := by decide +kernel
theorem dX7_now_113 : decode cX7_now 113 = .ok (.iconst (-1), 1) := by decide +kernel
theorem dX7_now_114 : decode cX7_now 114 = .ok (.ireturn, 1) := by decide +kernel
theorem dX7_shortest_0 : decode cX7_shortest 0 = .ok (.bipush (-9), 2) := by decide +kernel
theorem dX7_shortest_2 : decode cX7_shortest 2 = .ok (.istore_n 2, 1) := by decide +kernel
theorem dX7_shortest_3 : decode cX7_shortest 3 = .ok (.iconst 0, 1) := by decide +kernel
theorem dX7_shortest_4 : decode cX7_shortest 4 = .ok (.istore_n 3, 1) := by decide +kernel
theorem dX7_shortest_5 : decode cX7_shortest 5 = .ok (.iload_n 3, 1) := by decide +kernel
theorem dX7_shortest_6 : decode cX7_shortest 6 = .ok (.aload_n 0, 1) := by decide +kernel
theorem dX7_shortest_7 : decode cX7_shortest 7 = .ok (.getfield 66, 3) := by decide +kernel
theorem dX7_shortest_10 : decode cX7_shortest 10 = .ok (.if_icmp .ge 41, 3) := by decide +kernel
theorem dX7_shortest_13 : decode cX7_shortest 13 = .ok (.iload_n 1, 1) := by decide +kernel
theorem dX7_shortest_14 : decode cX7_shortest 14 = .ok (.iload_n 3, 1) := by decide +kernel
theorem dX7_shortest_15 : decode cX7_shortest 15 = .ok (.ishr, 1) := by decide +kernel
theorem dX7_shortest_16 : decode cX7_shortest 16 = .ok (.iconst 1, 1) := by decide +kernel
theorem dX7_shortest_17 : decode cX7_shortest 17 = .ok (.iand, 1) := by decide +kernel
theorem dX7_shortest_18 : decode cX7_shortest 18 = .ok (.iconst 1, 1) := by decide +kernel
theorem dX7_shortest_19 : decode cX7_shortest 19 = .ok (.if_icmp .ne 24, 3) := by decide +kernel
theorem dX7_shortest_22 : decode cX7_shortest 22 = .ok (.iload_n 2, 1) := by decide +kernel
theorem dX7_shortest_23 : decode cX7_shortest 23 = .ok (.ifCond .lt 16, 3) := by decide +kernel
theorem dX7_shortest_26 : decode cX7_shortest 26 = .ok (.aload_n 0, 1) := by decide +kernel
theorem dX7_shortest_27 : decode cX7_shortest 27 = .ok (.iload_n 3, 1) := by decide +kernel
theorem dX7_shortest_28 : decode cX7_shortest 28 = .ok (.invokevirtual 199, 3) := by decide +kernel
theorem dX7_shortest_31 : decode cX7_shortest 31 = .ok (.aload_n 0, 1) := by decide +kernel
theorem dX7_shortest_32 : decode cX7_shortest 32 = .ok (.iload_n 2, 1) := by decide +kernel
theorem dX7_shortest_33 : decode cX7_shortest 33 = .ok (.invokevirtual 199, 3) := by decide +kernel
theorem dX7_shortest_36 : decode cX7_shortest 36 = .ok (.if_icmp .ge 7, 3) := by decide +kernel
theorem dX7_shortest_39 : decode cX7_shortest 39 = .ok (.iload_n 3, 1) := by decide +kernel
theorem dX7_shortest_40 : decode cX7_shortest 40 = .ok (.goto 4, 3) := by decide +kernel
theorem dX7_shortest_43 : decode cX7_shortest 43 = .ok (.iload_n 2, 1) := by decide +kernel
theorem dX7_shortest_44 : decode cX7_shortest 44 = .ok (.istore_n 2, 1) := by decide +kernel
theorem dX7_shortest_45 : decode cX7_shortest 45 = .ok (.iinc 3 1, 3) := by decide +kernel
theorem dX7_shortest_48 : decode cX7_shortest 48 = .ok (.goto (-43), 3) := by decide +kernel
theorem dX7_shortest_51 : decode cX7_shortest 51 = .ok (.iload_n 2, 1) := by decide +kernel
theorem dX7_shortest_52 : decode cX7_shortest 52 = .ok (.ireturn, 1) := by decide +kernel
theorem dX7_soon_0 : decode cX7_soon 0 = .ok (.iload_n 1, 1) := by decide +kernel
theorem dX7_soon_1 : decode cX7_soon 1 = .ok (.invokestatic 202, 3) := by decide +kernel
theorem dX7_soon_4 : decode cX7_soon 4 = .ok (.ifCond .ne 5, 3) := by decide +kernel
theorem dX7_soon_7 : decode cX7_soon 7 = .ok (.iconst (-1), 1) := by decide +kernel
theorem dX7_soon_8 : decode cX7_soon 8 = .ok (.ireturn, 1) := by decide +kernel
theorem dX7_soon_9 : decode cX7_soon 9 = .ok (.iconst 0, 1) := by decide +kernel
theorem dX7_soon_10 : decode cX7_soon 10 = .ok (.istore_n 2, 1) := by decide +kernel
theorem dX7_soon_11 : decode cX7_soon 11 = .ok (.iconst 0, 1) := by decide +kernel
theorem dX7_soon_12 : decode cX7_soon 12 = .ok (.istore_n 3, 1) := by decide +kernel
theorem dX7_soon_13 : decode cX7_soon 13 = .ok (.iload_n 3, 1) := by decide +kernel
theorem dX7_soon_14 : decode cX7_soon 14 = .ok (.aload_n 0, 1) := by decide +kernel
theorem dX7_soon_15 : decode cX7_soon 15 = .ok (.getfield 29, 3) := by decide +kernel
theorem dX7_soon_18 : decode cX7_soon 18 = .ok (.iconst 3, 1) := by decide +kernel
theorem dX7_soon_19 : decode cX7_soon 19 = .ok (.iaload, 1) := by decide +kernel
theorem dX7_soon_20 : decode cX7_soon 20 = .ok (.if_icmp .ge 23, 3) := by decide +kernel
theorem dX7_soon_23 : decode cX7_soon 23 = .ok (.iload_n 2, 1) := by decide +kernel
theorem dX7_soon_24 : decode cX7_soon 24 = .ok (.iconst 1, 1) := by decide +kernel
theorem dX7_soon_25 : decode cX7_soon 25 = .ok (.aload_n 0, 1) := by decide +kernel
theorem dX7_soon_26 : decode cX7_soon 26 = .ok (.getfield 29, 3) := by decide +kernel
theorem dX7_soon_29 : decode cX7_soon 29 = .ok (.bipush 13, 2) := by decide +kernel
theorem dX7_soon_31 : decode cX7_soon 31 = .ok (.iload_n 3, 1) := by decide +kernel
theorem dX7_soon_32 : decode cX7_soon 32 = .ok (.iadd, 1) := by decide +kernel
theorem dX7_soon_33 : decode cX7_soon 33 = .ok (.iaload, 1) := by decide +kernel
theorem dX7_soon_34 : decode cX7_soon 34 = .ok (.ishl, 1) := by decide +kernel
theorem dX7_soon_35 : decode cX7_soon 35 = .ok (.ior, 1) := by decide +kernel
theorem dX7_soon_36 : decode cX7_soon 36 = .ok (.istore_n 2, 1) := by decide +kernel
theorem dX7_soon_37 : decode cX7_soon 37 = .ok (.iinc 3 1, 3) := by decide +kernel
theorem dX7_soon_40 : decode cX7_soon 40 = .ok (.goto (-27), 3) := by decide +kernel
theorem dX7_soon_43 : decode cX7_soon 43 = .ok (.iconst 0, 1) := by decide +kernel
theorem dX7_soon_44 : decode cX7_soon 44 = .ok (.istore_n 3, 1) := by decide +kernel
theorem dX7_soon_45 : decode cX7_soon 45 = .ok (.iconst 0, 1) := by decide +kernel
theorem dX7_soon_46 : decode cX7_soon 46 = .ok (.istore 4, 2) := by decide +kernel
theorem dX7_soon_48 : decode cX7_soon 48 = .ok (.iconst 0, 1) := by decide +kernel
theorem dX7_soon_49 : decode cX7_soon 49 = .ok (.istore 5, 2) := by decide +kernel
theorem dX7_soon_51 : decode cX7_soon 51 = .ok (.iload_n 2, 1) := by decide +kernel
theorem dX7_soon_52 : decode cX7_soon 52 = .ok (.ifCond .eq 50, 3) := by decide +kernel
theorem dX7_soon_55 : decode cX7_soon 55 = .ok (.aload_n 0, 1) := by decide +kernel
theorem dX7_soon_56 : decode cX7_soon 56 = .ok (.iload_n 2, 1) := by decide +kernel
theorem dX7_soon_57 : decode cX7_soon 57 = .ok (.invokevirtual 214, 3) := by decide +kernel
theorem dX7_soon_60 : decode cX7_soon 60 = .ok (.istore 6, 2) := by decide +kernel
theorem dX7_soon_62 : decode cX7_soon 62 = .ok (.iload 5, 2) := by decide +kernel
theorem dX7_soon_64 : decode cX7_soon 64 = .ok (.aload_n 0, 1) := by decide +kernel
theorem dX7_soon_65 : decode cX7_soon 65 = .ok (.iload 6, 2) := by decide +kernel
theorem dX7_soon_67 : decode cX7_soon 67 = .ok (.invokevirtual 199, 3) := by decide +kernel
theorem dX7_soon_70 : decode cX7_soon 70 = .ok (.iadd, 1) := by decide +kernel
theorem dX7_soon_71 : decode cX7_soon 71 = .ok (.istore 5, 2) := by decide +kernel
theorem dX7_soon_73 : decode cX7_soon 73 = .ok (.iload_n 3, 1) := by decide +kernel
theorem dX7_soon_74 : decode cX7_soon 74 = .ok (.iload 5, 2) := by decide +kernel
theorem dX7_soon_76 : decode cX7_soon 76 = .ok (.iadd, 1) := by decide +kernel
theorem dX7_soon_77 : decode cX7_soon 77 = .ok (.istore_n 3, 1) := by decide +kernel
theorem dX7_soon_78 : decode cX7_soon 78 = .ok (.bipush 10, 2) := by decide +kernel
theorem dX7_soon_80 : decode cX7_soon 80 = .ok (.iload 4, 2) := by decide +kernel
theorem dX7_soon_82 : decode cX7_soon 82 = .ok (.imul, 1) := by decide +kernel
theorem dX7_soon_83 : decode cX7_soon 83 = .ok (.iload 6, 2) := by decide +kernel
theorem dX7_soon_85 : decode cX7_soon 85 = .ok (.iadd, 1) := by decide +kernel
theorem dX7_soon_86 : decode cX7_soon 86 = .ok (.iconst 1, 1) := by decide +kernel
theorem dX7_soon_87 : decode cX7_soon 87 = .ok (.iadd, 1) := by decide +kernel
theorem dX7_soon_88 : decode cX7_soon 88 = .ok (.istore 4, 2) := by decide +kernel
theorem dX7_soon_90 : decode cX7_soon 90 = .ok (.iload_n 2, 1) := by decide +kernel
theorem dX7_soon_91 : decode cX7_soon 91 = .ok (.iconst 1, 1) := by decide +kernel
theorem dX7_soon_92 : decode cX7_soon 92 = .ok (.iload 6, 2) := by decide +kernel
theorem dX7_soon_94 : decode cX7_soon 94 = .ok (.ishl, 1) := by decide +kernel
theorem dX7_soon_95 : decode cX7_soon 95 = .ok (.iconst (-1), 1) := by decide +kernel
theorem dX7_soon_96 : decode cX7_soon 96 = .ok (.ixor, 1) := by decide +kernel
theorem dX7_soon_97 : decode cX7_soon 97 = .ok (.iand, 1) := by decide +kernel
theorem dX7_soon_98 : decode cX7_soon 98 = .ok (.istore_n 2, 1) := by decide +kernel
theorem dX7_soon_99 : decode cX7_soon 99 = .ok (.goto (-48), 3) := by decide +kernel
theorem dX7_soon_102 : decode cX7_soon 102 = .ok (.iload_n 1, 1) := by decide +kernel
theorem dX7_soon_103 : decode cX7_soon 103 = .ok (.ifCond .ne 7, 3) := by decide +kernel
theorem dX7_soon_106 : decode cX7_soon 106 = .ok (.iload_n 3, 1) := by decide +kernel
theorem dX7_soon_107 : decode cX7_soon 107 = .ok (.goto 5, 3) := by decide +kernel
theorem dX7_soon_110 : decode cX7_soon 110 = .ok (.iload 4, 2) := by decide +kernel
theorem dX7_soon_112 : decode cX7_soon 112 = .ok (.ireturn, 1) := by decide +kernel
theorem dX7_choose_0 : decode cX7_choose 0 = .ok (.lconst 1, 1) := by decide +kernel
theorem dX7_choose_1 : decode cX7_choose 1 = .ok (.lstore_n 2, 1) := by decide +kernel
theorem dX7_choose_2 : decode cX7_choose 2 = .ok (.iconst 0, 1) := by decide +kernel
theorem dX7_choose_3 : decode cX7_choose 3 = .ok (.istore 4, 2) := by decide +kernel
theorem dX7_choose_5 : decode cX7_choose 5 = .ok (.iload 4, 2) := by decide +kernel
theorem dX7_choose_7 : decode cX7_choose 7 = .ok (.iload_n 1, 1) := by decide +kernel
theorem dX7_choose_8 : decode cX7_choose 8 = .ok (.if_icmp .ge 23, 3) := by decide +kernel
theorem dX7_choose_11 : decode cX7_choose 11 = .ok (.lload_n 2, 1) := by decide +kernel
theorem dX7_choose_12 : decode cX7_choose 12 = .ok (.iload_n 0, 1) := by decide +kernel
theorem dX7_choose_13 : decode cX7_choose 13 = .ok (.iload 4, 2) := by decide +kernel
theorem dX7_choose_15 : decode cX7_choose 15 = .ok (.isub, 1) := by decide +kernel
theorem dX7_choose_16 : decode cX7_choose 16 = .ok (.i2l, 1) := by decide +kernel
theorem dX7_choose_17 : decode cX7_choose 17 = .ok (.lmul, 1) := by decide +kernel
theorem dX7_choose_18 : decode cX7_choose 18 = .ok (.iload 4, 2) := by decide +kernel
theorem dX7_choose_20 : decode cX7_choose 20 = .ok (.iconst 1, 1) := by decide +kernel
theorem dX7_choose_21 : decode cX7_choose 21 = .ok (.iadd, 1) := by decide +kernel
theorem dX7_choose_22 : decode cX7_choose 22 = .ok (.i2l, 1) := by decide +kernel
theorem dX7_choose_23 : decode cX7_choose 23 = .ok (.ldiv, 1) := by decide +kernel
theorem dX7_choose_24 : decode cX7_choose 24 = .ok (.lstore_n 2, 1) := by decide +kernel
theorem dX7_choose_25 : decode cX7_choose 25 = .ok (.iinc 4 1, 3) := by decide +kernel
theorem dX7_choose_28 : decode cX7_choose 28 = .ok (.goto (-23), 3) := by decide +kernel
theorem dX7_choose_31 : decode cX7_choose 31 = .ok (.lload_n 2, 1) := by decide +kernel
theorem dX7_choose_32 : decode cX7_choose 32 = .ok (.lreturn, 1) := by decide +kernel
theorem dX7_odds_0 : decode cX7_odds 0 = .ok (.aload_n 0, 1) := by decide +kernel
theorem dX7_odds_1 : decode cX7_odds 1 = .ok (.iload_n 1, 1) := by decide +kernel
theorem dX7_odds_2 : decode cX7_odds 2 = .ok (.invokevirtual 156, 3) := by decide +kernel
theorem dX7_odds_5 : decode cX7_odds 5 = .ok (.ifCond .eq 32, 3) := by decide +kernel
theorem dX7_odds_8 : decode cX7_odds 8 = .ok (.iload_n 2, 1) := by decide +kernel
theorem dX7_odds_9 : decode cX7_odds 9 = .ok (.i2l, 1) := by decide +kernel
theorem dX7_odds_10 : decode cX7_odds 10 = .ok (.lconst 1, 1) := by decide +kernel
theorem dX7_odds_11 : decode cX7_odds 11 = .ok (.ldc2_w 217, 3) := by decide +kernel
theorem dX7_odds_14 : decode cX7_odds 14 = .ok (.invokestatic 62, 3) := by decide +kernel
end
section
theorem dX7_odds_17 : decode cX7_odds 17 = .ok (.ifCond .eq 20, 3) := by decide +kernel
theorem dX7_odds_20 : decode cX7_odds 20 = .ok (.aload_n 0, 1) := by decide +kernel
theorem dX7_odds_21 : decode cX7_odds 21 = .ok (.iload_n 1, 1) := by decide +kernel
theorem dX7_odds_22 : decode cX7_odds 22 = .ok (.iload_n 3, 1) := by decide +kernel
theorem dX7_odds_23 : decode cX7_odds 23 = .ok (.invokevirtual 166, 3) := by decide +kernel
theorem dX7_odds_26 : decode cX7_odds 26 = .ok (.ifCond .eq 11, 3) := by decide +kernel
theorem dX7_odds_29 : decode cX7_odds 29 = .ok (.iload 4, 2) := by decide +kernel
theorem dX7_odds_31 : decode cX7_odds 31 = .ok (.invokestatic 202, 3) := by decide +kernel
theorem dX7_odds_34 : decode cX7_odds 34 = .ok (.ifCond .ne 5, 3) := by decide +kernel
theorem dX7_odds_37 : decode cX7_odds 37 = .ok (.iconst (-1), 1) := by decide +kernel
theorem dX7_odds_38 : decode cX7_odds 38 = .ok (.ireturn, 1) := by decide +kernel
theorem dX7_odds_39 : decode cX7_odds 39 = .ok (.aload_n 0, 1) := by decide +kernel
theorem dX7_odds_40 : decode cX7_odds 40 = .ok (.iload_n 1, 1) := by decide +kernel
theorem dX7_odds_41 : decode cX7_odds 41 = .ok (.invokevirtual 160, 3) := by decide +kernel
theorem dX7_odds_44 : decode cX7_odds 44 = .ok (.istore 5, 2) := by decide +kernel
theorem dX7_odds_46 : decode cX7_odds 46 = .ok (.iload 5, 2) := by decide +kernel
theorem dX7_odds_48 : decode cX7_odds 48 = .ok (.iload_n 2, 1) := by decide +kernel
theorem dX7_odds_49 : decode cX7_odds 49 = .ok (.if_icmp .ge 6, 3) := by decide +kernel
theorem dX7_odds_52 : decode cX7_odds 52 = .ok (.bipush (-2), 2) := by decide +kernel
theorem dX7_odds_54 : decode cX7_odds 54 = .ok (.ireturn, 1) := by decide +kernel
theorem dX7_odds_55 : decode cX7_odds 55 = .ok (.iload 5, 2) := by decide +kernel
theorem dX7_odds_57 : decode cX7_odds 57 = .ok (.iload_n 2, 1) := by decide +kernel
theorem dX7_odds_58 : decode cX7_odds 58 = .ok (.invokestatic 219, 3) := by decide +kernel
theorem dX7_odds_61 : decode cX7_odds 61 = .ok (.lstore 6, 2) := by decide +kernel
theorem dX7_odds_63 : decode cX7_odds 63 = .ok (.iload 5, 2) := by decide +kernel
theorem dX7_odds_65 : decode cX7_odds 65 = .ok (.aload_n 0, 1) := by decide +kernel
theorem dX7_odds_66 : decode cX7_odds 66 = .ok (.getfield 13, 3) := by decide +kernel
theorem dX7_odds_69 : decode cX7_odds 69 = .ok (.iload_n 1, 1) := by decide +kernel
theorem dX7_odds_70 : decode cX7_odds 70 = .ok (.iaload, 1) := by decide +kernel
theorem dX7_odds_71 : decode cX7_odds 71 = .ok (.isub, 1) := by decide +kernel
theorem dX7_odds_72 : decode cX7_odds 72 = .ok (.istore 8, 2) := by decide +kernel
theorem dX7_odds_74 : decode cX7_odds 74 = .ok (.lload 6, 2) := by decide +kernel
theorem dX7_odds_76 : decode cX7_odds 76 = .ok (.iload 8, 2) := by decide +kernel
theorem dX7_odds_78 : decode cX7_odds 78 = .ok (.iload_n 2, 1) := by decide +kernel
theorem dX7_odds_79 : decode cX7_odds 79 = .ok (.if_icmp .ge 7, 3) := by decide +kernel
theorem dX7_odds_82 : decode cX7_odds 82 = .ok (.lconst 0, 1) := by decide +kernel
theorem dX7_odds_83 : decode cX7_odds 83 = .ok (.goto 9, 3) := by decide +kernel
theorem dX7_odds_86 : decode cX7_odds 86 = .ok (.iload 8, 2) := by decide +kernel
theorem dX7_odds_88 : decode cX7_odds 88 = .ok (.iload_n 2, 1) := by decide +kernel
theorem dX7_odds_89 : decode cX7_odds 89 = .ok (.invokestatic 219, 3) := by decide +kernel
theorem dX7_odds_92 : decode cX7_odds 92 = .ok (.lsub, 1) := by decide +kernel
theorem dX7_odds_93 : decode cX7_odds 93 = .ok (.lstore 9, 2) := by decide +kernel
theorem dX7_odds_95 : decode cX7_odds 95 = .ok (.lload 9, 2) := by decide +kernel
theorem dX7_odds_97 : decode cX7_odds 97 = .ok (.lstore 11, 2) := by decide +kernel
theorem dX7_odds_99 : decode cX7_odds 99 = .ok (.lload 6, 2) := by decide +kernel
theorem dX7_odds_101 : decode cX7_odds 101 = .ok (.lstore 13, 2) := by decide +kernel
theorem dX7_odds_103 : decode cX7_odds 103 = .ok (.lload 13, 2) := by decide +kernel
theorem dX7_odds_105 : decode cX7_odds 105 = .ok (.lconst 0, 1) := by decide +kernel
theorem dX7_odds_106 : decode cX7_odds 106 = .ok (.lcmp, 1) := by decide +kernel
theorem dX7_odds_107 : decode cX7_odds 107 = .ok (.ifCond .eq 21, 3) := by decide +kernel
theorem dX7_odds_110 : decode cX7_odds 110 = .ok (.lload 11, 2) := by decide +kernel
theorem dX7_odds_112 : decode cX7_odds 112 = .ok (.lload 13, 2) := by decide +kernel
theorem dX7_odds_114 : decode cX7_odds 114 = .ok (.lrem, 1) := by decide +kernel
theorem dX7_odds_115 : decode cX7_odds 115 = .ok (.lstore 15, 2) := by decide +kernel
theorem dX7_odds_117 : decode cX7_odds 117 = .ok (.lload 13, 2) := by decide +kernel
theorem dX7_odds_119 : decode cX7_odds 119 = .ok (.lstore 11, 2) := by decide +kernel
theorem dX7_odds_121 : decode cX7_odds 121 = .ok (.lload 15, 2) := by decide +kernel
theorem dX7_odds_123 : decode cX7_odds 123 = .ok (.lstore 13, 2) := by decide +kernel
theorem dX7_odds_125 : decode cX7_odds 125 = .ok (.goto (-22), 3) := by decide +kernel
theorem dX7_odds_128 : decode cX7_odds 128 = .ok (.iload 4, 2) := by decide +kernel
theorem dX7_odds_130 : decode cX7_odds 130 = .ok (.ifCond .ne 11, 3) := by decide +kernel
theorem dX7_odds_133 : decode cX7_odds 133 = .ok (.lload 9, 2) := by decide +kernel
theorem dX7_odds_135 : decode cX7_odds 135 = .ok (.lload 11, 2) := by decide +kernel
theorem dX7_odds_137 : decode cX7_odds 137 = .ok (.ldiv, 1) := by decide +kernel
theorem dX7_odds_138 : decode cX7_odds 138 = .ok (.goto 8, 3) := by decide +kernel
theorem dX7_odds_141 : decode cX7_odds 141 = .ok (.lload 6, 2) := by decide +kernel
theorem dX7_odds_143 : decode cX7_odds 143 = .ok (.lload 11, 2) := by decide +kernel
theorem dX7_odds_145 : decode cX7_odds 145 = .ok (.ldiv, 1) := by decide +kernel
theorem dX7_odds_146 : decode cX7_odds 146 = .ok (.l2i, 1) := by decide +kernel
theorem dX7_odds_147 : decode cX7_odds 147 = .ok (.ireturn, 1) := by decide +kernel
theorem dX7_sees_0 : decode cX7_sees 0 = .ok (.iload_n 1, 1) := by decide +kernel
theorem dX7_sees_1 : decode cX7_sees 1 = .ok (.i2l, 1) := by decide +kernel
theorem dX7_sees_2 : decode cX7_sees 2 = .ok (.lconst 0, 1) := by decide +kernel
theorem dX7_sees_3 : decode cX7_sees 3 = .ok (.ldc2_w 223, 3) := by decide +kernel
theorem dX7_sees_6 : decode cX7_sees 6 = .ok (.invokestatic 62, 3) := by decide +kernel
theorem dX7_sees_9 : decode cX7_sees 9 = .ok (.ifCond .eq 22, 3) := by decide +kernel
theorem dX7_sees_12 : decode cX7_sees 12 = .ok (.iload_n 2, 1) := by decide +kernel
theorem dX7_sees_13 : decode cX7_sees 13 = .ok (.i2l, 1) := by decide +kernel
theorem dX7_sees_14 : decode cX7_sees 14 = .ok (.lconst 1, 1) := by decide +kernel
theorem dX7_sees_15 : decode cX7_sees 15 = .ok (.ldc2_w 225, 3) := by decide +kernel
theorem dX7_sees_18 : decode cX7_sees 18 = .ok (.invokestatic 62, 3) := by decide +kernel
theorem dX7_sees_21 : decode cX7_sees 21 = .ok (.ifCond .eq 10, 3) := by decide +kernel
theorem dX7_sees_24 : decode cX7_sees 24 = .ok (.iload_n 3, 1) := by decide +kernel
theorem dX7_sees_25 : decode cX7_sees 25 = .ok (.invokestatic 202, 3) := by decide +kernel
theorem dX7_sees_28 : decode cX7_sees 28 = .ok (.ifCond .ne 5, 3) := by decide +kernel
theorem dX7_sees_31 : decode cX7_sees 31 = .ok (.iconst (-1), 1) := by decide +kernel
theorem dX7_sees_32 : decode cX7_sees 32 = .ok (.ireturn, 1) := by decide +kernel
theorem dX7_sees_33 : decode cX7_sees 33 = .ok (.aload_n 0, 1) := by decide +kernel
theorem dX7_sees_34 : decode cX7_sees 34 = .ok (.getfield 136, 3) := by decide +kernel
theorem dX7_sees_37 : decode cX7_sees 37 = .ok (.bipush 6, 2) := by decide +kernel
theorem dX7_sees_39 : decode cX7_sees 39 = .ok (.if_icmp .ne 6, 3) := by decide +kernel
theorem dX7_sees_42 : decode cX7_sees 42 = .ok (.bipush (-3), 2) := by decide +kernel
theorem dX7_sees_44 : decode cX7_sees 44 = .ok (.ireturn, 1) := by decide +kernel
theorem dX7_sees_45 : decode cX7_sees 45 = .ok (.aload_n 0, 1) := by decide +kernel
theorem dX7_sees_46 : decode cX7_sees 46 = .ok (.getfield 35, 3) := by decide +kernel
theorem dX7_sees_49 : decode cX7_sees 49 = .ok (.iconst 3, 1) := by decide +kernel
theorem dX7_sees_50 : decode cX7_sees 50 = .ok (.aload_n 0, 1) := by decide +kernel
theorem dX7_sees_51 : decode cX7_sees 51 = .ok (.getfield 136, 3) := by decide +kernel
theorem dX7_sees_54 : decode cX7_sees 54 = .ok (.imul, 1) := by decide +kernel
theorem dX7_sees_55 : decode cX7_sees 55 = .ok (.iload_n 1, 1) := by decide +kernel
theorem dX7_sees_56 : decode cX7_sees 56 = .ok (.iastore, 1) := by decide +kernel
theorem dX7_sees_57 : decode cX7_sees 57 = .ok (.aload_n 0, 1) := by decide +kernel
theorem dX7_sees_58 : decode cX7_sees 58 = .ok (.getfield 35, 3) := by decide +kernel
theorem dX7_sees_61 : decode cX7_sees 61 = .ok (.iconst 3, 1) := by decide +kernel
theorem dX7_sees_62 : decode cX7_sees 62 = .ok (.aload_n 0, 1) := by decide +kernel
theorem dX7_sees_63 : decode cX7_sees 63 = .ok (.getfield 136, 3) := by decide +kernel
theorem dX7_sees_66 : decode cX7_sees 66 = .ok (.imul, 1) := by decide +kernel
theorem dX7_sees_67 : decode cX7_sees 67 = .ok (.iconst 1, 1) := by decide +kernel
theorem dX7_sees_68 : decode cX7_sees 68 = .ok (.iadd, 1) := by decide +kernel
theorem dX7_sees_69 : decode cX7_sees 69 = .ok (.iload_n 2, 1) := by decide +kernel
theorem dX7_sees_70 : decode cX7_sees 70 = .ok (.iastore, 1) := by decide +kernel
theorem dX7_sees_71 : decode cX7_sees 71 = .ok (.aload_n 0, 1) := by decide +kernel
theorem dX7_sees_72 : decode cX7_sees 72 = .ok (.getfield 35, 3) := by decide +kernel
theorem dX7_sees_75 : decode cX7_sees 75 = .ok (.iconst 3, 1) := by decide +kernel
theorem dX7_sees_76 : decode cX7_sees 76 = .ok (.aload_n 0, 1) := by decide +kernel
theorem dX7_sees_77 : decode cX7_sees 77 = .ok (.getfield 136, 3) := by decide +kernel
theorem dX7_sees_80 : decode cX7_sees 80 = .ok (.imul, 1) := by decide +kernel
theorem dX7_sees_81 : decode cX7_sees 81 = .ok (.iconst 2, 1) := by decide +kernel
theorem dX7_sees_82 : decode cX7_sees 82 = .ok (.iadd, 1) := by decide +kernel
theorem dX7_sees_83 : decode cX7_sees 83 = .ok (.iload_n 3, 1) := by decide +kernel
theorem dX7_sees_84 : decode cX7_sees 84 = .ok (.iastore, 1) := by decide +kernel
theorem dX7_sees_85 : decode cX7_sees 85 = .ok (.aload_n 0, 1) := by decide +kernel
theorem dX7_sees_86 : decode cX7_sees 86 = .ok (.dup, 1) := by decide +kernel
theorem dX7_sees_87 : decode cX7_sees 87 = .ok (.getfield 136, 3) := by decide +kernel
theorem dX7_sees_90 : decode cX7_sees 90 = .ok (.iconst 1, 1) := by decide +kernel
theorem dX7_sees_91 : decode cX7_sees 91 = .ok (.iadd, 1) := by decide +kernel
theorem dX7_sees_92 : decode cX7_sees 92 = .ok (.putfield 136, 3) := by decide +kernel
theorem dX7_sees_95 : decode cX7_sees 95 = .ok (.aload_n 0, 1) := by decide +kernel
theorem dX7_sees_96 : decode cX7_sees 96 = .ok (.getfield 136, 3) := by decide +kernel
theorem dX7_sees_99 : decode cX7_sees 99 = .ok (.ireturn, 1) := by decide +kernel
theorem dX7_forget_0 : decode cX7_forget 0 = .ok (.aload_n 0, 1) := by decide +kernel
theorem dX7_forget_1 : decode cX7_forget 1 = .ok (.getfield 136, 3) := by decide +kernel
theorem dX7_forget_4 : decode cX7_forget 4 = .ok (.istore_n 1, 1) := by decide +kernel
theorem dX7_forget_5 : decode cX7_forget 5 = .ok (.aload_n 0, 1) := by decide +kernel
theorem dX7_forget_6 : decode cX7_forget 6 = .ok (.iconst 0, 1) := by decide +kernel
theorem dX7_forget_7 : decode cX7_forget 7 = .ok (.putfield 136, 3) := by decide +kernel
theorem dX7_forget_10 : decode cX7_forget 10 = .ok (.iload_n 1, 1) := by decide +kernel
theorem dX7_forget_11 : decode cX7_forget 11 = .ok (.ireturn, 1) := by decide +kernel
theorem dX7_hasInFront_0 : decode cX7_hasInFront 0 = .ok (.iload_n 2, 1) := by decide +kernel
theorem dX7_hasInFront_1 : decode cX7_hasInFront 1 = .ok (.aload_n 0, 1) := by decide +kernel
theorem dX7_hasInFront_2 : decode cX7_hasInFront 2 = .ok (.iload_n 1, 1) := by decide +kernel
theorem dX7_hasInFront_3 : decode cX7_hasInFront 3 = .ok (.invokevirtual 160, 3) := by decide +kernel
theorem dX7_hasInFront_6 : decode cX7_hasInFront 6 = .ok (.if_icmp .ge 17, 3) := by decide +kernel
theorem dX7_hasInFront_9 : decode cX7_hasInFront 9 = .ok (.aload_n 0, 1) := by decide +kernel
theorem dX7_hasInFront_10 : decode cX7_hasInFront 10 = .ok (.iload_n 1, 1) := by decide +kernel
theorem dX7_hasInFront_11 : decode cX7_hasInFront 11 = .ok (.iload_n 2, 1) := by decide +kernel
theorem dX7_hasInFront_12 : decode cX7_hasInFront 12 = .ok (.invokevirtual 147, 3) := by decide +kernel
theorem dX7_hasInFront_15 : decode cX7_hasInFront 15 = .ok (.iload_n 3, 1) := by decide +kernel
theorem dX7_hasInFront_16 : decode cX7_hasInFront 16 = .ok (.if_icmp .ne 7, 3) := by decide +kernel
theorem dX7_hasInFront_19 : decode cX7_hasInFront 19 = .ok (.iconst 1, 1) := by decide +kernel
theorem dX7_hasInFront_20 : decode cX7_hasInFront 20 = .ok (.goto 4, 3) := by decide +kernel
theorem dX7_hasInFront_23 : decode cX7_hasInFront 23 = .ok (.iconst 0, 1) := by decide +kernel
theorem dX7_hasInFront_24 : decode cX7_hasInFront 24 = .ok (.ireturn, 1) := by decide +kernel
theorem dX7_whose_0 : decode cX7_whose 0 = .ok (.iconst 0, 1) := by decide +kernel
theorem dX7_whose_1 : decode cX7_whose 1 = .ok (.istore_n 1, 1) := by decide +kernel
theorem dX7_whose_2 : decode cX7_whose 2 = .ok (.iconst 0, 1) := by decide +kernel
theorem dX7_whose_3 : decode cX7_whose 3 = .ok (.istore_n 2, 1) := by decide +kernel
theorem dX7_whose_4 : decode cX7_whose 4 = .ok (.iload_n 2, 1) := by decide +kernel
theorem dX7_whose_5 : decode cX7_whose 5 = .ok (.aload_n 0, 1) := by decide +kernel
theorem dX7_whose_6 : decode cX7_whose 6 = .ok (.getfield 66, 3) := by decide +kernel
theorem dX7_whose_9 : decode cX7_whose 9 = .ok (.if_icmp .ge 101, 3) := by decide +kernel
theorem dX7_whose_12 : decode cX7_whose 12 = .ok (.iconst 1, 1) := by decide +kernel
theorem dX7_whose_13 : decode cX7_whose 13 = .ok (.istore_n 3, 1) := by decide +kernel
theorem dX7_whose_14 : decode cX7_whose 14 = .ok (.iconst 0, 1) := by decide +kernel
theorem dX7_whose_15 : decode cX7_whose 15 = .ok (.istore 4, 2) := by decide +kernel
theorem dX7_whose_17 : decode cX7_whose 17 = .ok (.iload 4, 2) := by decide +kernel
theorem dX7_whose_19 : decode cX7_whose 19 = .ok (.aload_n 0, 1) := by decide +kernel
theorem dX7_whose_20 : decode cX7_whose 20 = .ok (.getfield 136, 3) := by decide +kernel
theorem dX7_whose_23 : decode cX7_whose 23 = .ok (.if_icmp .ge 67, 3) := by decide +kernel
theorem dX7_whose_26 : decode cX7_whose 26 = .ok (.iload_n 3, 1) := by decide +kernel
theorem dX7_whose_27 : decode cX7_whose 27 = .ok (.ifCond .eq 55, 3) := by decide +kernel
theorem dX7_whose_30 : decode cX7_whose 30 = .ok (.aload_n 0, 1) := by decide +kernel
theorem dX7_whose_31 : decode cX7_whose 31 = .ok (.iload_n 2, 1) := by decide +kernel
theorem dX7_whose_32 : decode cX7_whose 32 = .ok (.aload_n 0, 1) := by decide +kernel
theorem dX7_whose_33 : decode cX7_whose 33 = .ok (.getfield 35, 3) := by decide +kernel
theorem dX7_whose_36 : decode cX7_whose 36 = .ok (.iconst 3, 1) := by decide +kernel
theorem dX7_whose_37 : decode cX7_whose 37 = .ok (.iload 4, 2) := by decide +kernel
theorem dX7_whose_39 : decode cX7_whose 39 = .ok (.imul, 1) := by decide +kernel
theorem dX7_whose_40 : decode cX7_whose 40 = .ok (.iaload, 1) := by decide +kernel
theorem dX7_whose_41 : decode cX7_whose 41 = .ok (.aload_n 0, 1) := by decide +kernel
theorem dX7_whose_42 : decode cX7_whose 42 = .ok (.getfield 35, 3) := by decide +kernel
theorem dX7_whose_45 : decode cX7_whose 45 = .ok (.iconst 3, 1) := by decide +kernel
theorem dX7_whose_46 : decode cX7_whose 46 = .ok (.iload 4, 2) := by decide +kernel
theorem dX7_whose_48 : decode cX7_whose 48 = .ok (.imul, 1) := by decide +kernel
theorem dX7_whose_49 : decode cX7_whose 49 = .ok (.iconst 1, 1) := by decide +kernel
theorem dX7_whose_50 : decode cX7_whose 50 = .ok (.iadd, 1) := by decide +kernel
theorem dX7_whose_51 : decode cX7_whose 51 = .ok (.iaload, 1) := by decide +kernel
theorem dX7_whose_52 : decode cX7_whose 52 = .ok (.invokevirtual 227, 3) := by decide +kernel
theorem dX7_whose_55 : decode cX7_whose 55 = .ok (.aload_n 0, 1) := by decide +kernel
theorem dX7_whose_56 : decode cX7_whose 56 = .ok (.getfield 35, 3) := by decide +kernel
theorem dX7_whose_59 : decode cX7_whose 59 = .ok (.iconst 3, 1) := by decide +kernel
theorem dX7_whose_60 : decode cX7_whose 60 = .ok (.iload 4, 2) := by decide +kernel
theorem dX7_whose_62 : decode cX7_whose 62 = .ok (.imul, 1) := by decide +kernel
theorem dX7_whose_63 : decode cX7_whose 63 = .ok (.iconst 2, 1) := by decide +kernel
theorem dX7_whose_64 : decode cX7_whose 64 = .ok (.iadd, 1) := by decide +kernel
theorem dX7_whose_65 : decode cX7_whose 65 = .ok (.iaload, 1) := by decide +kernel
theorem dX7_whose_66 : decode cX7_whose 66 = .ok (.iconst 1, 1) := by decide +kernel
theorem dX7_whose_67 : decode cX7_whose 67 = .ok (.if_icmp .ne 7, 3) := by decide +kernel
theorem dX7_whose_70 : decode cX7_whose 70 = .ok (.iconst 1, 1) := by decide +kernel
theorem dX7_whose_71 : decode cX7_whose 71 = .ok (.goto 4, 3) := by decide +kernel
theorem dX7_whose_74 : decode cX7_whose 74 = .ok (.iconst 0, 1) := by decide +kernel
theorem dX7_whose_75 : decode cX7_whose 75 = .ok (.if_icmp .ne 7, 3) := by decide +kernel
theorem dX7_whose_78 : decode cX7_whose 78 = .ok (.iconst 1, 1) := by decide +kernel
theorem dX7_whose_79 : decode cX7_whose 79 = .ok (.goto 4, 3) := by decide +kernel
theorem dX7_whose_82 : decode cX7_whose 82 = .ok (.iconst 0, 1) := by decide +kernel
theorem dX7_whose_83 : decode cX7_whose 83 = .ok (.istore_n 3, 1) := by decide +kernel
theorem dX7_whose_84 : decode cX7_whose 84 = .ok (.iinc 4 1, 3) := by decide +kernel
theorem dX7_whose_87 : decode cX7_whose 87 = .ok (.goto (-70), 3) := by decide +kernel
theorem dX7_whose_90 : decode cX7_whose 90 = .ok (.iload_n 1, 1) := by decide +kernel
theorem dX7_whose_91 : decode cX7_whose 91 = .ok (.iload_n 3, 1) := by decide +kernel
theorem dX7_whose_92 : decode cX7_whose 92 = .ok (.ifCond .eq 9, 3) := by decide +kernel
theorem dX7_whose_95 : decode cX7_whose 95 = .ok (.iconst 1, 1) := by decide +kernel
theorem dX7_whose_96 : decode cX7_whose 96 = .ok (.iload_n 2, 1) := by decide +kernel
theorem dX7_whose_97 : decode cX7_whose 97 = .ok (.ishl, 1) := by decide +kernel
theorem dX7_whose_98 : decode cX7_whose 98 = .ok (.goto 4, 3) := by decide +kernel
theorem dX7_whose_101 : decode cX7_whose 101 = .ok (.iconst 0, 1) := by decide +kernel
theorem dX7_whose_102 : decode cX7_whose 102 = .ok (.ior, 1) := by decide +kernel
theorem dX7_whose_103 : decode cX7_whose 103 = .ok (.istore_n 1, 1) := by decide +kernel
theorem dX7_whose_104 : decode cX7_whose 104 = .ok (.iinc 2 1, 3) := by decide +kernel
theorem dX7_whose_107 : decode cX7_whose 107 = .ok (.goto (-103), 3) := by decide +kernel
theorem dX7_whose_110 : decode cX7_whose 110 = .ok (.iload_n 1, 1) := by decide +kernel
theorem dX7_whose_111 : decode cX7_whose 111 = .ok (.ireturn, 1) := by decide +kernel
theorem dX7_look_0 : decode cX7_look 0 = .ok (.aload_n 0, 1) := by decide +kernel
theorem dX7_look_1 : decode cX7_look 1 = .ok (.invokevirtual 231, 3) := by decide +kernel
theorem dX7_look_4 : decode cX7_look 4 = .ok (.istore_n 1, 1) := by decide +kernel
theorem dX7_look_5 : decode cX7_look 5 = .ok (.iconst 0, 1) := by decide +kernel
theorem dX7_look_6 : decode cX7_look 6 = .ok (.istore_n 2, 1) := by decide +kernel
theorem dX7_look_7 : decode cX7_look 7 = .ok (.iconst 0, 1) := by decide +kernel
theorem dX7_look_8 : decode cX7_look 8 = .ok (.istore_n 3, 1) := by decide +kernel
theorem dX7_look_9 : decode cX7_look 9 = .ok (.iload_n 3, 1) := by decide +kernel
theorem dX7_look_10 : decode cX7_look 10 = .ok (.aload_n 0, 1) := by decide +kernel
theorem dX7_look_11 : decode cX7_look 11 = .ok (.getfield 66, 3) := by decide +kernel
theorem dX7_look_14 : decode cX7_look 14 = .ok (.if_icmp .ge 17, 3) := by decide +kernel
theorem dX7_look_17 : decode cX7_look 17 = .ok (.iload_n 2, 1) := by decide +kernel
theorem dX7_look_18 : decode cX7_look 18 = .ok (.iload_n 1, 1) := by decide +kernel
theorem dX7_look_19 : decode cX7_look 19 = .ok (.iload_n 3, 1) := by decide +kernel
theorem dX7_look_20 : decode cX7_look 20 = .ok (.ishr, 1) := by decide +kernel
theorem dX7_look_21 : decode cX7_look 21 = .ok (.iconst 1, 1) := by decide +kernel
theorem dX7_look_22 : decode cX7_look 22 = .ok (.iand, 1) := by decide +kernel
theorem dX7_look_23 : decode cX7_look 23 = .ok (.iadd, 1) := by decide +kernel
theorem dX7_look_24 : decode cX7_look 24 = .ok (.istore_n 2, 1) := by decide +kernel
theorem dX7_look_25 : decode cX7_look 25 = .ok (.iinc 3 1, 3) := by decide +kernel
theorem dX7_look_28 : decode cX7_look 28 = .ok (.goto (-19), 3) := by decide +kernel
theorem dX7_look_31 : decode cX7_look 31 = .ok (.bipush (-9), 2) := by decide +kernel
theorem dX7_look_33 : decode cX7_look 33 = .ok (.istore_n 3, 1) := by decide +kernel
theorem dX7_look_34 : decode cX7_look 34 = .ok (.iload_n 2, 1) := by decide +kernel
theorem dX7_look_35 : decode cX7_look 35 = .ok (.istore 4, 2) := by decide +kernel
theorem dX7_look_37 : decode cX7_look 37 = .ok (.iconst 0, 1) := by decide +kernel
theorem dX7_look_38 : decode cX7_look 38 = .ok (.istore 5, 2) := by decide +kernel
theorem dX7_look_40 : decode cX7_look 40 = .ok (.iload 5, 2) := by decide +kernel
theorem dX7_look_42 : decode cX7_look 42 = .ok (.bipush 81, 2) := by decide +kernel
theorem dX7_look_44 : decode cX7_look 44 = .ok (.if_icmp .ge 135, 3) := by decide +kernel
theorem dX7_look_47 : decode cX7_look 47 = .ok (.iconst 1, 1) := by decide +kernel
theorem dX7_look_48 : decode cX7_look 48 = .ok (.istore 6, 2) := by decide +kernel
theorem dX7_look_50 : decode cX7_look 50 = .ok (.iload 6, 2) := by decide +kernel
theorem dX7_look_52 : decode cX7_look 52 = .ok (.bipush 9, 2) := by decide +kernel
theorem dX7_look_54 : decode cX7_look 54 = .ok (.if_icmp .gt 119, 3) := by decide +kernel
theorem dX7_look_57 : decode cX7_look 57 = .ok (.iconst 0, 1) := by decide +kernel
theorem dX7_look_58 : decode cX7_look 58 = .ok (.istore 7, 2) := by decide +kernel
theorem dX7_look_60 : decode cX7_look 60 = .ok (.iconst 0, 1) := by decide +kernel
theorem dX7_look_61 : decode cX7_look 61 = .ok (.istore 8, 2) := by decide +kernel
theorem dX7_look_63 : decode cX7_look 63 = .ok (.iload 8, 2) := by decide +kernel
theorem dX7_look_65 : decode cX7_look 65 = .ok (.aload_n 0, 1) := by decide +kernel
theorem dX7_look_66 : decode cX7_look 66 = .ok (.getfield 66, 3) := by decide +kernel
theorem dX7_look_69 : decode cX7_look 69 = .ok (.if_icmp .ge 42, 3) := by decide +kernel
theorem dX7_look_72 : decode cX7_look 72 = .ok (.iload 7, 2) := by decide +kernel
theorem dX7_look_74 : decode cX7_look 74 = .ok (.iload_n 1, 1) := by decide +kernel
theorem dX7_look_75 : decode cX7_look 75 = .ok (.iload 8, 2) := by decide +kernel
theorem dX7_look_77 : decode cX7_look 77 = .ok (.ishr, 1) := by decide +kernel
theorem dX7_look_78 : decode cX7_look 78 = .ok (.iconst 1, 1) := by decide +kernel
theorem dX7_look_79 : decode cX7_look 79 = .ok (.iand, 1) := by decide +kernel
theorem dX7_look_80 : decode cX7_look 80 = .ok (.iconst 1, 1) := by decide +kernel
theorem dX7_look_81 : decode cX7_look 81 = .ok (.if_icmp .ne 20, 3) := by decide +kernel
theorem dX7_look_84 : decode cX7_look 84 = .ok (.aload_n 0, 1) := by decide +kernel
theorem dX7_look_85 : decode cX7_look 85 = .ok (.iload 8, 2) := by decide +kernel
theorem dX7_look_87 : decode cX7_look 87 = .ok (.iload 5, 2) := by decide +kernel
theorem dX7_look_89 : decode cX7_look 89 = .ok (.iload 6, 2) := by decide +kernel
theorem dX7_look_91 : decode cX7_look 91 = .ok (.invokevirtual 227, 3) := by decide +kernel
theorem dX7_look_94 : decode cX7_look 94 = .ok (.ifCond .eq 7, 3) := by decide +kernel
theorem dX7_look_97 : decode cX7_look 97 = .ok (.iconst 1, 1) := by decide +kernel
theorem dX7_look_98 : decode cX7_look 98 = .ok (.goto 4, 3) := by decide +kernel
theorem dX7_look_101 : decode cX7_look 101 = .ok (.iconst 0, 1) := by decide +kernel
theorem dX7_look_102 : decode cX7_look 102 = .ok (.iadd, 1) := by decide +kernel
theorem dX7_look_103 : decode cX7_look 103 = .ok (.istore 7, 2) := by decide +kernel
theorem dX7_look_105 : decode cX7_look 105 = .ok (.iinc 8 1, 3) := by decide +kernel
theorem dX7_look_108 : decode cX7_look 108 = .ok (.goto (-45), 3) := by decide +kernel
theorem dX7_look_111 : decode cX7_look 111 = .ok (.iload 7, 2) := by decide +kernel
theorem dX7_look_113 : decode cX7_look 113 = .ok (.iload_n 2, 1) := by decide +kernel
theorem dX7_look_114 : decode cX7_look 114 = .ok (.iload 7, 2) := by decide +kernel
theorem dX7_look_116 : decode cX7_look 116 = .ok (.isub, 1) := by decide +kernel
theorem dX7_look_117 : decode cX7_look 117 = .ok (.if_icmp .le 8, 3) := by decide +kernel
theorem dX7_look_120 : decode cX7_look 120 = .ok (.iload 7, 2) := by decide +kernel
theorem dX7_look_122 : decode cX7_look 122 = .ok (.goto 7, 3) := by decide +kernel
theorem dX7_look_125 : decode cX7_look 125 = .ok (.iload_n 2, 1) := by decide +kernel
theorem dX7_look_126 : decode cX7_look 126 = .ok (.iload 7, 2) := by decide +kernel
theorem dX7_look_128 : decode cX7_look 128 = .ok (.isub, 1) := by decide +kernel
theorem dX7_look_129 : decode cX7_look 129 = .ok (.istore 8, 2) := by decide +kernel
theorem dX7_look_131 : decode cX7_look 131 = .ok (.iload 8, 2) := by decide +kernel
theorem dX7_look_133 : decode cX7_look 133 = .ok (.iload 4, 2) := by decide +kernel
theorem dX7_look_135 : decode cX7_look 135 = .ok (.if_icmp .ge 14, 3) := by decide +kernel
theorem dX7_look_138 : decode cX7_look 138 = .ok (.bipush 10, 2) := by decide +kernel
theorem dX7_look_140 : decode cX7_look 140 = .ok (.iload 5, 2) := by decide +kernel
theorem dX7_look_142 : decode cX7_look 142 = .ok (.imul, 1) := by decide +kernel
theorem dX7_look_143 : decode cX7_look 143 = .ok (.iload 6, 2) := by decide +kernel
theorem dX7_look_145 : decode cX7_look 145 = .ok (.iadd, 1) := by decide +kernel
theorem dX7_look_146 : decode cX7_look 146 = .ok (.goto 4, 3) := by decide +kernel
theorem dX7_look_149 : decode cX7_look 149 = .ok (.iload_n 3, 1) := by decide +kernel
theorem dX7_look_150 : decode cX7_look 150 = .ok (.istore_n 3, 1) := by decide +kernel
theorem dX7_look_151 : decode cX7_look 151 = .ok (.iload 8, 2) := by decide +kernel
theorem dX7_look_153 : decode cX7_look 153 = .ok (.iload 4, 2) := by decide +kernel
theorem dX7_look_155 : decode cX7_look 155 = .ok (.if_icmp .ge 8, 3) := by decide +kernel
theorem dX7_look_158 : decode cX7_look 158 = .ok (.iload 8, 2) := by decide +kernel
theorem dX7_look_160 : decode cX7_look 160 = .ok (.goto 5, 3) := by decide +kernel
theorem dX7_look_163 : decode cX7_look 163 = .ok (.iload 4, 2) := by decide +kernel
theorem dX7_look_165 : decode cX7_look 165 = .ok (.istore 4, 2) := by decide +kernel
theorem dX7_look_167 : decode cX7_look 167 = .ok (.iinc 6 1, 3) := by decide +kernel
theorem dX7_look_170 : decode cX7_look 170 = .ok (.goto (-120), 3) := by decide +kernel
theorem dX7_look_173 : decode cX7_look 173 = .ok (.iinc 5 1, 3) := by decide +kernel
theorem dX7_look_176 : decode cX7_look 176 = .ok (.goto (-136), 3) := by decide +kernel
theorem dX7_look_179 : decode cX7_look 179 = .ok (.iload_n 3, 1) := by decide +kernel
theorem dX7_look_180 : decode cX7_look 180 = .ok (.ireturn, 1) := by decide +kernel
theorem dX7_asJob_0 : decode cX7_asJob 0 = .ok (.aload_n 0, 1) := by decide +kernel
theorem dX7_asJob_1 : decode cX7_asJob 1 = .ok (.dup, 1) := by decide +kernel
theorem dX7_asJob_2 : decode cX7_asJob 2 = .ok (.getfield 234, 3) := by decide +kernel
theorem dX7_asJob_5 : decode cX7_asJob 5 = .ok (.lconst 1, 1) := by decide +kernel
theorem dX7_asJob_6 : decode cX7_asJob 6 = .ok (.ladd, 1) := by decide +kernel
theorem dX7_asJob_7 : decode cX7_asJob 7 = .ok (.putfield 234, 3) := by decide +kernel
theorem dX7_asJob_10 : decode cX7_asJob 10 = .ok (.aload_n 0, 1) := by decide +kernel
theorem dX7_asJob_11 : decode cX7_asJob 11 = .ok (.getfield 7, 3) := by decide +kernel
theorem dX7_asJob_14 : decode cX7_asJob 14 = .ok (.iload_n 1, 1) := by decide +kernel
theorem dX7_asJob_15 : decode cX7_asJob 15 = .ok (.iaload, 1) := by decide +kernel
theorem dX7_asJob_16 : decode cX7_asJob 16 = .ok (.ireturn, 1) := by decide +kernel
theorem dX7_asMemo_0 : decode cX7_asMemo 0 = .ok (.aload_n 0, 1) := by decide +kernel
theorem dX7_asMemo_1 : decode cX7_asMemo 1 = .ok (.dup, 1) := by decide +kernel
theorem dX7_asMemo_2 : decode cX7_asMemo 2 = .ok (.getfield 234, 3) := by decide +kernel
theorem dX7_asMemo_5 : decode cX7_asMemo 5 = .ok (.ldc2_w 238, 3) := by decide +kernel
theorem dX7_asMemo_8 : decode cX7_asMemo 8 = .ok (.ladd, 1) := by decide +kernel
theorem dX7_asMemo_9 : decode cX7_asMemo 9 = .ok (.putfield 234, 3) := by decide +kernel
theorem dX7_asMemo_12 : decode cX7_asMemo 12 = .ok (.aload_n 0, 1) := by decide +kernel
theorem dX7_asMemo_13 : decode cX7_asMemo 13 = .ok (.iload_n 1, 1) := by decide +kernel
theorem dX7_asMemo_14 : decode cX7_asMemo 14 = .ok (.invokevirtual 240, 3) := by decide +kernel
theorem dX7_asMemo_17 : decode cX7_asMemo 17 = .ok (.aload_n 0, 1) := by decide +kernel
theorem dX7_asMemo_18 : decode cX7_asMemo 18 = .ok (.getfield 13, 3) := by decide +kernel
theorem dX7_asMemo_21 : decode cX7_asMemo 21 = .ok (.iload_n 1, 1) := by decide +kernel
theorem dX7_asMemo_22 : decode cX7_asMemo 22 = .ok (.iaload, 1) := by decide +kernel
theorem dX7_asMemo_23 : decode cX7_asMemo 23 = .ok (.iadd, 1) := by decide +kernel
theorem dX7_asMemo_24 : decode cX7_asMemo 24 = .ok (.ireturn, 1) := by decide +kernel
theorem dX7_asReport_0 : decode cX7_asReport 0 = .ok (.aload_n 0, 1) := by decide +kernel
theorem dX7_asReport_1 : decode cX7_asReport 1 = .ok (.dup, 1) := by decide +kernel
theorem dX7_asReport_2 : decode cX7_asReport 2 = .ok (.getfield 234, 3) := by decide +kernel
theorem dX7_asReport_5 : decode cX7_asReport 5 = .ok (.ldc2_w 243, 3) := by decide +kernel
theorem dX7_asReport_8 : decode cX7_asReport 8 = .ok (.ladd, 1) := by decide +kernel
theorem dX7_asReport_9 : decode cX7_asReport 9 = .ok (.putfield 234, 3) := by decide +kernel
theorem dX7_asReport_12 : decode cX7_asReport 12 = .ok (.aload_n 0, 1) := by decide +kernel
theorem dX7_asReport_13 : decode cX7_asReport 13 = .ok (.iload_n 1, 1) := by decide +kernel
theorem dX7_asReport_14 : decode cX7_asReport 14 = .ok (.invokevirtual 240, 3) := by decide +kernel
theorem dX7_asReport_17 : decode cX7_asReport 17 = .ok (.aload_n 0, 1) := by decide +kernel
theorem dX7_asReport_18 : decode cX7_asReport 18 = .ok (.getfield 29, 3) := by decide +kernel
theorem dX7_asReport_21 : decode cX7_asReport 21 = .ok (.bipush 19, 2) := by decide +kernel
theorem dX7_asReport_23 : decode cX7_asReport 23 = .ok (.iload_n 1, 1) := by decide +kernel
theorem dX7_asReport_24 : decode cX7_asReport 24 = .ok (.iadd, 1) := by decide +kernel
theorem dX7_asReport_25 : decode cX7_asReport 25 = .ok (.iaload, 1) := by decide +kernel
theorem dX7_asReport_26 : decode cX7_asReport 26 = .ok (.isub, 1) := by decide +kernel
theorem dX7_asReport_27 : decode cX7_asReport 27 = .ok (.ireturn, 1) := by decide +kernel
theorem dX7_asNotice_0 : decode cX7_asNotice 0 = .ok (.aload_n 0, 1) := by decide +kernel
theorem dX7_asNotice_1 : decode cX7_asNotice 1 = .ok (.dup, 1) := by decide +kernel
theorem dX7_asNotice_2 : decode cX7_asNotice 2 = .ok (.getfield 234, 3) := by decide +kernel
theorem dX7_asNotice_5 : decode cX7_asNotice 5 = .ok (.ldc2_w 245, 3) := by decide +kernel
theorem dX7_asNotice_8 : decode cX7_asNotice 8 = .ok (.ladd, 1) := by decide +kernel
theorem dX7_asNotice_9 : decode cX7_asNotice 9 = .ok (.putfield 234, 3) := by decide +kernel
theorem dX7_asNotice_12 : decode cX7_asNotice 12 = .ok (.iconst 2, 1) := by decide +kernel
theorem dX7_asNotice_13 : decode cX7_asNotice 13 = .ok (.aload_n 0, 1) := by decide +kernel
theorem dX7_asNotice_14 : decode cX7_asNotice 14 = .ok (.iload_n 1, 1) := by decide +kernel
theorem dX7_asNotice_15 : decode cX7_asNotice 15 = .ok (.invokevirtual 247, 3) := by decide +kernel
theorem dX7_asNotice_18 : decode cX7_asNotice 18 = .ok (.imul, 1) := by decide +kernel
theorem dX7_asNotice_19 : decode cX7_asNotice 19 = .ok (.ireturn, 1) := by decide +kernel
theorem dX7_asLedger_0 : decode cX7_asLedger 0 = .ok (.aload_n 0, 1) := by decide +kernel
theorem dX7_asLedger_1 : decode cX7_asLedger 1 = .ok (.dup, 1) := by decide +kernel
theorem dX7_asLedger_2 : decode cX7_asLedger 2 = .ok (.getfield 234, 3) := by decide +kernel
theorem dX7_asLedger_5 : decode cX7_asLedger 5 = .ok (.ldc2_w 250, 3) := by decide +kernel
theorem dX7_asLedger_8 : decode cX7_asLedger 8 = .ok (.ladd, 1) := by decide +kernel
theorem dX7_asLedger_9 : decode cX7_asLedger 9 = .ok (.putfield 234, 3) := by decide +kernel
theorem dX7_asLedger_12 : decode cX7_asLedger 12 = .ok (.aload_n 0, 1) := by decide +kernel
theorem dX7_asLedger_13 : decode cX7_asLedger 13 = .ok (.iload_n 1, 1) := by decide +kernel
theorem dX7_asLedger_14 : decode cX7_asLedger 14 = .ok (.invokevirtual 252, 3) := by decide +kernel
theorem dX7_asLedger_17 : decode cX7_asLedger 17 = .ok (.iload_n 1, 1) := by decide +kernel
theorem dX7_asLedger_18 : decode cX7_asLedger 18 = .ok (.iadd, 1) := by decide +kernel
theorem dX7_asLedger_19 : decode cX7_asLedger 19 = .ok (.ireturn, 1) := by decide +kernel
theorem dX7_asFlyer_0 : decode cX7_asFlyer 0 = .ok (.aload_n 0, 1) := by decide +kernel
theorem dX7_asFlyer_1 : decode cX7_asFlyer 1 = .ok (.dup, 1) := by decide +kernel
theorem dX7_asFlyer_2 : decode cX7_asFlyer 2 = .ok (.getfield 234, 3) := by decide +kernel
theorem dX7_asFlyer_5 : decode cX7_asFlyer 5 = .ok (.ldc2_w 255, 3) := by decide +kernel
theorem dX7_asFlyer_8 : decode cX7_asFlyer 8 = .ok (.ladd, 1) := by decide +kernel
theorem dX7_asFlyer_9 : decode cX7_asFlyer 9 = .ok (.putfield 234, 3) := by decide +kernel
theorem dX7_asFlyer_12 : decode cX7_asFlyer 12 = .ok (.aload_n 0, 1) := by decide +kernel
theorem dX7_asFlyer_13 : decode cX7_asFlyer 13 = .ok (.iload_n 1, 1) := by decide +kernel
theorem dX7_asFlyer_14 : decode cX7_asFlyer 14 = .ok (.invokevirtual 240, 3) := by decide +kernel
theorem dX7_asFlyer_17 : decode cX7_asFlyer 17 = .ok (.aload_n 0, 1) := by decide +kernel
theorem dX7_asFlyer_18 : decode cX7_asFlyer 18 = .ok (.getfield 29, 3) := by decide +kernel
theorem dX7_asFlyer_21 : decode cX7_asFlyer 21 = .ok (.iconst 0, 1) := by decide +kernel
theorem dX7_asFlyer_22 : decode cX7_asFlyer 22 = .ok (.iaload, 1) := by decide +kernel
theorem dX7_asFlyer_23 : decode cX7_asFlyer 23 = .ok (.iadd, 1) := by decide +kernel
theorem dX7_asFlyer_24 : decode cX7_asFlyer 24 = .ok (.ireturn, 1) := by decide +kernel
theorem dX7_mark_0 : decode cX7_mark 0 = .ok (.iload_n 1, 1) := by decide +kernel
theorem dX7_mark_1 : decode cX7_mark 1 = .ok (.i2l, 1) := by decide +kernel
theorem dX7_mark_2 : decode cX7_mark 2 = .ok (.lconst 0, 1) := by decide +kernel
theorem dX7_mark_3 : decode cX7_mark 3 = .ok (.ldc2_w 257, 3) := by decide +kernel
theorem dX7_mark_6 : decode cX7_mark 6 = .ok (.invokestatic 62, 3) := by decide +kernel
theorem dX7_mark_9 : decode cX7_mark 9 = .ok (.ifCond .eq 11, 3) := by decide +kernel
theorem dX7_mark_12 : decode cX7_mark 12 = .ok (.aload_n 0, 1) := by decide +kernel
theorem dX7_mark_13 : decode cX7_mark 13 = .ok (.iload_n 2, 1) := by decide +kernel
theorem dX7_mark_14 : decode cX7_mark 14 = .ok (.invokevirtual 156, 3) := by decide +kernel
theorem dX7_mark_17 : decode cX7_mark 17 = .ok (.ifCond .ne 7, 3) := by decide +kernel
theorem dX7_mark_20 : decode cX7_mark 20 = .ok (.ldc_w 259, 3) := by decide +kernel
theorem dX7_mark_23 : decode cX7_mark 23 = .ok (.ireturn, 1) := by decide +kernel
theorem dX7_mark_24 : decode cX7_mark 24 = .ok (.iload_n 1, 1) := by decide +kernel
theorem dX7_mark_25 : decode cX7_mark 25 = .ok (.tableswitch 65 0 4 #[35, 41, 47, 53, 59], 35) := by decide +kernel
theorem dX7_mark_60 : decode cX7_mark 60 = .ok (.aload_n 0, 1) := by decide +kernel
theorem dX7_mark_61 : decode cX7_mark 61 = .ok (.iload_n 2, 1) := by decide +kernel
theorem dX7_mark_62 : decode cX7_mark 62 = .ok (.invokevirtual 240, 3) := by decide +kernel
theorem dX7_mark_65 : decode cX7_mark 65 = .ok (.ireturn, 1) := by decide +kernel
theorem dX7_mark_66 : decode cX7_mark 66 = .ok (.aload_n 0, 1) := by decide +kernel
theorem dX7_mark_67 : decode cX7_mark 67 = .ok (.iload_n 2, 1) := by decide +kernel
theorem dX7_mark_68 : decode cX7_mark 68 = .ok (.invokevirtual 247, 3) := by decide +kernel
theorem dX7_mark_71 : decode cX7_mark 71 = .ok (.ireturn, 1) := by decide +kernel
theorem dX7_mark_72 : decode cX7_mark 72 = .ok (.aload_n 0, 1) := by decide +kernel
theorem dX7_mark_73 : decode cX7_mark 73 = .ok (.iload_n 2, 1) := by decide +kernel
theorem dX7_mark_74 : decode cX7_mark 74 = .ok (.invokevirtual 252, 3) := by decide +kernel
theorem dX7_mark_77 : decode cX7_mark 77 = .ok (.ireturn, 1) := by decide +kernel
theorem dX7_mark_78 : decode cX7_mark 78 = .ok (.aload_n 0, 1) := by decide +kernel
theorem dX7_mark_79 : decode cX7_mark 79 = .ok (.iload_n 2, 1) := by decide +kernel
theorem dX7_mark_80 : decode cX7_mark 80 = .ok (.invokevirtual 260, 3) := by decide +kernel
theorem dX7_mark_83 : decode cX7_mark 83 = .ok (.ireturn, 1) := by decide +kernel
theorem dX7_mark_84 : decode cX7_mark 84 = .ok (.aload_n 0, 1) := by decide +kernel
theorem dX7_mark_85 : decode cX7_mark 85 = .ok (.iload_n 2, 1) := by decide +kernel
theorem dX7_mark_86 : decode cX7_mark 86 = .ok (.invokevirtual 263, 3) := by decide +kernel
theorem dX7_mark_89 : decode cX7_mark 89 = .ok (.ireturn, 1) := by decide +kernel
theorem dX7_mark_90 : decode cX7_mark 90 = .ok (.aload_n 0, 1) := by decide +kernel
theorem dX7_mark_91 : decode cX7_mark 91 = .ok (.iload_n 2, 1) := by decide +kernel
theorem dX7_mark_92 : decode cX7_mark 92 = .ok (.invokevirtual 266, 3) := by decide +kernel
theorem dX7_mark_95 : decode cX7_mark 95 = .ok (.ireturn, 1) := by decide +kernel
theorem dX7_keep_0 : decode cX7_keep 0 = .ok (.iload_n 1, 1) := by decide +kernel
theorem dX7_keep_1 : decode cX7_keep 1 = .ok (.invokestatic 202, 3) := by decide +kernel
theorem dX7_keep_4 : decode cX7_keep 4 = .ok (.ifCond .ne 5, 3) := by decide +kernel
theorem dX7_keep_7 : decode cX7_keep 7 = .ok (.iconst (-1), 1) := by decide +kernel
theorem dX7_keep_8 : decode cX7_keep 8 = .ok (.ireturn, 1) := by decide +kernel
theorem dX7_keep_9 : decode cX7_keep 9 = .ok (.sipush 342, 3) := by decide +kernel
theorem dX7_keep_12 : decode cX7_keep 12 = .ok (.iload_n 1, 1) := by decide +kernel
theorem dX7_keep_13 : decode cX7_keep 13 = .ok (.imul, 1) := by decide +kernel
theorem dX7_keep_14 : decode cX7_keep 14 = .ok (.istore_n 2, 1) := by decide +kernel
theorem dX7_keep_15 : decode cX7_keep 15 = .ok (.iconst 0, 1) := by decide +kernel
theorem dX7_keep_16 : decode cX7_keep 16 = .ok (.istore_n 3, 1) := by decide +kernel
theorem dX7_keep_17 : decode cX7_keep 17 = .ok (.iload_n 3, 1) := by decide +kernel
theorem dX7_keep_18 : decode cX7_keep 18 = .ok (.bipush 31, 2) := by decide +kernel
theorem dX7_keep_20 : decode cX7_keep 20 = .ok (.if_icmp .ge 23, 3) := by decide +kernel
theorem dX7_keep_23 : decode cX7_keep 23 = .ok (.aload_n 0, 1) := by decide +kernel
theorem dX7_keep_24 : decode cX7_keep 24 = .ok (.getfield 50, 3) := by decide +kernel
theorem dX7_keep_27 : decode cX7_keep 27 = .ok (.iload_n 2, 1) := by decide +kernel
theorem dX7_keep_28 : decode cX7_keep 28 = .ok (.iload_n 3, 1) := by decide +kernel
theorem dX7_keep_29 : decode cX7_keep 29 = .ok (.iadd, 1) := by decide +kernel
theorem dX7_keep_30 : decode cX7_keep 30 = .ok (.aload_n 0, 1) := by decide +kernel
theorem dX7_keep_31 : decode cX7_keep 31 = .ok (.getfield 29, 3) := by decide +kernel
theorem dX7_keep_34 : decode cX7_keep 34 = .ok (.iload_n 3, 1) := by decide +kernel
theorem dX7_keep_35 : decode cX7_keep 35 = .ok (.iaload, 1) := by decide +kernel
theorem dX7_keep_36 : decode cX7_keep 36 = .ok (.iastore, 1) := by decide +kernel
theorem dX7_keep_37 : decode cX7_keep 37 = .ok (.iinc 3 1, 3) := by decide +kernel
theorem dX7_keep_40 : decode cX7_keep 40 = .ok (.goto (-23), 3) := by decide +kernel
theorem dX7_keep_43 : decode cX7_keep 43 = .ok (.iconst 0, 1) := by decide +kernel
theorem dX7_keep_44 : decode cX7_keep 44 = .ok (.istore_n 3, 1) := by decide +kernel
theorem dX7_keep_45 : decode cX7_keep 45 = .ok (.iload_n 3, 1) := by decide +kernel
theorem dX7_keep_46 : decode cX7_keep 46 = .ok (.sipush 310, 3) := by decide +kernel
theorem dX7_keep_49 : decode cX7_keep 49 = .ok (.if_icmp .ge 26, 3) := by decide +kernel
theorem dX7_keep_52 : decode cX7_keep 52 = .ok (.aload_n 0, 1) := by decide +kernel
theorem dX7_keep_53 : decode cX7_keep 53 = .ok (.getfield 50, 3) := by decide +kernel
theorem dX7_keep_56 : decode cX7_keep 56 = .ok (.iload_n 2, 1) := by decide +kernel
theorem dX7_keep_57 : decode cX7_keep 57 = .ok (.bipush 31, 2) := by decide +kernel
theorem dX7_keep_59 : decode cX7_keep 59 = .ok (.iadd, 1) := by decide +kernel
theorem dX7_keep_60 : decode cX7_keep 60 = .ok (.iload_n 3, 1) := by decide +kernel
theorem dX7_keep_61 : decode cX7_keep 61 = .ok (.iadd, 1) := by decide +kernel
theorem dX7_keep_62 : decode cX7_keep 62 = .ok (.aload_n 0, 1) := by decide +kernel
theorem dX7_keep_63 : decode cX7_keep 63 = .ok (.getfield 32, 3) := by decide +kernel
theorem dX7_keep_66 : decode cX7_keep 66 = .ok (.iload_n 3, 1) := by decide +kernel
theorem dX7_keep_67 : decode cX7_keep 67 = .ok (.iaload, 1) := by decide +kernel
theorem dX7_keep_68 : decode cX7_keep 68 = .ok (.iastore, 1) := by decide +kernel
theorem dX7_keep_69 : decode cX7_keep 69 = .ok (.iinc 3 1, 3) := by decide +kernel
theorem dX7_keep_72 : decode cX7_keep 72 = .ok (.goto (-27), 3) := by decide +kernel
theorem dX7_keep_75 : decode cX7_keep 75 = .ok (.aload_n 0, 1) := by decide +kernel
theorem dX7_keep_76 : decode cX7_keep 76 = .ok (.getfield 50, 3) := by decide +kernel
theorem dX7_keep_79 : decode cX7_keep 79 = .ok (.iload_n 2, 1) := by decide +kernel
theorem dX7_keep_80 : decode cX7_keep 80 = .ok (.sipush 342, 3) := by decide +kernel
theorem dX7_keep_83 : decode cX7_keep 83 = .ok (.iadd, 1) := by decide +kernel
theorem dX7_keep_84 : decode cX7_keep 84 = .ok (.iconst 1, 1) := by decide +kernel
theorem dX7_keep_85 : decode cX7_keep 85 = .ok (.isub, 1) := by decide +kernel
theorem dX7_keep_86 : decode cX7_keep 86 = .ok (.aload_n 0, 1) := by decide +kernel
theorem dX7_keep_87 : decode cX7_keep 87 = .ok (.getfield 133, 3) := by decide +kernel
theorem dX7_keep_90 : decode cX7_keep 90 = .ok (.iastore, 1) := by decide +kernel
theorem dX7_keep_91 : decode cX7_keep 91 = .ok (.aload_n 0, 1) := by decide +kernel
theorem dX7_keep_92 : decode cX7_keep 92 = .ok (.getfield 53, 3) := by decide +kernel
theorem dX7_keep_95 : decode cX7_keep 95 = .ok (.iload_n 1, 1) := by decide +kernel
theorem dX7_keep_96 : decode cX7_keep 96 = .ok (.iconst 1, 1) := by decide +kernel
theorem dX7_keep_97 : decode cX7_keep 97 = .ok (.iastore, 1) := by decide +kernel
theorem dX7_keep_98 : decode cX7_keep 98 = .ok (.aload_n 0, 1) := by decide +kernel
theorem dX7_keep_99 : decode cX7_keep 99 = .ok (.getfield 29, 3) := by decide +kernel
theorem dX7_keep_102 : decode cX7_keep 102 = .ok (.iconst 0, 1) := by decide +kernel
theorem dX7_keep_103 : decode cX7_keep 103 = .ok (.iaload, 1) := by decide +kernel
theorem dX7_keep_104 : decode cX7_keep 104 = .ok (.ireturn, 1) := by decide +kernel
theorem dX7_back_0 : decode cX7_back 0 = .ok (.iload_n 1, 1) := by decide +kernel
theorem dX7_back_1 : decode cX7_back 1 = .ok (.invokestatic 202, 3) := by decide +kernel
theorem dX7_back_4 : decode cX7_back 4 = .ok (.ifCond .ne 5, 3) := by decide +kernel
theorem dX7_back_7 : decode cX7_back 7 = .ok (.iconst (-1), 1) := by decide +kernel
theorem dX7_back_8 : decode cX7_back 8 = .ok (.ireturn, 1) := by decide +kernel
theorem dX7_back_9 : decode cX7_back 9 = .ok (.aload_n 0, 1) := by decide +kernel
theorem dX7_back_10 : decode cX7_back 10 = .ok (.getfield 53, 3) := by decide +kernel
theorem dX7_back_13 : decode cX7_back 13 = .ok (.iload_n 1, 1) := by decide +kernel
theorem dX7_back_14 : decode cX7_back 14 = .ok (.iaload, 1) := by decide +kernel
theorem dX7_back_15 : decode cX7_back 15 = .ok (.ifCond .ne 6, 3) := by decide +kernel
theorem dX7_back_18 : decode cX7_back 18 = .ok (.bipush (-2), 2) := by decide +kernel
theorem dX7_back_20 : decode cX7_back 20 = .ok (.ireturn, 1) := by decide +kernel
theorem dX7_back_21 : decode cX7_back 21 = .ok (.sipush 342, 3) := by decide +kernel
theorem dX7_back_24 : decode cX7_back 24 = .ok (.iload_n 1, 1) := by decide +kernel
theorem dX7_back_25 : decode cX7_back 25 = .ok (.imul, 1) := by decide +kernel
theorem dX7_back_26 : decode cX7_back 26 = .ok (.istore_n 2, 1) := by decide +kernel
theorem dX7_back_27 : decode cX7_back 27 = .ok (.iconst 0, 1) := by decide +kernel
theorem dX7_back_28 : decode cX7_back 28 = .ok (.istore_n 3, 1) := by decide +kernel
theorem dX7_back_29 : decode cX7_back 29 = .ok (.iload_n 3, 1) := by decide +kernel
theorem dX7_back_30 : decode cX7_back 30 = .ok (.bipush 31, 2) := by decide +kernel
theorem dX7_back_32 : decode cX7_back 32 = .ok (.if_icmp .ge 23, 3) := by decide +kernel
theorem dX7_back_35 : decode cX7_back 35 = .ok (.aload_n 0, 1) := by decide +kernel
theorem dX7_back_36 : decode cX7_back 36 = .ok (.getfield 29, 3) := by decide +kernel
theorem dX7_back_39 : decode cX7_back 39 = .ok (.iload_n 3, 1) := by decide +kernel
theorem dX7_back_40 : decode cX7_back 40 = .ok (.aload_n 0, 1) := by decide +kernel
theorem dX7_back_41 : decode cX7_back 41 = .ok (.getfield 50, 3) := by decide +kernel
theorem dX7_back_44 : decode cX7_back 44 = .ok (.iload_n 2, 1) := by decide +kernel
theorem dX7_back_45 : decode cX7_back 45 = .ok (.iload_n 3, 1) := by decide +kernel
theorem dX7_back_46 : decode cX7_back 46 = .ok (.iadd, 1) := by decide +kernel
theorem dX7_back_47 : decode cX7_back 47 = .ok (.iaload, 1) := by decide +kernel
theorem dX7_back_48 : decode cX7_back 48 = .ok (.iastore, 1) := by decide +kernel
theorem dX7_back_49 : decode cX7_back 49 = .ok (.iinc 3 1, 3) := by decide +kernel
theorem dX7_back_52 : decode cX7_back 52 = .ok (.goto (-23), 3) := by decide +kernel
theorem dX7_back_55 : decode cX7_back 55 = .ok (.iconst 0, 1) := by decide +kernel
theorem dX7_back_56 : decode cX7_back 56 = .ok (.istore_n 3, 1) := by decide +kernel
theorem dX7_back_57 : decode cX7_back 57 = .ok (.iload_n 3, 1) := by decide +kernel
theorem dX7_back_58 : decode cX7_back 58 = .ok (.sipush 310, 3) := by decide +kernel
theorem dX7_back_61 : decode cX7_back 61 = .ok (.if_icmp .ge 26, 3) := by decide +kernel
theorem dX7_back_64 : decode cX7_back 64 = .ok (.aload_n 0, 1) := by decide +kernel
theorem dX7_back_65 : decode cX7_back 65 = .ok (.getfield 32, 3) := by decide +kernel
theorem dX7_back_68 : decode cX7_back 68 = .ok (.iload_n 3, 1) := by decide +kernel
theorem dX7_back_69 : decode cX7_back 69 = .ok (.aload_n 0, 1) := by decide +kernel
theorem dX7_back_70 : decode cX7_back 70 = .ok (.getfield 50, 3) := by decide +kernel
theorem dX7_back_73 : decode cX7_back 73 = .ok (.iload_n 2, 1) := by decide +kernel
theorem dX7_back_74 : decode cX7_back 74 = .ok (.bipush 31, 2) := by decide +kernel
theorem dX7_back_76 : decode cX7_back 76 = .ok (.iadd, 1) := by decide +kernel
theorem dX7_back_77 : decode cX7_back 77 = .ok (.iload_n 3, 1) := by decide +kernel
theorem dX7_back_78 : decode cX7_back 78 = .ok (.iadd, 1) := by decide +kernel
theorem dX7_back_79 : decode cX7_back 79 = .ok (.iaload, 1) := by decide +kernel
theorem dX7_back_80 : decode cX7_back 80 = .ok (.iastore, 1) := by decide +kernel
theorem dX7_back_81 : decode cX7_back 81 = .ok (.iinc 3 1, 3) := by decide +kernel
theorem dX7_back_84 : decode cX7_back 84 = .ok (.goto (-27), 3) := by decide +kernel
theorem dX7_back_87 : decode cX7_back 87 = .ok (.aload_n 0, 1) := by decide +kernel
theorem dX7_back_88 : decode cX7_back 88 = .ok (.aload_n 0, 1) := by decide +kernel
theorem dX7_back_89 : decode cX7_back 89 = .ok (.getfield 50, 3) := by decide +kernel
theorem dX7_back_92 : decode cX7_back 92 = .ok (.iload_n 2, 1) := by decide +kernel
theorem dX7_back_93 : decode cX7_back 93 = .ok (.sipush 342, 3) := by decide +kernel
theorem dX7_back_96 : decode cX7_back 96 = .ok (.iadd, 1) := by decide +kernel
theorem dX7_back_97 : decode cX7_back 97 = .ok (.iconst 1, 1) := by decide +kernel
theorem dX7_back_98 : decode cX7_back 98 = .ok (.isub, 1) := by decide +kernel
theorem dX7_back_99 : decode cX7_back 99 = .ok (.iaload, 1) := by decide +kernel
theorem dX7_back_100 : decode cX7_back 100 = .ok (.putfield 133, 3) := by decide +kernel
theorem dX7_back_103 : decode cX7_back 103 = .ok (.aload_n 0, 1) := by decide +kernel
theorem dX7_back_104 : decode cX7_back 104 = .ok (.getfield 29, 3) := by decide +kernel
theorem dX7_back_107 : decode cX7_back 107 = .ok (.iconst 0, 1) := by decide +kernel
theorem dX7_back_108 : decode cX7_back 108 = .ok (.iaload, 1) := by decide +kernel
theorem dX7_back_109 : decode cX7_back 109 = .ok (.ireturn, 1) := by decide +kernel
theorem dX7_count_0 : decode cX7_count 0 = .ok (.iload_n 1, 1) := by decide +kernel
theorem dX7_count_1 : decode cX7_count 1 = .ok (.tableswitch 60 0 4 #[35, 40, 45, 50, 55], 35) := by decide +kernel
theorem dX7_count_36 : decode cX7_count 36 = .ok (.aload_n 0, 1) := by decide +kernel
theorem dX7_count_37 : decode cX7_count 37 = .ok (.getfield 25, 3) := by decide +kernel
theorem dX7_count_40 : decode cX7_count 40 = .ok (.ireturn, 1) := by decide +kernel
theorem dX7_count_41 : decode cX7_count 41 = .ok (.aload_n 0, 1) := by decide +kernel
theorem dX7_count_42 : decode cX7_count 42 = .ok (.getfield 66, 3) := by decide +kernel
theorem dX7_count_45 : decode cX7_count 45 = .ok (.ireturn, 1) := by decide +kernel
theorem dX7_count_46 : decode cX7_count 46 = .ok (.aload_n 0, 1) := by decide +kernel
theorem dX7_count_47 : decode cX7_count 47 = .ok (.getfield 136, 3) := by decide +kernel
theorem dX7_count_50 : decode cX7_count 50 = .ok (.ireturn, 1) := by decide +kernel
theorem dX7_count_51 : decode cX7_count 51 = .ok (.aload_n 0, 1) := by decide +kernel
theorem dX7_count_52 : decode cX7_count 52 = .ok (.getfield 133, 3) := by decide +kernel
theorem dX7_count_55 : decode cX7_count 55 = .ok (.ireturn, 1) := by decide +kernel
theorem dX7_count_56 : decode cX7_count 56 = .ok (.aload_n 0, 1) := by decide +kernel
theorem dX7_count_57 : decode cX7_count 57 = .ok (.getfield 71, 3) := by decide +kernel
theorem dX7_count_60 : decode cX7_count 60 = .ok (.ireturn, 1) := by decide +kernel
theorem dX7_count_61 : decode cX7_count 61 = .ok (.iconst (-1), 1) := by decide +kernel
theorem dX7_count_62 : decode cX7_count 62 = .ok (.ireturn, 1) := by decide +kernel
theorem dX7_trace_0 : decode cX7_trace 0 = .ok (.aload_n 0, 1) := by decide +kernel
theorem dX7_trace_1 : decode cX7_trace 1 = .ok (.getfield 234, 3) := by decide +kernel
theorem dX7_trace_4 : decode cX7_trace 4 = .ok (.lreturn, 1) := by decide +kernel
theorem dJ6_bitCount_0f7a4_0 : decode cJ6_bitCount_0f7a4 0 = .ok (.iload_n 0, 1) := by decide +kernel
theorem dJ6_bitCount_0f7a4_1 : decode cJ6_bitCount_0f7a4 1 = .ok (.iload_n 0, 1) := by decide +kernel
theorem dJ6_bitCount_0f7a4_2 : decode cJ6_bitCount_0f7a4 2 = .ok (.iconst 1, 1) := by decide +kernel
theorem dJ6_bitCount_0f7a4_3 : decode cJ6_bitCount_0f7a4 3 = .ok (.iushr, 1) := by decide +kernel
theorem dJ6_bitCount_0f7a4_4 : decode cJ6_bitCount_0f7a4 4 = .ok (.ldc_w 265, 3) := by decide +kernel
theorem dJ6_bitCount_0f7a4_7 : decode cJ6_bitCount_0f7a4 7 = .ok (.iand, 1) := by decide +kernel
theorem dJ6_bitCount_0f7a4_8 : decode cJ6_bitCount_0f7a4 8 = .ok (.isub, 1) := by decide +kernel
theorem dJ6_bitCount_0f7a4_9 : decode cJ6_bitCount_0f7a4 9 = .ok (.istore_n 0, 1) := by decide +kernel
theorem dJ6_bitCount_0f7a4_10 : decode cJ6_bitCount_0f7a4 10 = .ok (.iload_n 0, 1) := by decide +kernel
theorem dJ6_bitCount_0f7a4_11 : decode cJ6_bitCount_0f7a4 11 = .ok (.ldc_w 266, 3) := by decide +kernel
theorem dJ6_bitCount_0f7a4_14 : decode cJ6_bitCount_0f7a4 14 = .ok (.iand, 1) := by decide +kernel
theorem dJ6_bitCount_0f7a4_15 : decode cJ6_bitCount_0f7a4 15 = .ok (.iload_n 0, 1) := by decide +kernel
theorem dJ6_bitCount_0f7a4_16 : decode cJ6_bitCount_0f7a4 16 = .ok (.iconst 2, 1) := by decide +kernel
theorem dJ6_bitCount_0f7a4_17 : decode cJ6_bitCount_0f7a4 17 = .ok (.iushr, 1) := by decide +kernel
theorem dJ6_bitCount_0f7a4_18 : decode cJ6_bitCount_0f7a4 18 = .ok (.ldc_w 266, 3) := by decide +kernel
theorem dJ6_bitCount_0f7a4_21 : decode cJ6_bitCount_0f7a4 21 = .ok (.iand, 1) := by decide +kernel
theorem dJ6_bitCount_0f7a4_22 : decode cJ6_bitCount_0f7a4 22 = .ok (.iadd, 1) := by decide +kernel
theorem dJ6_bitCount_0f7a4_23 : decode cJ6_bitCount_0f7a4 23 = .ok (.istore_n 0, 1) := by decide +kernel
theorem dJ6_bitCount_0f7a4_24 : decode cJ6_bitCount_0f7a4 24 = .ok (.iload_n 0, 1) := by decide +kernel
theorem dJ6_bitCount_0f7a4_25 : decode cJ6_bitCount_0f7a4 25 = .ok (.iload_n 0, 1) := by decide +kernel
theorem dJ6_bitCount_0f7a4_26 : decode cJ6_bitCount_0f7a4 26 = .ok (.iconst 4, 1) := by decide +kernel
theorem dJ6_bitCount_0f7a4_27 : decode cJ6_bitCount_0f7a4 27 = .ok (.iushr, 1) := by decide +kernel
theorem dJ6_bitCount_0f7a4_28 : decode cJ6_bitCount_0f7a4 28 = .ok (.iadd, 1) := by decide +kernel
theorem dJ6_bitCount_0f7a4_29 : decode cJ6_bitCount_0f7a4 29 = .ok (.ldc_w 267, 3) := by decide +kernel
theorem dJ6_bitCount_0f7a4_32 : decode cJ6_bitCount_0f7a4 32 = .ok (.iand, 1) := by decide +kernel
theorem dJ6_bitCount_0f7a4_33 : decode cJ6_bitCount_0f7a4 33 = .ok (.istore_n 0, 1) := by decide +kernel
theorem dJ6_bitCount_0f7a4_34 : decode cJ6_bitCount_0f7a4 34 = .ok (.iload_n 0, 1) := by decide +kernel
theorem dJ6_bitCount_0f7a4_35 : decode cJ6_bitCount_0f7a4 35 = .ok (.iload_n 0, 1) := by decide +kernel
theorem dJ6_bitCount_0f7a4_36 : decode cJ6_bitCount_0f7a4 36 = .ok (.bipush 8, 2) := by decide +kernel
theorem dJ6_bitCount_0f7a4_38 : decode cJ6_bitCount_0f7a4 38 = .ok (.iushr, 1) := by decide +kernel
theorem dJ6_bitCount_0f7a4_39 : decode cJ6_bitCount_0f7a4 39 = .ok (.iadd, 1) := by decide +kernel
theorem dJ6_bitCount_0f7a4_40 : decode cJ6_bitCount_0f7a4 40 = .ok (.istore_n 0, 1) := by decide +kernel
theorem dJ6_bitCount_0f7a4_41 : decode cJ6_bitCount_0f7a4 41 = .ok (.iload_n 0, 1) := by decide +kernel
theorem dJ6_bitCount_0f7a4_42 : decode cJ6_bitCount_0f7a4 42 = .ok (.iload_n 0, 1) := by decide +kernel
theorem dJ6_bitCount_0f7a4_43 : decode cJ6_bitCount_0f7a4 43 = .ok (.bipush 16, 2) := by decide +kernel
theorem dJ6_bitCount_0f7a4_45 : decode cJ6_bitCount_0f7a4 45 = .ok (.iushr, 1) := by decide +kernel
theorem dJ6_bitCount_0f7a4_46 : decode cJ6_bitCount_0f7a4 46 = .ok (.iadd, 1) := by decide +kernel
theorem dJ6_bitCount_0f7a4_47 : decode cJ6_bitCount_0f7a4 47 = .ok (.istore_n 0, 1) := by decide +kernel
theorem dJ6_bitCount_0f7a4_48 : decode cJ6_bitCount_0f7a4 48 = .ok (.iload_n 0, 1) := by decide +kernel
theorem dJ6_bitCount_0f7a4_49 : decode cJ6_bitCount_0f7a4 49 = .ok (.bipush 63, 2) := by decide +kernel
theorem dJ6_bitCount_0f7a4_51 : decode cJ6_bitCount_0f7a4 51 = .ok (.iand, 1) := by decide +kernel
theorem dJ6_bitCount_0f7a4_52 : decode cJ6_bitCount_0f7a4 52 = .ok (.ireturn, 1) := by decide +kernel
theorem dJ9_floorMod_7cf53_0 : decode cJ9_floorMod_7cf53 0 = .ok (.iload_n 0, 1) := by decide +kernel
theorem dJ9_floorMod_7cf53_1 : decode cJ9_floorMod_7cf53 1 = .ok (.iload_n 1, 1) := by decide +kernel
theorem dJ9_floorMod_7cf53_2 : decode cJ9_floorMod_7cf53 2 = .ok (.irem, 1) := by decide +kernel
theorem dJ9_floorMod_7cf53_3 : decode cJ9_floorMod_7cf53 3 = .ok (.istore_n 2, 1) := by decide +kernel
theorem dJ9_floorMod_7cf53_4 : decode cJ9_floorMod_7cf53 4 = .ok (.iload_n 0, 1) := by decide +kernel
theorem dJ9_floorMod_7cf53_5 : decode cJ9_floorMod_7cf53 5 = .ok (.iload_n 1, 1) := by decide +kernel
theorem dJ9_floorMod_7cf53_6 : decode cJ9_floorMod_7cf53 6 = .ok (.ixor, 1) := by decide +kernel
theorem dJ9_floorMod_7cf53_7 : decode cJ9_floorMod_7cf53 7 = .ok (.ifCond .ge 11, 3) := by decide +kernel
theorem dJ9_floorMod_7cf53_10 : decode cJ9_floorMod_7cf53 10 = .ok (.iload_n 2, 1) := by decide +kernel
theorem dJ9_floorMod_7cf53_11 : decode cJ9_floorMod_7cf53 11 = .ok (.ifCond .eq 7, 3) := by decide +kernel
theorem dJ9_floorMod_7cf53_14 : decode cJ9_floorMod_7cf53 14 = .ok (.iload_n 2, 1) := by decide +kernel
theorem dJ9_floorMod_7cf53_15 : decode cJ9_floorMod_7cf53 15 = .ok (.iload_n 1, 1) := by decide +kernel
theorem dJ9_floorMod_7cf53_16 : decode cJ9_floorMod_7cf53 16 = .ok (.iadd, 1) := by decide +kernel
theorem dJ9_floorMod_7cf53_17 : decode cJ9_floorMod_7cf53 17 = .ok (.ireturn, 1) := by decide +kernel
theorem dJ9_floorMod_7cf53_18 : decode cJ9_floorMod_7cf53 18 = .ok (.iload_n 2, 1) := by decide +kernel
theorem dJ9_floorMod_7cf53_19 : decode cJ9_floorMod_7cf53 19 = .ok (.ireturn, 1) := by decide +kernel
theorem dJ9_abs_0f7a4_0 : decode cJ9_abs_0f7a4 0 = .ok (.iload_n 0, 1) := by decide +kernel
theorem dJ9_abs_0f7a4_1 : decode cJ9_abs_0f7a4 1 = .ok (.ifCond .ge 8, 3) := by decide +kernel
theorem dJ9_abs_0f7a4_4 : decode cJ9_abs_0f7a4 4 = .ok (.iload_n 0, 1) := by decide +kernel
theorem dJ9_abs_0f7a4_5 : decode cJ9_abs_0f7a4 5 = .ok (.ineg, 1) := by decide +kernel
theorem dJ9_abs_0f7a4_6 : decode cJ9_abs_0f7a4 6 = .ok (.goto 4, 3) := by decide +kernel
theorem dJ9_abs_0f7a4_9 : decode cJ9_abs_0f7a4 9 = .ok (.iload_n 0, 1) := by decide +kernel
theorem dJ9_abs_0f7a4_10 : decode cJ9_abs_0f7a4 10 = .ok (.ireturn, 1) := by decide +kernel
theorem dJ9_max_7cf53_0 : decode cJ9_max_7cf53 0 = .ok (.iload_n 0, 1) := by decide +kernel
theorem dJ9_max_7cf53_1 : decode cJ9_max_7cf53 1 = .ok (.iload_n 1, 1) := by decide +kernel
theorem dJ9_max_7cf53_2 : decode cJ9_max_7cf53 2 = .ok (.if_icmp .lt 7, 3) := by decide +kernel
theorem dJ9_max_7cf53_5 : decode cJ9_max_7cf53 5 = .ok (.iload_n 0, 1) := by decide +kernel
theorem dJ9_max_7cf53_6 : decode cJ9_max_7cf53 6 = .ok (.goto 4, 3) := by decide +kernel
theorem dJ9_max_7cf53_9 : decode cJ9_max_7cf53 9 = .ok (.iload_n 1, 1) := by decide +kernel
theorem dJ9_max_7cf53_10 : decode cJ9_max_7cf53 10 = .ok (.ireturn, 1) := by decide +kernel
theorem dJ9_min_7cf53_0 : decode cJ9_min_7cf53 0 = .ok (.iload_n 0, 1) := by decide +kernel
theorem dJ9_min_7cf53_1 : decode cJ9_min_7cf53 1 = .ok (.iload_n 1, 1) := by decide +kernel
theorem dJ9_min_7cf53_2 : decode cJ9_min_7cf53 2 = .ok (.if_icmp .gt 7, 3) := by decide +kernel
theorem dJ9_min_7cf53_5 : decode cJ9_min_7cf53 5 = .ok (.iload_n 0, 1) := by decide +kernel
theorem dJ9_min_7cf53_6 : decode cJ9_min_7cf53 6 = .ok (.goto 4, 3) := by decide +kernel
theorem dJ9_min_7cf53_9 : decode cJ9_min_7cf53 9 = .ok (.iload_n 1, 1) := by decide +kernel
theorem dJ9_min_7cf53_10 : decode cJ9_min_7cf53 10 = .ok (.ireturn, 1) := by decide +kernel
theorem dJ7_fill_53178_0 : decode cJ7_fill_53178 0 = .ok (.iconst 0, 1) := by decide +kernel
theorem dJ7_fill_53178_1 : decode cJ7_fill_53178 1 = .ok (.istore_n 2, 1) := by decide +kernel
theorem dJ7_fill_53178_2 : decode cJ7_fill_53178 2 = .ok (.aload_n 0, 1) := by decide +kernel
theorem dJ7_fill_53178_3 : decode cJ7_fill_53178 3 = .ok (.arraylength, 1) := by decide +kernel
theorem dJ7_fill_53178_4 : decode cJ7_fill_53178 4 = .ok (.istore_n 3, 1) := by decide +kernel
theorem dJ7_fill_53178_5 : decode cJ7_fill_53178 5 = .ok (.iload_n 2, 1) := by decide +kernel
theorem dJ7_fill_53178_6 : decode cJ7_fill_53178 6 = .ok (.iload_n 3, 1) := by decide +kernel
theorem dJ7_fill_53178_7 : decode cJ7_fill_53178 7 = .ok (.if_icmp .ge 13, 3) := by decide +kernel
theorem dJ7_fill_53178_10 : decode cJ7_fill_53178 10 = .ok (.aload_n 0, 1) := by decide +kernel
theorem dJ7_fill_53178_11 : decode cJ7_fill_53178 11 = .ok (.iload_n 2, 1) := by decide +kernel
theorem dJ7_fill_53178_12 : decode cJ7_fill_53178 12 = .ok (.iload_n 1, 1) := by decide +kernel
theorem dJ7_fill_53178_13 : decode cJ7_fill_53178 13 = .ok (.iastore, 1) := by decide +kernel
theorem dJ7_fill_53178_14 : decode cJ7_fill_53178 14 = .ok (.iinc 2 1, 3) := by decide +kernel
theorem dJ7_fill_53178_17 : decode cJ7_fill_53178 17 = .ok (.goto (-12), 3) := by decide +kernel
theorem dJ7_fill_53178_20 : decode cJ7_fill_53178 20 = .ok (.return_, 1) := by decide +kernel
theorem dL_law_0 : decode cL_law 0 = .ok (.new 7, 3) := by decide +kernel
theorem dL_law_3 : decode cL_law 3 = .ok (.dup, 1) := by decide +kernel
theorem dL_law_4 : decode cL_law 4 = .ok (.invokespecial 9, 3) := by decide +kernel
theorem dL_law_7 : decode cL_law 7 = .ok (.astore_n 1, 1) := by decide +kernel
theorem dL_law_8 : decode cL_law 8 = .ok (.new 10, 3) := by decide +kernel
theorem dL_law_11 : decode cL_law 11 = .ok (.dup, 1) := by decide +kernel
theorem dL_law_12 : decode cL_law 12 = .ok (.invokespecial 12, 3) := by decide +kernel
theorem dL_law_15 : decode cL_law 15 = .ok (.astore_n 2, 1) := by decide +kernel
theorem dL_law_16 : decode cL_law 16 = .ok (.iconst 0, 1) := by decide +kernel
theorem dL_law_17 : decode cL_law 17 = .ok (.istore_n 3, 1) := by decide +kernel
theorem dL_law_18 : decode cL_law 18 = .ok (.iload_n 3, 1) := by decide +kernel
theorem dL_law_19 : decode cL_law 19 = .ok (.aload_n 0, 1) := by decide +kernel
theorem dL_law_20 : decode cL_law 20 = .ok (.arraylength, 1) := by decide +kernel
theorem dL_law_21 : decode cL_law 21 = .ok (.iconst 5, 1) := by decide +kernel
theorem dL_law_22 : decode cL_law 22 = .ok (.isub, 1) := by decide +kernel
theorem dL_law_23 : decode cL_law 23 = .ok (.if_icmp .gt 821, 3) := by decide +kernel
theorem dL_law_26 : decode cL_law 26 = .ok (.aload_n 0, 1) := by decide +kernel
theorem dL_law_27 : decode cL_law 27 = .ok (.iload_n 3, 1) := by decide +kernel
theorem dL_law_28 : decode cL_law 28 = .ok (.iaload, 1) := by decide +kernel
theorem dL_law_29 : decode cL_law 29 = .ok (.bipush 31, 2) := by decide +kernel
theorem dL_law_31 : decode cL_law 31 = .ok (.iand, 1) := by decide +kernel
theorem dL_law_32 : decode cL_law 32 = .ok (.tableswitch 806 0 26 #[124, 147, 160, 173, 206, 249, 292, 325, 348, 371, 394, 417, 450, 473, 496, 509, 532, 555, 608, 651, 664, 677, 690, 723, 746, 769, 792], 124) := by decide +kernel
theorem dL_law_156 : decode cL_law 156 = .ok (.aload_n 1, 1) := by decide +kernel
theorem dL_law_157 : decode cL_law 157 = .ok (.aload_n 0, 1) := by decide +kernel
theorem dL_law_158 : decode cL_law 158 = .ok (.iload_n 3, 1) := by decide +kernel
theorem dL_law_159 : decode cL_law 159 = .ok (.iconst 1, 1) := by decide +kernel
theorem dL_law_160 : decode cL_law 160 = .ok (.iadd, 1) := by decide +kernel
theorem dL_law_161 : decode cL_law 161 = .ok (.iaload, 1) := by decide +kernel
theorem dL_law_162 : decode cL_law 162 = .ok (.invokevirtual 13, 3) := by decide +kernel
theorem dL_law_165 : decode cL_law 165 = .ok (.aload_n 2, 1) := by decide +kernel
theorem dL_law_166 : decode cL_law 166 = .ok (.aload_n 0, 1) := by decide +kernel
theorem dL_law_167 : decode cL_law 167 = .ok (.iload_n 3, 1) := by decide +kernel
theorem dL_law_168 : decode cL_law 168 = .ok (.iconst 1, 1) := by decide +kernel
theorem dL_law_169 : decode cL_law 169 = .ok (.iadd, 1) := by decide +kernel
theorem dL_law_170 : decode cL_law 170 = .ok (.iaload, 1) := by decide +kernel
theorem dL_law_171 : decode cL_law 171 = .ok (.invokevirtual 17, 3) := by decide +kernel
theorem dL_law_174 : decode cL_law 174 = .ok (.if_icmp .eq 664, 3) := by decide +kernel
theorem dL_law_177 : decode cL_law 177 = .ok (.iconst 0, 1) := by decide +kernel
theorem dL_law_178 : decode cL_law 178 = .ok (.ireturn, 1) := by decide +kernel
theorem dL_law_179 : decode cL_law 179 = .ok (.aload_n 1, 1) := by decide +kernel
theorem dL_law_180 : decode cL_law 180 = .ok (.invokevirtual 18, 3) := by decide +kernel
theorem dL_law_183 : decode cL_law 183 = .ok (.aload_n 2, 1) := by decide +kernel
theorem dL_law_184 : decode cL_law 184 = .ok (.invokevirtual 22, 3) := by decide +kernel
theorem dL_law_187 : decode cL_law 187 = .ok (.if_icmp .eq 651, 3) := by decide +kernel
theorem dL_law_190 : decode cL_law 190 = .ok (.iconst 0, 1) := by decide +kernel
theorem dL_law_191 : decode cL_law 191 = .ok (.ireturn, 1) := by decide +kernel
theorem dL_law_192 : decode cL_law 192 = .ok (.aload_n 1, 1) := by decide +kernel
theorem dL_law_193 : decode cL_law 193 = .ok (.invokevirtual 23, 3) := by decide +kernel
theorem dL_law_196 : decode cL_law 196 = .ok (.aload_n 2, 1) := by decide +kernel
theorem dL_law_197 : decode cL_law 197 = .ok (.invokevirtual 26, 3) := by decide +kernel
theorem dL_law_200 : decode cL_law 200 = .ok (.if_icmp .eq 638, 3) := by decide +kernel
theorem dL_law_203 : decode cL_law 203 = .ok (.iconst 0, 1) := by decide +kernel
theorem dL_law_204 : decode cL_law 204 = .ok (.ireturn, 1) := by decide +kernel
theorem dL_law_205 : decode cL_law 205 = .ok (.aload_n 1, 1) := by decide +kernel
theorem dL_law_206 : decode cL_law 206 = .ok (.aload_n 0, 1) := by decide +kernel
theorem dL_law_207 : decode cL_law 207 = .ok (.iload_n 3, 1) := by decide +kernel
theorem dL_law_208 : decode cL_law 208 = .ok (.iconst 1, 1) := by decide +kernel
theorem dL_law_209 : decode cL_law 209 = .ok (.iadd, 1) := by decide +kernel
theorem dL_law_210 : decode cL_law 210 = .ok (.iaload, 1) := by decide +kernel
theorem dL_law_211 : decode cL_law 211 = .ok (.aload_n 0, 1) := by decide +kernel
theorem dL_law_212 : decode cL_law 212 = .ok (.iload_n 3, 1) := by decide +kernel
theorem dL_law_213 : decode cL_law 213 = .ok (.iconst 2, 1) := by decide +kernel
theorem dL_law_214 : decode cL_law 214 = .ok (.iadd, 1) := by decide +kernel
theorem dL_law_215 : decode cL_law 215 = .ok (.iaload, 1) := by decide +kernel
theorem dL_law_216 : decode cL_law 216 = .ok (.invokevirtual 27, 3) := by decide +kernel
theorem dL_law_219 : decode cL_law 219 = .ok (.aload_n 2, 1) := by decide +kernel
theorem dL_law_220 : decode cL_law 220 = .ok (.aload_n 0, 1) := by decide +kernel
theorem dL_law_221 : decode cL_law 221 = .ok (.iload_n 3, 1) := by decide +kernel
theorem dL_law_222 : decode cL_law 222 = .ok (.iconst 1, 1) := by decide +kernel
theorem dL_law_223 : decode cL_law 223 = .ok (.iadd, 1) := by decide +kernel
theorem dL_law_224 : decode cL_law 224 = .ok (.iaload, 1) := by decide +kernel
theorem dL_law_225 : decode cL_law 225 = .ok (.aload_n 0, 1) := by decide +kernel
theorem dL_law_226 : decode cL_law 226 = .ok (.iload_n 3, 1) := by decide +kernel
theorem dL_law_227 : decode cL_law 227 = .ok (.iconst 2, 1) := by decide +kernel
theorem dL_law_228 : decode cL_law 228 = .ok (.iadd, 1) := by decide +kernel
theorem dL_law_229 : decode cL_law 229 = .ok (.iaload, 1) := by decide +kernel
theorem dL_law_230 : decode cL_law 230 = .ok (.invokevirtual 31, 3) := by decide +kernel
theorem dL_law_233 : decode cL_law 233 = .ok (.if_icmp .eq 605, 3) := by decide +kernel
theorem dL_law_236 : decode cL_law 236 = .ok (.iconst 0, 1) := by decide +kernel
theorem dL_law_237 : decode cL_law 237 = .ok (.ireturn, 1) := by decide +kernel
theorem dL_law_238 : decode cL_law 238 = .ok (.aload_n 1, 1) := by decide +kernel
theorem dL_law_239 : decode cL_law 239 = .ok (.aload_n 0, 1) := by decide +kernel
theorem dL_law_240 : decode cL_law 240 = .ok (.iload_n 3, 1) := by decide +kernel
theorem dL_law_241 : decode cL_law 241 = .ok (.iconst 1, 1) := by decide +kernel
theorem dL_law_242 : decode cL_law 242 = .ok (.iadd, 1) := by decide +kernel
theorem dL_law_243 : decode cL_law 243 = .ok (.iaload, 1) := by decide +kernel
theorem dL_law_244 : decode cL_law 244 = .ok (.aload_n 0, 1) := by decide +kernel
theorem dL_law_245 : decode cL_law 245 = .ok (.iload_n 3, 1) := by decide +kernel
theorem dL_law_246 : decode cL_law 246 = .ok (.iconst 2, 1) := by decide +kernel
theorem dL_law_247 : decode cL_law 247 = .ok (.iadd, 1) := by decide +kernel
theorem dL_law_248 : decode cL_law 248 = .ok (.iaload, 1) := by decide +kernel
theorem dL_law_249 : decode cL_law 249 = .ok (.aload_n 0, 1) := by decide +kernel
theorem dL_law_250 : decode cL_law 250 = .ok (.iload_n 3, 1) := by decide +kernel
theorem dL_law_251 : decode cL_law 251 = .ok (.iconst 3, 1) := by decide +kernel
theorem dL_law_252 : decode cL_law 252 = .ok (.iadd, 1) := by decide +kernel
theorem dL_law_253 : decode cL_law 253 = .ok (.iaload, 1) := by decide +kernel
theorem dL_law_254 : decode cL_law 254 = .ok (.invokevirtual 32, 3) := by decide +kernel
theorem dL_law_257 : decode cL_law 257 = .ok (.aload_n 2, 1) := by decide +kernel
theorem dL_law_258 : decode cL_law 258 = .ok (.aload_n 0, 1) := by decide +kernel
theorem dL_law_259 : decode cL_law 259 = .ok (.iload_n 3, 1) := by decide +kernel
theorem dL_law_260 : decode cL_law 260 = .ok (.iconst 1, 1) := by decide +kernel
theorem dL_law_261 : decode cL_law 261 = .ok (.iadd, 1) := by decide +kernel
theorem dL_law_262 : decode cL_law 262 = .ok (.iaload, 1) := by decide +kernel
theorem dL_law_263 : decode cL_law 263 = .ok (.aload_n 0, 1) := by decide +kernel
theorem dL_law_264 : decode cL_law 264 = .ok (.iload_n 3, 1) := by decide +kernel
theorem dL_law_265 : decode cL_law 265 = .ok (.iconst 2, 1) := by decide +kernel
theorem dL_law_266 : decode cL_law 266 = .ok (.iadd, 1) := by decide +kernel
theorem dL_law_267 : decode cL_law 267 = .ok (.iaload, 1) := by decide +kernel
theorem dL_law_268 : decode cL_law 268 = .ok (.aload_n 0, 1) := by decide +kernel
theorem dL_law_269 : decode cL_law 269 = .ok (.iload_n 3, 1) := by decide +kernel
theorem dL_law_270 : decode cL_law 270 = .ok (.iconst 3, 1) := by decide +kernel
theorem dL_law_271 : decode cL_law 271 = .ok (.iadd, 1) := by decide +kernel
theorem dL_law_272 : decode cL_law 272 = .ok (.iaload, 1) := by decide +kernel
theorem dL_law_273 : decode cL_law 273 = .ok (.invokevirtual 36, 3) := by decide +kernel
theorem dL_law_276 : decode cL_law 276 = .ok (.if_icmp .eq 562, 3) := by decide +kernel
theorem dL_law_279 : decode cL_law 279 = .ok (.iconst 0, 1) := by decide +kernel
theorem dL_law_280 : decode cL_law 280 = .ok (.ireturn, 1) := by decide +kernel
theorem dL_law_281 : decode cL_law 281 = .ok (.aload_n 1, 1) := by decide +kernel
theorem dL_law_282 : decode cL_law 282 = .ok (.aload_n 0, 1) := by decide +kernel
theorem dL_law_283 : decode cL_law 283 = .ok (.iload_n 3, 1) := by decide +kernel
theorem dL_law_284 : decode cL_law 284 = .ok (.iconst 1, 1) := by decide +kernel
theorem dL_law_285 : decode cL_law 285 = .ok (.iadd, 1) := by decide +kernel
theorem dL_law_286 : decode cL_law 286 = .ok (.iaload, 1) := by decide +kernel
theorem dL_law_287 : decode cL_law 287 = .ok (.aload_n 0, 1) := by decide +kernel
theorem dL_law_288 : decode cL_law 288 = .ok (.iload_n 3, 1) := by decide +kernel
theorem dL_law_289 : decode cL_law 289 = .ok (.iconst 2, 1) := by decide +kernel
theorem dL_law_290 : decode cL_law 290 = .ok (.iadd, 1) := by decide +kernel
theorem dL_law_291 : decode cL_law 291 = .ok (.iaload, 1) := by decide +kernel
theorem dL_law_292 : decode cL_law 292 = .ok (.aload_n 0, 1) := by decide +kernel
theorem dL_law_293 : decode cL_law 293 = .ok (.iload_n 3, 1) := by decide +kernel
theorem dL_law_294 : decode cL_law 294 = .ok (.iconst 3, 1) := by decide +kernel
theorem dL_law_295 : decode cL_law 295 = .ok (.iadd, 1) := by decide +kernel
theorem dL_law_296 : decode cL_law 296 = .ok (.iaload, 1) := by decide +kernel
theorem dL_law_297 : decode cL_law 297 = .ok (.invokevirtual 37, 3) := by decide +kernel
theorem dL_law_300 : decode cL_law 300 = .ok (.aload_n 2, 1) := by decide +kernel
theorem dL_law_301 : decode cL_law 301 = .ok (.aload_n 0, 1) := by decide +kernel
theorem dL_law_302 : decode cL_law 302 = .ok (.iload_n 3, 1) := by decide +kernel
theorem dL_law_303 : decode cL_law 303 = .ok (.iconst 1, 1) := by decide +kernel
theorem dL_law_304 : decode cL_law 304 = .ok (.iadd, 1) := by decide +kernel
theorem dL_law_305 : decode cL_law 305 = .ok (.iaload, 1) := by decide +kernel
theorem dL_law_306 : decode cL_law 306 = .ok (.aload_n 0, 1) := by decide +kernel
theorem dL_law_307 : decode cL_law 307 = .ok (.iload_n 3, 1) := by decide +kernel
theorem dL_law_308 : decode cL_law 308 = .ok (.iconst 2, 1) := by decide +kernel
theorem dL_law_309 : decode cL_law 309 = .ok (.iadd, 1) := by decide +kernel
theorem dL_law_310 : decode cL_law 310 = .ok (.iaload, 1) := by decide +kernel
theorem dL_law_311 : decode cL_law 311 = .ok (.aload_n 0, 1) := by decide +kernel
theorem dL_law_312 : decode cL_law 312 = .ok (.iload_n 3, 1) := by decide +kernel
theorem dL_law_313 : decode cL_law 313 = .ok (.iconst 3, 1) := by decide +kernel
theorem dL_law_314 : decode cL_law 314 = .ok (.iadd, 1) := by decide +kernel
theorem dL_law_315 : decode cL_law 315 = .ok (.iaload, 1) := by decide +kernel
theorem dL_law_316 : decode cL_law 316 = .ok (.invokevirtual 40, 3) := by decide +kernel
theorem dL_law_319 : decode cL_law 319 = .ok (.if_icmp .eq 519, 3) := by decide +kernel
theorem dL_law_322 : decode cL_law 322 = .ok (.iconst 0, 1) := by decide +kernel
theorem dL_law_323 : decode cL_law 323 = .ok (.ireturn, 1) := by decide +kernel
theorem dL_law_324 : decode cL_law 324 = .ok (.aload_n 1, 1) := by decide +kernel
theorem dL_law_325 : decode cL_law 325 = .ok (.aload_n 0, 1) := by decide +kernel
theorem dL_law_326 : decode cL_law 326 = .ok (.iload_n 3, 1) := by decide +kernel
theorem dL_law_327 : decode cL_law 327 = .ok (.iconst 1, 1) := by decide +kernel
theorem dL_law_328 : decode cL_law 328 = .ok (.iadd, 1) := by decide +kernel
theorem dL_law_329 : decode cL_law 329 = .ok (.iaload, 1) := by decide +kernel
theorem dL_law_330 : decode cL_law 330 = .ok (.aload_n 0, 1) := by decide +kernel
theorem dL_law_331 : decode cL_law 331 = .ok (.iload_n 3, 1) := by decide +kernel
theorem dL_law_332 : decode cL_law 332 = .ok (.iconst 2, 1) := by decide +kernel
theorem dL_law_333 : decode cL_law 333 = .ok (.iadd, 1) := by decide +kernel
theorem dL_law_334 : decode cL_law 334 = .ok (.iaload, 1) := by decide +kernel
theorem dL_law_335 : decode cL_law 335 = .ok (.invokevirtual 41, 3) := by decide +kernel
theorem dL_law_338 : decode cL_law 338 = .ok (.aload_n 2, 1) := by decide +kernel
theorem dL_law_339 : decode cL_law 339 = .ok (.aload_n 0, 1) := by decide +kernel
theorem dL_law_340 : decode cL_law 340 = .ok (.iload_n 3, 1) := by decide +kernel
theorem dL_law_341 : decode cL_law 341 = .ok (.iconst 1, 1) := by decide +kernel
theorem dL_law_342 : decode cL_law 342 = .ok (.iadd, 1) := by decide +kernel
theorem dL_law_343 : decode cL_law 343 = .ok (.iaload, 1) := by decide +kernel
theorem dL_law_344 : decode cL_law 344 = .ok (.aload_n 0, 1) := by decide +kernel
theorem dL_law_345 : decode cL_law 345 = .ok (.iload_n 3, 1) := by decide +kernel
theorem dL_law_346 : decode cL_law 346 = .ok (.iconst 2, 1) := by decide +kernel
theorem dL_law_347 : decode cL_law 347 = .ok (.iadd, 1) := by decide +kernel
theorem dL_law_348 : decode cL_law 348 = .ok (.iaload, 1) := by decide +kernel
theorem dL_law_349 : decode cL_law 349 = .ok (.invokevirtual 44, 3) := by decide +kernel
theorem dL_law_352 : decode cL_law 352 = .ok (.if_icmp .eq 486, 3) := by decide +kernel
theorem dL_law_355 : decode cL_law 355 = .ok (.iconst 0, 1) := by decide +kernel
theorem dL_law_356 : decode cL_law 356 = .ok (.ireturn, 1) := by decide +kernel
theorem dL_law_357 : decode cL_law 357 = .ok (.aload_n 1, 1) := by decide +kernel
theorem dL_law_358 : decode cL_law 358 = .ok (.aload_n 0, 1) := by decide +kernel
theorem dL_law_359 : decode cL_law 359 = .ok (.iload_n 3, 1) := by decide +kernel
theorem dL_law_360 : decode cL_law 360 = .ok (.iconst 1, 1) := by decide +kernel
theorem dL_law_361 : decode cL_law 361 = .ok (.iadd, 1) := by decide +kernel
theorem dL_law_362 : decode cL_law 362 = .ok (.iaload, 1) := by decide +kernel
theorem dL_law_363 : decode cL_law 363 = .ok (.invokevirtual 45, 3) := by decide +kernel
theorem dL_law_366 : decode cL_law 366 = .ok (.aload_n 2, 1) := by decide +kernel
theorem dL_law_367 : decode cL_law 367 = .ok (.aload_n 0, 1) := by decide +kernel
theorem dL_law_368 : decode cL_law 368 = .ok (.iload_n 3, 1) := by decide +kernel
theorem dL_law_369 : decode cL_law 369 = .ok (.iconst 1, 1) := by decide +kernel
theorem dL_law_370 : decode cL_law 370 = .ok (.iadd, 1) := by decide +kernel
theorem dL_law_371 : decode cL_law 371 = .ok (.iaload, 1) := by decide +kernel
theorem dL_law_372 : decode cL_law 372 = .ok (.invokevirtual 48, 3) := by decide +kernel
theorem dL_law_375 : decode cL_law 375 = .ok (.if_icmp .eq 463, 3) := by decide +kernel
theorem dL_law_378 : decode cL_law 378 = .ok (.iconst 0, 1) := by decide +kernel
theorem dL_law_379 : decode cL_law 379 = .ok (.ireturn, 1) := by decide +kernel
theorem dL_law_380 : decode cL_law 380 = .ok (.aload_n 1, 1) := by decide +kernel
theorem dL_law_381 : decode cL_law 381 = .ok (.aload_n 0, 1) := by decide +kernel
theorem dL_law_382 : decode cL_law 382 = .ok (.iload_n 3, 1) := by decide +kernel
theorem dL_law_383 : decode cL_law 383 = .ok (.iconst 1, 1) := by decide +kernel
theorem dL_law_384 : decode cL_law 384 = .ok (.iadd, 1) := by decide +kernel
theorem dL_law_385 : decode cL_law 385 = .ok (.iaload, 1) := by decide +kernel
theorem dL_law_386 : decode cL_law 386 = .ok (.invokevirtual 49, 3) := by decide +kernel
theorem dL_law_389 : decode cL_law 389 = .ok (.aload_n 2, 1) := by decide +kernel
theorem dL_law_390 : decode cL_law 390 = .ok (.aload_n 0, 1) := by decide +kernel
theorem dL_law_391 : decode cL_law 391 = .ok (.iload_n 3, 1) := by decide +kernel
theorem dL_law_392 : decode cL_law 392 = .ok (.iconst 1, 1) := by decide +kernel
theorem dL_law_393 : decode cL_law 393 = .ok (.iadd, 1) := by decide +kernel
theorem dL_law_394 : decode cL_law 394 = .ok (.iaload, 1) := by decide +kernel
theorem dL_law_395 : decode cL_law 395 = .ok (.invokevirtual 52, 3) := by decide +kernel
theorem dL_law_398 : decode cL_law 398 = .ok (.if_icmp .eq 440, 3) := by decide +kernel
theorem dL_law_401 : decode cL_law 401 = .ok (.iconst 0, 1) := by decide +kernel
theorem dL_law_402 : decode cL_law 402 = .ok (.ireturn, 1) := by decide +kernel
theorem dL_law_403 : decode cL_law 403 = .ok (.aload_n 1, 1) := by decide +kernel
theorem dL_law_404 : decode cL_law 404 = .ok (.aload_n 0, 1) := by decide +kernel
theorem dL_law_405 : decode cL_law 405 = .ok (.iload_n 3, 1) := by decide +kernel
theorem dL_law_406 : decode cL_law 406 = .ok (.iconst 1, 1) := by decide +kernel
theorem dL_law_407 : decode cL_law 407 = .ok (.iadd, 1) := by decide +kernel
theorem dL_law_408 : decode cL_law 408 = .ok (.iaload, 1) := by decide +kernel
theorem dL_law_409 : decode cL_law 409 = .ok (.invokevirtual 53, 3) := by decide +kernel
theorem dL_law_412 : decode cL_law 412 = .ok (.aload_n 2, 1) := by decide +kernel
theorem dL_law_413 : decode cL_law 413 = .ok (.aload_n 0, 1) := by decide +kernel
theorem dL_law_414 : decode cL_law 414 = .ok (.iload_n 3, 1) := by decide +kernel
theorem dL_law_415 : decode cL_law 415 = .ok (.iconst 1, 1) := by decide +kernel
theorem dL_law_416 : decode cL_law 416 = .ok (.iadd, 1) := by decide +kernel
theorem dL_law_417 : decode cL_law 417 = .ok (.iaload, 1) := by decide +kernel
theorem dL_law_418 : decode cL_law 418 = .ok (.invokevirtual 56, 3) := by decide +kernel
theorem dL_law_421 : decode cL_law 421 = .ok (.if_icmp .eq 417, 3) := by decide +kernel
theorem dL_law_424 : decode cL_law 424 = .ok (.iconst 0, 1) := by decide +kernel
theorem dL_law_425 : decode cL_law 425 = .ok (.ireturn, 1) := by decide +kernel
theorem dL_law_426 : decode cL_law 426 = .ok (.aload_n 1, 1) := by decide +kernel
theorem dL_law_427 : decode cL_law 427 = .ok (.aload_n 0, 1) := by decide +kernel
theorem dL_law_428 : decode cL_law 428 = .ok (.iload_n 3, 1) := by decide +kernel
theorem dL_law_429 : decode cL_law 429 = .ok (.iconst 1, 1) := by decide +kernel
theorem dL_law_430 : decode cL_law 430 = .ok (.iadd, 1) := by decide +kernel
theorem dL_law_431 : decode cL_law 431 = .ok (.iaload, 1) := by decide +kernel
theorem dL_law_432 : decode cL_law 432 = .ok (.invokevirtual 57, 3) := by decide +kernel
theorem dL_law_435 : decode cL_law 435 = .ok (.aload_n 2, 1) := by decide +kernel
theorem dL_law_436 : decode cL_law 436 = .ok (.aload_n 0, 1) := by decide +kernel
theorem dL_law_437 : decode cL_law 437 = .ok (.iload_n 3, 1) := by decide +kernel
theorem dL_law_438 : decode cL_law 438 = .ok (.iconst 1, 1) := by decide +kernel
theorem dL_law_439 : decode cL_law 439 = .ok (.iadd, 1) := by decide +kernel
theorem dL_law_440 : decode cL_law 440 = .ok (.iaload, 1) := by decide +kernel
theorem dL_law_441 : decode cL_law 441 = .ok (.invokevirtual 60, 3) := by decide +kernel
theorem dL_law_444 : decode cL_law 444 = .ok (.if_icmp .eq 394, 3) := by decide +kernel
theorem dL_law_447 : decode cL_law 447 = .ok (.iconst 0, 1) := by decide +kernel
theorem dL_law_448 : decode cL_law 448 = .ok (.ireturn, 1) := by decide +kernel
theorem dL_law_449 : decode cL_law 449 = .ok (.aload_n 1, 1) := by decide +kernel
theorem dL_law_450 : decode cL_law 450 = .ok (.aload_n 0, 1) := by decide +kernel
theorem dL_law_451 : decode cL_law 451 = .ok (.iload_n 3, 1) := by decide +kernel
theorem dL_law_452 : decode cL_law 452 = .ok (.iconst 1, 1) := by decide +kernel
theorem dL_law_453 : decode cL_law 453 = .ok (.iadd, 1) := by decide +kernel
theorem dL_law_454 : decode cL_law 454 = .ok (.iaload, 1) := by decide +kernel
theorem dL_law_455 : decode cL_law 455 = .ok (.aload_n 0, 1) := by decide +kernel
theorem dL_law_456 : decode cL_law 456 = .ok (.iload_n 3, 1) := by decide +kernel
theorem dL_law_457 : decode cL_law 457 = .ok (.iconst 2, 1) := by decide +kernel
theorem dL_law_458 : decode cL_law 458 = .ok (.iadd, 1) := by decide +kernel
theorem dL_law_459 : decode cL_law 459 = .ok (.iaload, 1) := by decide +kernel
theorem dL_law_460 : decode cL_law 460 = .ok (.invokevirtual 61, 3) := by decide +kernel
theorem dL_law_463 : decode cL_law 463 = .ok (.aload_n 2, 1) := by decide +kernel
theorem dL_law_464 : decode cL_law 464 = .ok (.aload_n 0, 1) := by decide +kernel
theorem dL_law_465 : decode cL_law 465 = .ok (.iload_n 3, 1) := by decide +kernel
theorem dL_law_466 : decode cL_law 466 = .ok (.iconst 1, 1) := by decide +kernel
theorem dL_law_467 : decode cL_law 467 = .ok (.iadd, 1) := by decide +kernel
theorem dL_law_468 : decode cL_law 468 = .ok (.iaload, 1) := by decide +kernel
theorem dL_law_469 : decode cL_law 469 = .ok (.aload_n 0, 1) := by decide +kernel
theorem dL_law_470 : decode cL_law 470 = .ok (.iload_n 3, 1) := by decide +kernel
theorem dL_law_471 : decode cL_law 471 = .ok (.iconst 2, 1) := by decide +kernel
theorem dL_law_472 : decode cL_law 472 = .ok (.iadd, 1) := by decide +kernel
theorem dL_law_473 : decode cL_law 473 = .ok (.iaload, 1) := by decide +kernel
theorem dL_law_474 : decode cL_law 474 = .ok (.invokevirtual 64, 3) := by decide +kernel
theorem dL_law_477 : decode cL_law 477 = .ok (.if_icmp .eq 361, 3) := by decide +kernel
theorem dL_law_480 : decode cL_law 480 = .ok (.iconst 0, 1) := by decide +kernel
theorem dL_law_481 : decode cL_law 481 = .ok (.ireturn, 1) := by decide +kernel
theorem dL_law_482 : decode cL_law 482 = .ok (.aload_n 1, 1) := by decide +kernel
theorem dL_law_483 : decode cL_law 483 = .ok (.aload_n 0, 1) := by decide +kernel
theorem dL_law_484 : decode cL_law 484 = .ok (.iload_n 3, 1) := by decide +kernel
theorem dL_law_485 : decode cL_law 485 = .ok (.iconst 1, 1) := by decide +kernel
theorem dL_law_486 : decode cL_law 486 = .ok (.iadd, 1) := by decide +kernel
theorem dL_law_487 : decode cL_law 487 = .ok (.iaload, 1) := by decide +kernel
theorem dL_law_488 : decode cL_law 488 = .ok (.invokevirtual 65, 3) := by decide +kernel
theorem dL_law_491 : decode cL_law 491 = .ok (.aload_n 2, 1) := by decide +kernel
theorem dL_law_492 : decode cL_law 492 = .ok (.aload_n 0, 1) := by decide +kernel
theorem dL_law_493 : decode cL_law 493 = .ok (.iload_n 3, 1) := by decide +kernel
theorem dL_law_494 : decode cL_law 494 = .ok (.iconst 1, 1) := by decide +kernel
theorem dL_law_495 : decode cL_law 495 = .ok (.iadd, 1) := by decide +kernel
theorem dL_law_496 : decode cL_law 496 = .ok (.iaload, 1) := by decide +kernel
theorem dL_law_497 : decode cL_law 497 = .ok (.invokevirtual 68, 3) := by decide +kernel
theorem dL_law_500 : decode cL_law 500 = .ok (.if_icmp .eq 338, 3) := by decide +kernel
theorem dL_law_503 : decode cL_law 503 = .ok (.iconst 0, 1) := by decide +kernel
theorem dL_law_504 : decode cL_law 504 = .ok (.ireturn, 1) := by decide +kernel
theorem dL_law_505 : decode cL_law 505 = .ok (.aload_n 1, 1) := by decide +kernel
theorem dL_law_506 : decode cL_law 506 = .ok (.aload_n 0, 1) := by decide +kernel
theorem dL_law_507 : decode cL_law 507 = .ok (.iload_n 3, 1) := by decide +kernel
theorem dL_law_508 : decode cL_law 508 = .ok (.iconst 1, 1) := by decide +kernel
theorem dL_law_509 : decode cL_law 509 = .ok (.iadd, 1) := by decide +kernel
theorem dL_law_510 : decode cL_law 510 = .ok (.iaload, 1) := by decide +kernel
theorem dL_law_511 : decode cL_law 511 = .ok (.invokevirtual 69, 3) := by decide +kernel
theorem dL_law_514 : decode cL_law 514 = .ok (.aload_n 2, 1) := by decide +kernel
theorem dL_law_515 : decode cL_law 515 = .ok (.aload_n 0, 1) := by decide +kernel
theorem dL_law_516 : decode cL_law 516 = .ok (.iload_n 3, 1) := by decide +kernel
theorem dL_law_517 : decode cL_law 517 = .ok (.iconst 1, 1) := by decide +kernel
theorem dL_law_518 : decode cL_law 518 = .ok (.iadd, 1) := by decide +kernel
theorem dL_law_519 : decode cL_law 519 = .ok (.iaload, 1) := by decide +kernel
theorem dL_law_520 : decode cL_law 520 = .ok (.invokevirtual 72, 3) := by decide +kernel
theorem dL_law_523 : decode cL_law 523 = .ok (.if_icmp .eq 315, 3) := by decide +kernel
theorem dL_law_526 : decode cL_law 526 = .ok (.iconst 0, 1) := by decide +kernel
theorem dL_law_527 : decode cL_law 527 = .ok (.ireturn, 1) := by decide +kernel
theorem dL_law_528 : decode cL_law 528 = .ok (.aload_n 1, 1) := by decide +kernel
theorem dL_law_529 : decode cL_law 529 = .ok (.invokevirtual 73, 3) := by decide +kernel
theorem dL_law_532 : decode cL_law 532 = .ok (.aload_n 2, 1) := by decide +kernel
theorem dL_law_533 : decode cL_law 533 = .ok (.invokevirtual 76, 3) := by decide +kernel
theorem dL_law_536 : decode cL_law 536 = .ok (.if_icmp .eq 302, 3) := by decide +kernel
theorem dL_law_539 : decode cL_law 539 = .ok (.iconst 0, 1) := by decide +kernel
theorem dL_law_540 : decode cL_law 540 = .ok (.ireturn, 1) := by decide +kernel
theorem dL_law_541 : decode cL_law 541 = .ok (.aload_n 1, 1) := by decide +kernel
theorem dL_law_542 : decode cL_law 542 = .ok (.aload_n 0, 1) := by decide +kernel
theorem dL_law_543 : decode cL_law 543 = .ok (.iload_n 3, 1) := by decide +kernel
theorem dL_law_544 : decode cL_law 544 = .ok (.iconst 1, 1) := by decide +kernel
theorem dL_law_545 : decode cL_law 545 = .ok (.iadd, 1) := by decide +kernel
theorem dL_law_546 : decode cL_law 546 = .ok (.iaload, 1) := by decide +kernel
theorem dL_law_547 : decode cL_law 547 = .ok (.invokevirtual 77, 3) := by decide +kernel
theorem dL_law_550 : decode cL_law 550 = .ok (.aload_n 2, 1) := by decide +kernel
theorem dL_law_551 : decode cL_law 551 = .ok (.aload_n 0, 1) := by decide +kernel
theorem dL_law_552 : decode cL_law 552 = .ok (.iload_n 3, 1) := by decide +kernel
theorem dL_law_553 : decode cL_law 553 = .ok (.iconst 1, 1) := by decide +kernel
theorem dL_law_554 : decode cL_law 554 = .ok (.iadd, 1) := by decide +kernel
theorem dL_law_555 : decode cL_law 555 = .ok (.iaload, 1) := by decide +kernel
theorem dL_law_556 : decode cL_law 556 = .ok (.invokevirtual 80, 3) := by decide +kernel
theorem dL_law_559 : decode cL_law 559 = .ok (.if_icmp .eq 279, 3) := by decide +kernel
theorem dL_law_562 : decode cL_law 562 = .ok (.iconst 0, 1) := by decide +kernel
theorem dL_law_563 : decode cL_law 563 = .ok (.ireturn, 1) := by decide +kernel
theorem dL_law_564 : decode cL_law 564 = .ok (.aload_n 1, 1) := by decide +kernel
theorem dL_law_565 : decode cL_law 565 = .ok (.aload_n 0, 1) := by decide +kernel
theorem dL_law_566 : decode cL_law 566 = .ok (.iload_n 3, 1) := by decide +kernel
theorem dL_law_567 : decode cL_law 567 = .ok (.iconst 1, 1) := by decide +kernel
theorem dL_law_568 : decode cL_law 568 = .ok (.iadd, 1) := by decide +kernel
theorem dL_law_569 : decode cL_law 569 = .ok (.iaload, 1) := by decide +kernel
theorem dL_law_570 : decode cL_law 570 = .ok (.invokevirtual 81, 3) := by decide +kernel
theorem dL_law_573 : decode cL_law 573 = .ok (.aload_n 2, 1) := by decide +kernel
theorem dL_law_574 : decode cL_law 574 = .ok (.aload_n 0, 1) := by decide +kernel
theorem dL_law_575 : decode cL_law 575 = .ok (.iload_n 3, 1) := by decide +kernel
theorem dL_law_576 : decode cL_law 576 = .ok (.iconst 1, 1) := by decide +kernel
theorem dL_law_577 : decode cL_law 577 = .ok (.iadd, 1) := by decide +kernel
theorem dL_law_578 : decode cL_law 578 = .ok (.iaload, 1) := by decide +kernel
theorem dL_law_579 : decode cL_law 579 = .ok (.invokevirtual 84, 3) := by decide +kernel
theorem dL_law_582 : decode cL_law 582 = .ok (.if_icmp .eq 256, 3) := by decide +kernel
theorem dL_law_585 : decode cL_law 585 = .ok (.iconst 0, 1) := by decide +kernel
theorem dL_law_586 : decode cL_law 586 = .ok (.ireturn, 1) := by decide +kernel
theorem dL_law_587 : decode cL_law 587 = .ok (.aload_n 1, 1) := by decide +kernel
theorem dL_law_588 : decode cL_law 588 = .ok (.aload_n 0, 1) := by decide +kernel
theorem dL_law_589 : decode cL_law 589 = .ok (.iload_n 3, 1) := by decide +kernel
theorem dL_law_590 : decode cL_law 590 = .ok (.iconst 1, 1) := by decide +kernel
theorem dL_law_591 : decode cL_law 591 = .ok (.iadd, 1) := by decide +kernel
theorem dL_law_592 : decode cL_law 592 = .ok (.iaload, 1) := by decide +kernel
theorem dL_law_593 : decode cL_law 593 = .ok (.aload_n 0, 1) := by decide +kernel
theorem dL_law_594 : decode cL_law 594 = .ok (.iload_n 3, 1) := by decide +kernel
theorem dL_law_595 : decode cL_law 595 = .ok (.iconst 2, 1) := by decide +kernel
theorem dL_law_596 : decode cL_law 596 = .ok (.iadd, 1) := by decide +kernel
theorem dL_law_597 : decode cL_law 597 = .ok (.iaload, 1) := by decide +kernel
theorem dL_law_598 : decode cL_law 598 = .ok (.aload_n 0, 1) := by decide +kernel
theorem dL_law_599 : decode cL_law 599 = .ok (.iload_n 3, 1) := by decide +kernel
theorem dL_law_600 : decode cL_law 600 = .ok (.iconst 3, 1) := by decide +kernel
theorem dL_law_601 : decode cL_law 601 = .ok (.iadd, 1) := by decide +kernel
theorem dL_law_602 : decode cL_law 602 = .ok (.iaload, 1) := by decide +kernel
theorem dL_law_603 : decode cL_law 603 = .ok (.aload_n 0, 1) := by decide +kernel
theorem dL_law_604 : decode cL_law 604 = .ok (.iload_n 3, 1) := by decide +kernel
theorem dL_law_605 : decode cL_law 605 = .ok (.iconst 4, 1) := by decide +kernel
theorem dL_law_606 : decode cL_law 606 = .ok (.iadd, 1) := by decide +kernel
theorem dL_law_607 : decode cL_law 607 = .ok (.iaload, 1) := by decide +kernel
theorem dL_law_608 : decode cL_law 608 = .ok (.invokevirtual 85, 3) := by decide +kernel
theorem dL_law_611 : decode cL_law 611 = .ok (.aload_n 2, 1) := by decide +kernel
theorem dL_law_612 : decode cL_law 612 = .ok (.aload_n 0, 1) := by decide +kernel
theorem dL_law_613 : decode cL_law 613 = .ok (.iload_n 3, 1) := by decide +kernel
theorem dL_law_614 : decode cL_law 614 = .ok (.iconst 1, 1) := by decide +kernel
theorem dL_law_615 : decode cL_law 615 = .ok (.iadd, 1) := by decide +kernel
theorem dL_law_616 : decode cL_law 616 = .ok (.iaload, 1) := by decide +kernel
theorem dL_law_617 : decode cL_law 617 = .ok (.aload_n 0, 1) := by decide +kernel
theorem dL_law_618 : decode cL_law 618 = .ok (.iload_n 3, 1) := by decide +kernel
theorem dL_law_619 : decode cL_law 619 = .ok (.iconst 2, 1) := by decide +kernel
theorem dL_law_620 : decode cL_law 620 = .ok (.iadd, 1) := by decide +kernel
theorem dL_law_621 : decode cL_law 621 = .ok (.iaload, 1) := by decide +kernel
theorem dL_law_622 : decode cL_law 622 = .ok (.aload_n 0, 1) := by decide +kernel
theorem dL_law_623 : decode cL_law 623 = .ok (.iload_n 3, 1) := by decide +kernel
theorem dL_law_624 : decode cL_law 624 = .ok (.iconst 3, 1) := by decide +kernel
theorem dL_law_625 : decode cL_law 625 = .ok (.iadd, 1) := by decide +kernel
theorem dL_law_626 : decode cL_law 626 = .ok (.iaload, 1) := by decide +kernel
theorem dL_law_627 : decode cL_law 627 = .ok (.aload_n 0, 1) := by decide +kernel
theorem dL_law_628 : decode cL_law 628 = .ok (.iload_n 3, 1) := by decide +kernel
theorem dL_law_629 : decode cL_law 629 = .ok (.iconst 4, 1) := by decide +kernel
theorem dL_law_630 : decode cL_law 630 = .ok (.iadd, 1) := by decide +kernel
theorem dL_law_631 : decode cL_law 631 = .ok (.iaload, 1) := by decide +kernel
theorem dL_law_632 : decode cL_law 632 = .ok (.invokevirtual 89, 3) := by decide +kernel
theorem dL_law_635 : decode cL_law 635 = .ok (.if_icmp .eq 203, 3) := by decide +kernel
theorem dL_law_638 : decode cL_law 638 = .ok (.iconst 0, 1) := by decide +kernel
theorem dL_law_639 : decode cL_law 639 = .ok (.ireturn, 1) := by decide +kernel
theorem dL_law_640 : decode cL_law 640 = .ok (.aload_n 1, 1) := by decide +kernel
theorem dL_law_641 : decode cL_law 641 = .ok (.aload_n 0, 1) := by decide +kernel
theorem dL_law_642 : decode cL_law 642 = .ok (.iload_n 3, 1) := by decide +kernel
theorem dL_law_643 : decode cL_law 643 = .ok (.iconst 1, 1) := by decide +kernel
theorem dL_law_644 : decode cL_law 644 = .ok (.iadd, 1) := by decide +kernel
theorem dL_law_645 : decode cL_law 645 = .ok (.iaload, 1) := by decide +kernel
theorem dL_law_646 : decode cL_law 646 = .ok (.aload_n 0, 1) := by decide +kernel
theorem dL_law_647 : decode cL_law 647 = .ok (.iload_n 3, 1) := by decide +kernel
theorem dL_law_648 : decode cL_law 648 = .ok (.iconst 2, 1) := by decide +kernel
theorem dL_law_649 : decode cL_law 649 = .ok (.iadd, 1) := by decide +kernel
theorem dL_law_650 : decode cL_law 650 = .ok (.iaload, 1) := by decide +kernel
theorem dL_law_651 : decode cL_law 651 = .ok (.aload_n 0, 1) := by decide +kernel
theorem dL_law_652 : decode cL_law 652 = .ok (.iload_n 3, 1) := by decide +kernel
theorem dL_law_653 : decode cL_law 653 = .ok (.iconst 3, 1) := by decide +kernel
theorem dL_law_654 : decode cL_law 654 = .ok (.iadd, 1) := by decide +kernel
theorem dL_law_655 : decode cL_law 655 = .ok (.iaload, 1) := by decide +kernel
theorem dL_law_656 : decode cL_law 656 = .ok (.invokevirtual 90, 3) := by decide +kernel
theorem dL_law_659 : decode cL_law 659 = .ok (.aload_n 2, 1) := by decide +kernel
theorem dL_law_660 : decode cL_law 660 = .ok (.aload_n 0, 1) := by decide +kernel
theorem dL_law_661 : decode cL_law 661 = .ok (.iload_n 3, 1) := by decide +kernel
theorem dL_law_662 : decode cL_law 662 = .ok (.iconst 1, 1) := by decide +kernel
theorem dL_law_663 : decode cL_law 663 = .ok (.iadd, 1) := by decide +kernel
theorem dL_law_664 : decode cL_law 664 = .ok (.iaload, 1) := by decide +kernel
theorem dL_law_665 : decode cL_law 665 = .ok (.aload_n 0, 1) := by decide +kernel
theorem dL_law_666 : decode cL_law 666 = .ok (.iload_n 3, 1) := by decide +kernel
theorem dL_law_667 : decode cL_law 667 = .ok (.iconst 2, 1) := by decide +kernel
theorem dL_law_668 : decode cL_law 668 = .ok (.iadd, 1) := by decide +kernel
theorem dL_law_669 : decode cL_law 669 = .ok (.iaload, 1) := by decide +kernel
theorem dL_law_670 : decode cL_law 670 = .ok (.aload_n 0, 1) := by decide +kernel
theorem dL_law_671 : decode cL_law 671 = .ok (.iload_n 3, 1) := by decide +kernel
theorem dL_law_672 : decode cL_law 672 = .ok (.iconst 3, 1) := by decide +kernel
theorem dL_law_673 : decode cL_law 673 = .ok (.iadd, 1) := by decide +kernel
theorem dL_law_674 : decode cL_law 674 = .ok (.iaload, 1) := by decide +kernel
theorem dL_law_675 : decode cL_law 675 = .ok (.invokevirtual 93, 3) := by decide +kernel
theorem dL_law_678 : decode cL_law 678 = .ok (.if_icmp .eq 160, 3) := by decide +kernel
theorem dL_law_681 : decode cL_law 681 = .ok (.iconst 0, 1) := by decide +kernel
theorem dL_law_682 : decode cL_law 682 = .ok (.ireturn, 1) := by decide +kernel
theorem dL_law_683 : decode cL_law 683 = .ok (.aload_n 1, 1) := by decide +kernel
theorem dL_law_684 : decode cL_law 684 = .ok (.invokevirtual 94, 3) := by decide +kernel
theorem dL_law_687 : decode cL_law 687 = .ok (.aload_n 2, 1) := by decide +kernel
theorem dL_law_688 : decode cL_law 688 = .ok (.invokevirtual 97, 3) := by decide +kernel
theorem dL_law_691 : decode cL_law 691 = .ok (.if_icmp .eq 147, 3) := by decide +kernel
theorem dL_law_694 : decode cL_law 694 = .ok (.iconst 0, 1) := by decide +kernel
theorem dL_law_695 : decode cL_law 695 = .ok (.ireturn, 1) := by decide +kernel
theorem dL_law_696 : decode cL_law 696 = .ok (.aload_n 1, 1) := by decide +kernel
theorem dL_law_697 : decode cL_law 697 = .ok (.invokevirtual 98, 3) := by decide +kernel
theorem dL_law_700 : decode cL_law 700 = .ok (.aload_n 2, 1) := by decide +kernel
theorem dL_law_701 : decode cL_law 701 = .ok (.invokevirtual 101, 3) := by decide +kernel
theorem dL_law_704 : decode cL_law 704 = .ok (.if_icmp .eq 134, 3) := by decide +kernel
theorem dL_law_707 : decode cL_law 707 = .ok (.iconst 0, 1) := by decide +kernel
theorem dL_law_708 : decode cL_law 708 = .ok (.ireturn, 1) := by decide +kernel
theorem dL_law_709 : decode cL_law 709 = .ok (.aload_n 1, 1) := by decide +kernel
theorem dL_law_710 : decode cL_law 710 = .ok (.invokevirtual 102, 3) := by decide +kernel
theorem dL_law_713 : decode cL_law 713 = .ok (.aload_n 2, 1) := by decide +kernel
theorem dL_law_714 : decode cL_law 714 = .ok (.invokevirtual 105, 3) := by decide +kernel
theorem dL_law_717 : decode cL_law 717 = .ok (.if_icmp .eq 121, 3) := by decide +kernel
theorem dL_law_720 : decode cL_law 720 = .ok (.iconst 0, 1) := by decide +kernel
theorem dL_law_721 : decode cL_law 721 = .ok (.ireturn, 1) := by decide +kernel
theorem dL_law_722 : decode cL_law 722 = .ok (.aload_n 1, 1) := by decide +kernel
theorem dL_law_723 : decode cL_law 723 = .ok (.aload_n 0, 1) := by decide +kernel
theorem dL_law_724 : decode cL_law 724 = .ok (.iload_n 3, 1) := by decide +kernel
theorem dL_law_725 : decode cL_law 725 = .ok (.iconst 1, 1) := by decide +kernel
theorem dL_law_726 : decode cL_law 726 = .ok (.iadd, 1) := by decide +kernel
theorem dL_law_727 : decode cL_law 727 = .ok (.iaload, 1) := by decide +kernel
theorem dL_law_728 : decode cL_law 728 = .ok (.aload_n 0, 1) := by decide +kernel
theorem dL_law_729 : decode cL_law 729 = .ok (.iload_n 3, 1) := by decide +kernel
theorem dL_law_730 : decode cL_law 730 = .ok (.iconst 2, 1) := by decide +kernel
theorem dL_law_731 : decode cL_law 731 = .ok (.iadd, 1) := by decide +kernel
theorem dL_law_732 : decode cL_law 732 = .ok (.iaload, 1) := by decide +kernel
theorem dL_law_733 : decode cL_law 733 = .ok (.invokevirtual 106, 3) := by decide +kernel
theorem dL_law_736 : decode cL_law 736 = .ok (.aload_n 2, 1) := by decide +kernel
theorem dL_law_737 : decode cL_law 737 = .ok (.aload_n 0, 1) := by decide +kernel
theorem dL_law_738 : decode cL_law 738 = .ok (.iload_n 3, 1) := by decide +kernel
theorem dL_law_739 : decode cL_law 739 = .ok (.iconst 1, 1) := by decide +kernel
theorem dL_law_740 : decode cL_law 740 = .ok (.iadd, 1) := by decide +kernel
theorem dL_law_741 : decode cL_law 741 = .ok (.iaload, 1) := by decide +kernel
theorem dL_law_742 : decode cL_law 742 = .ok (.aload_n 0, 1) := by decide +kernel
theorem dL_law_743 : decode cL_law 743 = .ok (.iload_n 3, 1) := by decide +kernel
theorem dL_law_744 : decode cL_law 744 = .ok (.iconst 2, 1) := by decide +kernel
theorem dL_law_745 : decode cL_law 745 = .ok (.iadd, 1) := by decide +kernel
theorem dL_law_746 : decode cL_law 746 = .ok (.iaload, 1) := by decide +kernel
theorem dL_law_747 : decode cL_law 747 = .ok (.invokevirtual 109, 3) := by decide +kernel
theorem dL_law_750 : decode cL_law 750 = .ok (.if_icmp .eq 88, 3) := by decide +kernel
theorem dL_law_753 : decode cL_law 753 = .ok (.iconst 0, 1) := by decide +kernel
theorem dL_law_754 : decode cL_law 754 = .ok (.ireturn, 1) := by decide +kernel
theorem dL_law_755 : decode cL_law 755 = .ok (.aload_n 1, 1) := by decide +kernel
theorem dL_law_756 : decode cL_law 756 = .ok (.aload_n 0, 1) := by decide +kernel
theorem dL_law_757 : decode cL_law 757 = .ok (.iload_n 3, 1) := by decide +kernel
theorem dL_law_758 : decode cL_law 758 = .ok (.iconst 1, 1) := by decide +kernel
theorem dL_law_759 : decode cL_law 759 = .ok (.iadd, 1) := by decide +kernel
theorem dL_law_760 : decode cL_law 760 = .ok (.iaload, 1) := by decide +kernel
theorem dL_law_761 : decode cL_law 761 = .ok (.invokevirtual 110, 3) := by decide +kernel
theorem dL_law_764 : decode cL_law 764 = .ok (.aload_n 2, 1) := by decide +kernel
theorem dL_law_765 : decode cL_law 765 = .ok (.aload_n 0, 1) := by decide +kernel
theorem dL_law_766 : decode cL_law 766 = .ok (.iload_n 3, 1) := by decide +kernel
theorem dL_law_767 : decode cL_law 767 = .ok (.iconst 1, 1) := by decide +kernel
theorem dL_law_768 : decode cL_law 768 = .ok (.iadd, 1) := by decide +kernel
theorem dL_law_769 : decode cL_law 769 = .ok (.iaload, 1) := by decide +kernel
theorem dL_law_770 : decode cL_law 770 = .ok (.invokevirtual 113, 3) := by decide +kernel
theorem dL_law_773 : decode cL_law 773 = .ok (.if_icmp .eq 65, 3) := by decide +kernel
theorem dL_law_776 : decode cL_law 776 = .ok (.iconst 0, 1) := by decide +kernel
theorem dL_law_777 : decode cL_law 777 = .ok (.ireturn, 1) := by decide +kernel
theorem dL_law_778 : decode cL_law 778 = .ok (.aload_n 1, 1) := by decide +kernel
theorem dL_law_779 : decode cL_law 779 = .ok (.aload_n 0, 1) := by decide +kernel
theorem dL_law_780 : decode cL_law 780 = .ok (.iload_n 3, 1) := by decide +kernel
theorem dL_law_781 : decode cL_law 781 = .ok (.iconst 1, 1) := by decide +kernel
theorem dL_law_782 : decode cL_law 782 = .ok (.iadd, 1) := by decide +kernel
theorem dL_law_783 : decode cL_law 783 = .ok (.iaload, 1) := by decide +kernel
theorem dL_law_784 : decode cL_law 784 = .ok (.invokevirtual 114, 3) := by decide +kernel
theorem dL_law_787 : decode cL_law 787 = .ok (.aload_n 2, 1) := by decide +kernel
theorem dL_law_788 : decode cL_law 788 = .ok (.aload_n 0, 1) := by decide +kernel
theorem dL_law_789 : decode cL_law 789 = .ok (.iload_n 3, 1) := by decide +kernel
theorem dL_law_790 : decode cL_law 790 = .ok (.iconst 1, 1) := by decide +kernel
end
section
theorem dL_law_791 : decode cL_law 791 = .ok (.iadd, 1) := by decide +kernel
theorem dL_law_792 : decode cL_law 792 = .ok (.iaload, 1) := by decide +kernel
theorem dL_law_793 : decode cL_law 793 = .ok (.invokevirtual 117, 3) := by decide +kernel
theorem dL_law_796 : decode cL_law 796 = .ok (.if_icmp .eq 42, 3) := by decide +kernel
theorem dL_law_799 : decode cL_law 799 = .ok (.iconst 0, 1) := by decide +kernel
theorem dL_law_800 : decode cL_law 800 = .ok (.ireturn, 1) := by decide +kernel
theorem dL_law_801 : decode cL_law 801 = .ok (.aload_n 1, 1) := by decide +kernel
theorem dL_law_802 : decode cL_law 802 = .ok (.aload_n 0, 1) := by decide +kernel
theorem dL_law_803 : decode cL_law 803 = .ok (.iload_n 3, 1) := by decide +kernel
theorem dL_law_804 : decode cL_law 804 = .ok (.iconst 1, 1) := by decide +kernel
theorem dL_law_805 : decode cL_law 805 = .ok (.iadd, 1) := by decide +kernel
theorem dL_law_806 : decode cL_law 806 = .ok (.iaload, 1) := by decide +kernel
theorem dL_law_807 : decode cL_law 807 = .ok (.invokevirtual 118, 3) := by decide +kernel
theorem dL_law_810 : decode cL_law 810 = .ok (.aload_n 2, 1) := by decide +kernel
theorem dL_law_811 : decode cL_law 811 = .ok (.aload_n 0, 1) := by decide +kernel
theorem dL_law_812 : decode cL_law 812 = .ok (.iload_n 3, 1) := by decide +kernel
theorem dL_law_813 : decode cL_law 813 = .ok (.iconst 1, 1) := by decide +kernel
theorem dL_law_814 : decode cL_law 814 = .ok (.iadd, 1) := by decide +kernel
theorem dL_law_815 : decode cL_law 815 = .ok (.iaload, 1) := by decide +kernel
theorem dL_law_816 : decode cL_law 816 = .ok (.invokevirtual 121, 3) := by decide +kernel
theorem dL_law_819 : decode cL_law 819 = .ok (.if_icmp .eq 19, 3) := by decide +kernel
theorem dL_law_822 : decode cL_law 822 = .ok (.iconst 0, 1) := by decide +kernel
theorem dL_law_823 : decode cL_law 823 = .ok (.ireturn, 1) := by decide +kernel
theorem dL_law_824 : decode cL_law 824 = .ok (.aload_n 1, 1) := by decide +kernel
theorem dL_law_825 : decode cL_law 825 = .ok (.invokevirtual 122, 3) := by decide +kernel
theorem dL_law_828 : decode cL_law 828 = .ok (.aload_n 2, 1) := by decide +kernel
theorem dL_law_829 : decode cL_law 829 = .ok (.invokevirtual 126, 3) := by decide +kernel
theorem dL_law_832 : decode cL_law 832 = .ok (.lcmp, 1) := by decide +kernel
theorem dL_law_833 : decode cL_law 833 = .ok (.ifCond .eq 5, 3) := by decide +kernel
theorem dL_law_836 : decode cL_law 836 = .ok (.iconst 0, 1) := by decide +kernel
theorem dL_law_837 : decode cL_law 837 = .ok (.ireturn, 1) := by decide +kernel
theorem dL_law_838 : decode cL_law 838 = .ok (.iinc 3 5, 3) := by decide +kernel
theorem dL_law_841 : decode cL_law 841 = .ok (.goto (-823), 3) := by decide +kernel
theorem dL_law_844 : decode cL_law 844 = .ok (.iconst 1, 1) := by decide +kernel
theorem dL_law_845 : decode cL_law 845 = .ok (.ireturn, 1) := by decide +kernel
end
section
/-! the state of the class and of the reference as mathematical values; the world that holds them; the judgement J -/
abbrev zE : Type := (Nat → ClassId) × (Nat → Nat → Nat) × (Nat → ClassId) × (Nat → Nat → Nat) × Nat
abbrev zD (z : zE) : va_G := (z.1, z.2.1)
abbrev zc (z : zE) : Nat → ClassId := z.2.2.1
abbrev za (z : zE) : Nat → Nat → Nat := z.2.2.2.1
abbrev zN (z : zE) : Nat := z.2.2.2.2
abbrev zA (z : zE) : Nat → Prop := fun q => zN z ≤ q
abbrev zT (z : zE) : List (ClassId × FieldType) := [(zc z 0, .int), (zc z 1, .boolean), (zc z 2, .object "CopierJobs$Course"), (zc z 3, .object "CopierJobs$Job"), (zc z 4, .object "CopierJobs$Now")]
/-- a state: ints by field, object and place; longs; references that move -/
abbrev zG : Type := (Nat → Nat → Nat → Int32) × (Nat → Int64) × (Nat → Nat)
def gi (g : zG) (f i j : Nat) : Int32 := g.1 f i j
def gl (g : zG) (f : Nat) : Int64 := g.2.1 f
def gn (g : zG) (f : Nat) : Nat := g.2.2 f
def ui (g : zG) (f i j : Nat) (v : Int32) : zG := (fun a b d => if a = f ∧ b = i ∧ d = j then v else g.1 a b d, g.2)
def ul (g : zG) (f : Nat) (v : Int64) : zG := (g.1, fun a => if a = f then v else g.2.1 a, g.2.2)
def un (g : zG) (f : Nat) (v : Nat) : zG := (g.1, g.2.1, fun a => if a = f then v else g.2.2 a)
theorem gi_ui (g : zG) (f i j : Nat) (v : Int32) (a b d : Nat) : gi (ui g f i j v) a b d = if a = f ∧ b = i ∧ d = j then v else gi g a b d := rfl
theorem gl_ui (g : zG) (f i j : Nat) (v : Int32) (a : Nat) : gl (ui g f i j v) a = gl g a := rfl
theorem gn_ui (g : zG) (f i j : Nat) (v : Int32) (a : Nat) : gn (ui g f i j v) a = gn g a := rfl
theorem gi_ul (g : zG) (f : Nat) (v : Int64) (a b d : Nat) : gi (ul g f v) a b d = gi g a b d := rfl
theorem gl_ul (g : zG) (f : Nat) (v : Int64) (a : Nat) : gl (ul g f v) a = if a = f then v else gl g a := rfl
theorem gn_ul (g : zG) (f : Nat) (v : Int64) (a : Nat) : gn (ul g f v) a = gn g a := rfl
theorem gi_un (g : zG) (f : Nat) (v : Nat) (a b d : Nat) : gi (un g f v) a b d = gi g a b d := rfl
theorem gl_un (g : zG) (f : Nat) (v : Nat) (a : Nat) : gl (un g f v) a = gl g a := rfl
theorem gn_un (g : zG) (f : Nat) (v : Nat) (a : Nat) : gn (un g f v) a = if a = f then v else gn g a := rfl
/-- a value gets a name -/
def bd {α β : Type} (a : α) (f : α → β) : β := f a
/-- what must hold, else nothing is said -/
def gd (c : Prop) [Decidable c] {ρ : Type} (M : Option ρ) : Option ρ := if c then M else none
def inb (i : Int32) (n : Nat) : Bool := decide (¬ (i < 0 ∨ n ≤ i.toNatClampNeg))
def isb (r : Int32) : Bool := decide (r = 0 ∨ r = 1)
theorem gd_some {c : Prop} [Decidable c] {ρ : Type} {M : Option ρ} {x : ρ} (h : gd c M = some x) : c ∧ M = some x := by
  unfold gd at h
  by_cases hc : c
  · rw [if_pos hc] at h; exact ⟨hc, h⟩
  · rw [if_neg hc] at h; cases h
theorem inb_in {i : Int32} {n : Nat} (h : inb i n = true) : vp_in i n := of_decide_eq_true (p := ¬ (i < 0 ∨ n ≤ i.toNatClampNeg)) h
theorem isb_narrow {r : Int32} (h : isb r = true) : narrow .boolean (.int r) = .int r := by
  rcases of_decide_eq_true h with rfl | rfl <;> rfl
/-- how many locations of each kind -/
def dm (k : Nat) : Nat := if k = 4 then 34 else if k = 5 then 34 else if k = 6 then 34 else if k = 7 then 34 else if k = 8 then 34 else if k = 16 then 2 else if k = 17 then 2 else if k = 41 then 1 else if k = 42 then 1 else if k = 43 then 1 else if k = 44 then 1 else if k = 55 then 1 else if k = 60 then 1 else if k = 70 then 3 else if k = 71 then 12 else if k = 72 then 34 else if k = 73 then 2 else if k = 74 then 1 else if k = 75 then 1 else if k = 76 then 1 else if k = 77 then 1 else if k = 80 then 3 else if k = 81 then 2 else if k = 82 then 1 else if k = 100 then 1 else if k = 101 then 1 else if k = 102 then 1 else if k = 103 then 1 else if k = 104 then 1 else if k = 105 then 1 else if k = 106 then 1 else if k = 107 then 1 else if k = 108 then 1 else if k = 109 then 1 else if k = 110 then 1 else if k = 111 then 1 else if k = 112 then 1 else if k = 113 then 1 else 0
/-- lengths of rows by kind -/
def ln (k : Nat) : Nat := if k = 4 then 6 else if k = 5 then 6 else if k = 6 then 6 else if k = 7 then 3 else if k = 8 then 6 else if k = 16 then 3 else if k = 17 then 5 else if k = 41 then 6 else if k = 42 then 6 else if k = 43 then 6 else if k = 44 then 10 else if k = 55 then 120 else if k = 60 then 2 else if k = 100 then 6 else if k = 101 then 6 else if k = 102 then 6 else if k = 103 then 6 else if k = 104 then 6 else if k = 105 then 31 else if k = 106 then 310 else if k = 107 then 18 else if k = 108 then 120 else if k = 109 then 3 else if k = 110 then 30 else if k = 111 then 31 else if k = 112 then 684 else if k = 113 then 2 else if k = 200 then 5 else if k = 201 then 3 else if k = 202 then 3 else if k = 203 then 1 else if k = 204 then 1 else if k = 205 then 1 else if k = 206 then 1 else if k = 207 then 5 else if k = 208 then 6 else if k = 209 then 6 else 0
/-- what the written-out rows hold -/
def sc (k j : Nat) : Int32 := if k = 200 then (if j = 0 then 1 else if j = 1 then 1 else if j = 2 then 0 else if j = 3 then 0 else if j = 4 then 0 else 0) else if k = 201 then (if j = 0 then 0 else if j = 1 then 0 else if j = 2 then 0 else 0) else if k = 202 then (if j = 0 then 99 else if j = 1 then 99 else if j = 2 then 99 else 0) else if k = 203 then (if j = 0 then 0 else 0) else if k = 204 then (if j = 0 then 999 else 0) else if k = 205 then (if j = 0 then 1 else 0) else if k = 206 then (if j = 0 then 6 else 0) else if k = 207 then (if j = 0 then 9 else if j = 1 then 9 else if j = 2 then 1 else if j = 3 then 1 else if j = 4 then 2 else 0) else if k = 208 then (if j = 0 then (-9) else if j = 1 then 0 else if j = 2 then 0 else if j = 3 then 1 else if j = 4 then 2 else if j = 5 then 0 else 0) else if k = 209 then (if j = 0 then 1 else if j = 1 then 10 else if j = 2 then 100 else if j = 3 then 1000 else if j = 4 then 10000 else if j = 5 then 100000 else 0) else 0
def sname (k : Nat) : String := if k = 200 then "JOB_LEAST" else if k = 201 then "TRAYS_LEAST" else if k = 202 then "TRAYS_MOST" else if k = 203 then "TONER_TOLD_LEAST" else if k = 204 then "TONER_TOLD_MOST" else if k = 205 then "BINS_TOLD_LEAST" else if k = 206 then "BINS_TOLD_MOST" else if k = 207 then "JOB_MOST" else if k = 208 then "KIND_ABOVE" else if k = 209 then "KIND_TRACE" else ""
/-- a row of the class, or a written-out one -/
def xr (g : zG) (k i j : Nat) : Int32 := if 200 ≤ k then sc k j else gi g k i j
/-- what a location holds: x is the class' state, m the reference's -/
def cel (z : zE) (x m : zG) (k i : Nat) : va_E := if k = 70 then .inr (0, [.ref (za z 72 (11 * i)), .ref (za z 80 i), .int (gi x 30 i 0), .int (gi x 31 i 0)]) else if k = 71 then .inr (1, [.int (gi x 20 i 0), .int (gi x 21 i 0), .int (gi x 22 i 0), .int (gi x 23 i 0), .int (gi x 24 i 0), .int (gi x 25 i 0), .int (gi x 26 i 0)]) else if k = 72 then .inr (2, [.int (gi x 0 i 0), .int (gi x 1 i 0), .int (gi x 2 i 0), .int (gi x 3 i 0), .ref (za z 4 i), .ref (za z 5 i), .ref (za z 6 i), .ref (za z 7 i), .ref (za z 8 i)]) else if k = 73 then .inr (3, [.ref (za z 16 i), .int (gi x 10 i 0), .int (gi x 11 i 0), .ref (za z 81 i), .int (gi x 12 i 0), .ref (za z 17 i), .int (gi x 13 i 0), .int (gi x 14 i 0), .int (gi x 15 i 0)]) else if k = 74 then .inr (4, [.ref (za z 41 i), .ref (za z 42 i), .ref (za z 43 i), .int (gi x 40 i 0), .ref (za z 44 i)]) else if k = 75 then .inr (5, [.ref (za z 55 i), .int (gi x 50 i 0), .int (gi x 51 i 0), .int (gi x 52 i 0), .int (gi x 53 i 0), .int (gi x 54 i 0)]) else if k = 76 then .inr (6, [.ref (za z 75 0), .ref (za z 70 0), .ref (za z 72 33), .ref (za z 74 0), .ref (za z 82 0), .ref (za z 60 0), .ref (za z 73 (gn x 0)), .ref (za z 73 (gn x 1)), .long (gl x 0)]) else if k = 77 then .inr (7, [.ref (za z 100 0), .ref (za z 101 0), .ref (za z 102 0), .ref (za z 103 0), .ref (za z 104 0), .int (gi m 120 i 0), .int (gi m 121 i 0), .ref (za z 105 0), .ref (za z 106 0), .int (gi m 122 i 0), .ref (za z 107 0), .int (gi m 123 i 0), .long (gl m 0), .ref (za z 108 0), .int (gi m 124 i 0), .int (gi m 125 i 0), .int (gi m 126 i 0), .int (gi m 127 i 0), .int (gi m 128 i 0), .ref (za z 109 0), .int (gi m 129 i 0), .int (gi m 130 i 0), .ref (za z 110 0), .int (gi m 131 i 0), .int (gi m 132 i 0), .ref (za z 111 0), .ref (za z 112 0), .ref (za z 113 0)]) else if k = 80 then .inl (zc z 4, 10, .inr (.inr (.inr (.inr (fun j => if j < 10 then some (za z 72 (11 * i + 1 + j)) else none))))) else if k = 81 then .inl (zc z 3, 6, .inr (.inr (.inr (.inr (fun j => if j < 6 then some (za z 71 (6 * i + j)) else none))))) else if k = 82 then .inl (zc z 2, 2, .inr (.inr (.inr (.inr (fun j => if j < 2 then some (za z 70 (1 + j)) else none))))) else if k = 60 then .inl (zc z 1, 2, .inl (gi x 60 i)) else if k < 100 then .inl (zc z 0, ln k, .inl (gi x k i)) else .inl (zc z 0, ln k, .inl (gi m k i))
def upc (C : Nat → Nat → va_E) (k i : Nat) (e : va_E) : Nat → Nat → va_E := fun a b => if a = k ∧ b = i then e else C a b
abbrev wx (z : zE) (m : zG) : zG → Nat → Nat → va_E := fun g => cel z g m
abbrev wm (z : zE) (x : zG) : zG → Nat → Nat → va_E := fun g => cel z x g
/-- the heap holds the cells C, one a location, all of them new since the law began -/
def Wd (z : zE) (C : Nat → Nat → va_E) (H : Heap) : Prop := ∀ k i, i < dm k → va_at (zD z) vwCl (za z k i, C k i) H ∧ zN z ≤ za z k i
/-- the written-out rows, which nobody writes -/
def St (z : zE) (U : State) (H : Heap) : Prop := ∀ k, 200 ≤ k → k < 210 → va_Z "CopierJobs" (sname k) "[I" (.ref (za z k 0)) (zA z) U H ∧ va_T .int (za z k 0) (ln k) (fun j => .int (sc k j)) (zA z) U H
def zI (z : zE) : Prop := ∀ k i k' i', i < dm k → i' < dm k' → za z k i = za z k' i' → k = k' ∧ i = i'
def Cx (z : zE) (U : State) : Prop := va_K (zD z) vwCl (zT z) U ∧ (∀ w ∈ lw_nt, va_Nw w U) ∧ zI z ∧ zN z ≤ U.heap.size ∧ St z U U.heap
theorem nt_warm {s U : State} (hW : s.WarmedH U.vm) (h : ∀ w ∈ lw_nt, va_Nw w s) : ∀ w ∈ lw_nt, va_Nw w U := by
  intro w hw
  have h1 := h w hw
  have h2 := (List.mem_filter.mp hw).2
  cases w <;> first | exact va_Nw.warmF hW h1 | exact va_Nw.warmM hW h1 | (simp [lw_isN] at h2; done)
theorem nt_same {s U : State} (hW : s.vm = U.vm) (h : ∀ w ∈ lw_nt, va_Nw w s) : ∀ w ∈ lw_nt, va_Nw w U := by
  intro w hw
  have h1 := h w hw
  have h2 := (List.mem_filter.mp hw).2
  cases w <;> first | exact va_Nw.same rfl hW h1 | (simp [lw_isN] at h2; done)
theorem St.go {z : zE} {s U : State} {H : Heap} {locs : List Loc} (hW : s.vm.Alike U.vm) (hS : va_S (zA z) s.heap H locs) (h : St z s s.heap) : St z U H := fun k h1 h2 => ⟨((h k h1 h2).1.moved hW).kept hS.2.1, ((h k h1 h2).2.moved hW).kept hS.2.1⟩
theorem Cx.go {z : zE} {s U : State} {locs : List Loc} (hW : s.WarmedH U.vm) (hS : va_S (zA z) s.heap U.heap locs) (h : Cx z s) : Cx z U :=
  ⟨va_K.moved hW.alike h.1, nt_warm hW h.2.1, h.2.2.1, Nat.le_trans h.2.2.2.1 hS.1, h.2.2.2.2.go hW.alike hS⟩
theorem Cx.calling {z : zE} {U : State} {g : JFrame} {mk : MethodId} {a : Array Value} (h : Cx z U) : Cx z (U.calling g mk a) :=
  ⟨va_K.moved (u := U) (U := U.calling g mk a) (Vm.Alike.refl U.vm) h.1, nt_same (s := U) (U := U.calling g mk a) rfl h.2.1, h.2.2.1, h.2.2.2.1, St.go (s := U) (U := U.calling g mk a) (locs := []) (Vm.Alike.refl U.vm) va_S.rf h.2.2.2.2⟩
def FX (p : Program) (R : Room) (s : State) (m : MethodId) (args : Array Value) (c : Code) (cc : ByteArray) (nL : Nat) (own : String) (z : zE) (cells slots : Nat) : Prop := CallFix p m c cc nL s args lw_gt own ∧ Cx z s ∧ cells ≤ R.cells ∧ slots ≤ R.slots
/-- THE JUDGEMENT: at pc, with locals lv, stack st and state g, the machine comes to the end that the mirror M tells, if it tells one -/
def zJ (p : Program) (l : Launch) (e : Env) (R : Room) (s : State) (m : MethodId) (args : Array Value) (below : List Frame) (meth : Method) (c : Code) (cc : ByteArray) (nL : Nat) (own : String) (z : zE) (cells slots : Nat) {Γ ρ : Type} (Wf : Γ → Nat → Nat → va_E) (fin : ρ → Γ → List Value → Prop) (ri : Instr) (Q : ρ → State → Prop) (pc : Nat) (lv : List (Nat × Value)) (st : List Value) (g : Γ) (M : Option ρ) : Prop :=
  FX p R s m args c cc nL own z cells slots →
  (∀ (x : ρ) (g : Γ) (v : List Value), fin x g v → ∀ (H : Heap) (locs : List Loc) (ls : Array Slot) (pc : Nat), Wd z (Wf g) H → va_S (zA z) s.heap H locs → decode cc pc = .ok (ri, 1) → W p l e R s m args below meth c H locs cells slots (Q x) (F0 m pc ls v)) →
  ∀ x, M = some x → ∀ (H : Heap) (locs : List Loc) (ls : Array Slot), Wd z (Wf g) H → va_S (zA z) s.heap H locs → lv_has ls nL lv → W p l e R s m args below meth c H locs cells slots (Q x) (F0 m pc ls st)
section ZJ
variable {p : Program} {l : Launch} {e : Env} {R : Room} {s : State} {m : MethodId} {args : Array Value} {below : List Frame} {meth : Method} {c : Code} {cc : ByteArray} {nL : Nat} {own : String} {z : zE} {cells slots : Nat} {Γ ρ : Type} {Wf : Γ → Nat → Nat → va_E} {fin : ρ → Γ → List Value → Prop} {ri : Instr} {Q : ρ → State → Prop} {pc q : Nat} {lv : List (Nat × Value)} {st : List Value} {g : Γ} {M : Option ρ}
theorem j_none : zJ p l e R s m args below meth c cc nL own z cells slots Wf fin ri Q pc lv st g none := fun _ _ _ h => by cases h
theorem j_eq {M2 : Option ρ} (h : M = M2) (k : zJ p l e R s m args below meth c cc nL own z cells slots Wf fin ri Q pc lv st g M2) : zJ p l e R s m args below meth c cc nL own z cells slots Wf fin ri Q pc lv st g M := h ▸ k
theorem j_bd {α : Type} {a : α} {f : α → Option ρ} (k : zJ p l e R s m args below meth c cc nL own z cells slots Wf fin ri Q pc lv st g (f a)) : zJ p l e R s m args below meth c cc nL own z cells slots Wf fin ri Q pc lv st g (bd a f) := k
theorem j_top {a : Int32} {f : Int32 → Option ρ} (k : ∀ x : Int32, zJ p l e R s m args below meth c cc nL own z cells slots Wf fin ri Q pc lv (.int x :: st) g (f x)) : zJ p l e R s m args below meth c cc nL own z cells slots Wf fin ri Q pc lv (.int a :: st) g (bd a f) := k a
theorem j_topl {a : Int64} {f : Int64 → Option ρ} (k : ∀ x : Int64, zJ p l e R s m args below meth c cc nL own z cells slots Wf fin ri Q pc lv (.long x :: st) g (f x)) : zJ p l e R s m args below meth c cc nL own z cells slots Wf fin ri Q pc lv (.long a :: st) g (bd a f) := k a
theorem j_gd {a : Prop} [Decidable a] (k : a → zJ p l e R s m args below meth c cc nL own z cells slots Wf fin ri Q pc lv st g M) : zJ p l e R s m args below meth c cc nL own z cells slots Wf fin ri Q pc lv st g (gd a M) := fun hF hE x hx => k (gd_some hx).1 hF hE x (gd_some hx).2
theorem j_case {x v : Int32} {M1 M2 : Option ρ} (k1 : zJ p l e R s m args below meth c cc nL own z cells slots Wf fin ri Q pc lv (.int v :: st) g M1) (k2 : ¬ x = v → zJ p l e R s m args below meth c cc nL own z cells slots Wf fin ri Q pc lv (.int x :: st) g M2) : zJ p l e R s m args below meth c cc nL own z cells slots Wf fin ri Q pc lv (.int x :: st) g (if x = v then M1 else M2) := by
  by_cases h : x = v
  · rw [if_pos h]; exact h ▸ k1
  · rw [if_neg h]; exact k2 h
theorem j_ret {x : ρ} (d : decode cc pc = .ok (ri, 1)) (h : fin x g st) : zJ p l e R s m args below meth c cc nL own z cells slots Wf fin ri Q pc lv st g (some x) := fun _ hE y hy H locs ls hW hS _ => by
  cases hy
  exact hE x g st h H locs ls pc hW hS d
theorem j_retz {x : ρ} {r : Int32} (d : decode cc pc = .ok (ri, 1)) (h : isb r = true → fin x g st) : zJ p l e R s m args below meth c cc nL own z cells slots Wf fin ri Q pc lv st g (gd (isb r = true) (some x)) := j_gd (fun h2 => j_ret d (h h2))
theorem j_iadd {x y : Int32} (d : decode cc pc = .ok (.iadd, 1)) (hq : pc + 1 = q) (k : zJ p l e R s m args below meth c cc nL own z cells slots Wf fin ri Q q lv (.int (x + y) :: st) g M) : zJ p l e R s m args below meth c cc nL own z cells slots Wf fin ri Q pc lv (.int y :: .int x :: st) g M := by
  intro hF hE x9 hx9 H locs ls hW hS hl; subst hq; exact lv_iadd hF.1.1 hF.1.2.1 d (k hF hE x9 hx9 H locs ls hW hS hl)
theorem j_isub {x y : Int32} (d : decode cc pc = .ok (.isub, 1)) (hq : pc + 1 = q) (k : zJ p l e R s m args below meth c cc nL own z cells slots Wf fin ri Q q lv (.int (x - y) :: st) g M) : zJ p l e R s m args below meth c cc nL own z cells slots Wf fin ri Q pc lv (.int y :: .int x :: st) g M := by
  intro hF hE x9 hx9 H locs ls hW hS hl; subst hq; exact lv_isub hF.1.1 hF.1.2.1 d (k hF hE x9 hx9 H locs ls hW hS hl)
theorem j_imul {x y : Int32} (d : decode cc pc = .ok (.imul, 1)) (hq : pc + 1 = q) (k : zJ p l e R s m args below meth c cc nL own z cells slots Wf fin ri Q q lv (.int (x * y) :: st) g M) : zJ p l e R s m args below meth c cc nL own z cells slots Wf fin ri Q pc lv (.int y :: .int x :: st) g M := by
  intro hF hE x9 hx9 H locs ls hW hS hl; subst hq; exact lv_imul hF.1.1 hF.1.2.1 d (k hF hE x9 hx9 H locs ls hW hS hl)
theorem j_iand {x y : Int32} (d : decode cc pc = .ok (.iand, 1)) (hq : pc + 1 = q) (k : zJ p l e R s m args below meth c cc nL own z cells slots Wf fin ri Q q lv (.int (x &&& y) :: st) g M) : zJ p l e R s m args below meth c cc nL own z cells slots Wf fin ri Q pc lv (.int y :: .int x :: st) g M := by
  intro hF hE x9 hx9 H locs ls hW hS hl; subst hq; exact lv_iand hF.1.1 hF.1.2.1 d (k hF hE x9 hx9 H locs ls hW hS hl)
theorem j_ior {x y : Int32} (d : decode cc pc = .ok (.ior, 1)) (hq : pc + 1 = q) (k : zJ p l e R s m args below meth c cc nL own z cells slots Wf fin ri Q q lv (.int (x ||| y) :: st) g M) : zJ p l e R s m args below meth c cc nL own z cells slots Wf fin ri Q pc lv (.int y :: .int x :: st) g M := by
  intro hF hE x9 hx9 H locs ls hW hS hl; subst hq; exact lv_ior hF.1.1 hF.1.2.1 d (k hF hE x9 hx9 H locs ls hW hS hl)
theorem j_ixor {x y : Int32} (d : decode cc pc = .ok (.ixor, 1)) (hq : pc + 1 = q) (k : zJ p l e R s m args below meth c cc nL own z cells slots Wf fin ri Q q lv (.int (x ^^^ y) :: st) g M) : zJ p l e R s m args below meth c cc nL own z cells slots Wf fin ri Q pc lv (.int y :: .int x :: st) g M := by
  intro hF hE x9 hx9 H locs ls hW hS hl; subst hq; exact lv_ixor hF.1.1 hF.1.2.1 d (k hF hE x9 hx9 H locs ls hW hS hl)
theorem j_ishl {x y : Int32} (d : decode cc pc = .ok (.ishl, 1)) (hq : pc + 1 = q) (k : zJ p l e R s m args below meth c cc nL own z cells slots Wf fin ri Q q lv (.int (x <<< (y &&& 31)) :: st) g M) : zJ p l e R s m args below meth c cc nL own z cells slots Wf fin ri Q pc lv (.int y :: .int x :: st) g M := by
  intro hF hE x9 hx9 H locs ls hW hS hl; subst hq; exact lv_ishl hF.1.1 hF.1.2.1 d (k hF hE x9 hx9 H locs ls hW hS hl)
theorem j_ishr {x y : Int32} (d : decode cc pc = .ok (.ishr, 1)) (hq : pc + 1 = q) (k : zJ p l e R s m args below meth c cc nL own z cells slots Wf fin ri Q q lv (.int (x >>> (y &&& 31)) :: st) g M) : zJ p l e R s m args below meth c cc nL own z cells slots Wf fin ri Q pc lv (.int y :: .int x :: st) g M := by
  intro hF hE x9 hx9 H locs ls hW hS hl; subst hq; exact lv_ishr hF.1.1 hF.1.2.1 d (k hF hE x9 hx9 H locs ls hW hS hl)
theorem j_iushr {x y : Int32} (d : decode cc pc = .ok (.iushr, 1)) (hq : pc + 1 = q) (k : zJ p l e R s m args below meth c cc nL own z cells slots Wf fin ri Q q lv (.int ((x.toUInt32 >>> (y.toUInt32 &&& Int32.toUInt32 31)).toInt32) :: st) g M) : zJ p l e R s m args below meth c cc nL own z cells slots Wf fin ri Q pc lv (.int y :: .int x :: st) g M := by
  intro hF hE x9 hx9 H locs ls hW hS hl; subst hq; exact lv_iushr hF.1.1 hF.1.2.1 d rfl (k hF hE x9 hx9 H locs ls hW hS hl)
theorem j_ineg {x : Int32} (d : decode cc pc = .ok (.ineg, 1)) (hq : pc + 1 = q) (k : zJ p l e R s m args below meth c cc nL own z cells slots Wf fin ri Q q lv (.int (-x) :: st) g M) : zJ p l e R s m args below meth c cc nL own z cells slots Wf fin ri Q pc lv (.int x :: st) g M := by
  intro hF hE x9 hx9 H locs ls hW hS hl; subst hq; exact lv_ineg hF.1.1 hF.1.2.1 d (k hF hE x9 hx9 H locs ls hW hS hl)
theorem j_ladd {x y : Int64} (d : decode cc pc = .ok (.ladd, 1)) (hq : pc + 1 = q) (k : zJ p l e R s m args below meth c cc nL own z cells slots Wf fin ri Q q lv (.long (x + y) :: st) g M) : zJ p l e R s m args below meth c cc nL own z cells slots Wf fin ri Q pc lv (.long y :: .long x :: st) g M := by
  intro hF hE x9 hx9 H locs ls hW hS hl; subst hq; exact lv_ladd hF.1.1 hF.1.2.1 d (k hF hE x9 hx9 H locs ls hW hS hl)
theorem j_lsub {x y : Int64} (d : decode cc pc = .ok (.lsub, 1)) (hq : pc + 1 = q) (k : zJ p l e R s m args below meth c cc nL own z cells slots Wf fin ri Q q lv (.long (x - y) :: st) g M) : zJ p l e R s m args below meth c cc nL own z cells slots Wf fin ri Q pc lv (.long y :: .long x :: st) g M := by
  intro hF hE x9 hx9 H locs ls hW hS hl; subst hq; exact lv_lsub hF.1.1 hF.1.2.1 d (k hF hE x9 hx9 H locs ls hW hS hl)
theorem j_lmul {x y : Int64} (d : decode cc pc = .ok (.lmul, 1)) (hq : pc + 1 = q) (k : zJ p l e R s m args below meth c cc nL own z cells slots Wf fin ri Q q lv (.long (x * y) :: st) g M) : zJ p l e R s m args below meth c cc nL own z cells slots Wf fin ri Q pc lv (.long y :: .long x :: st) g M := by
  intro hF hE x9 hx9 H locs ls hW hS hl; subst hq; exact lv_lmul hF.1.1 hF.1.2.1 d (k hF hE x9 hx9 H locs ls hW hS hl)
theorem j_i2l {x : Int32} (d : decode cc pc = .ok (.i2l, 1)) (hq : pc + 1 = q) (k : zJ p l e R s m args below meth c cc nL own z cells slots Wf fin ri Q q lv (.long (x.toInt64) :: st) g M) : zJ p l e R s m args below meth c cc nL own z cells slots Wf fin ri Q pc lv (.int x :: st) g M := by
  intro hF hE x9 hx9 H locs ls hW hS hl; subst hq; exact lv_i2l hF.1.1 hF.1.2.1 d rfl (k hF hE x9 hx9 H locs ls hW hS hl)
theorem j_l2i {x : Int64} (d : decode cc pc = .ok (.l2i, 1)) (hq : pc + 1 = q) (k : zJ p l e R s m args below meth c cc nL own z cells slots Wf fin ri Q q lv (.int (x.toInt32) :: st) g M) : zJ p l e R s m args below meth c cc nL own z cells slots Wf fin ri Q pc lv (.long x :: st) g M := by
  intro hF hE x9 hx9 H locs ls hW hS hl; subst hq; exact lv_l2i hF.1.1 hF.1.2.1 d rfl (k hF hE x9 hx9 H locs ls hW hS hl)
theorem j_lcmp {x y : Int64} (d : decode cc pc = .ok (.lcmp, 1)) (hq : pc + 1 = q) (k : zJ p l e R s m args below meth c cc nL own z cells slots Wf fin ri Q q lv (.int (lg_cmp x y) :: st) g M) : zJ p l e R s m args below meth c cc nL own z cells slots Wf fin ri Q pc lv (.long y :: .long x :: st) g M := by
  intro hF hE x9 hx9 H locs ls hW hS hl; subst hq; exact W.lcmp hF.1.1 hF.1.2.1 d (k hF hE x9 hx9 H locs ls hW hS hl)
theorem j_iconst {n : Int} {v : Int32} (d : decode cc pc = .ok (.iconst n, 1)) (hv : Int32.ofInt n = v) (hq : pc + 1 = q) (k : zJ p l e R s m args below meth c cc nL own z cells slots Wf fin ri Q q lv (.int v :: st) g M) : zJ p l e R s m args below meth c cc nL own z cells slots Wf fin ri Q pc lv (st) g M := by
  intro hF hE x9 hx9 H locs ls hW hS hl; subst hq; exact lv_iconst hF.1.1 hF.1.2.1 d hv (k hF hE x9 hx9 H locs ls hW hS hl)
theorem j_bipush {n : Int} {v : Int32} (d : decode cc pc = .ok (.bipush n, 2)) (hv : (Int8.ofInt n).toInt32 = v) (hq : pc + 2 = q) (k : zJ p l e R s m args below meth c cc nL own z cells slots Wf fin ri Q q lv (.int v :: st) g M) : zJ p l e R s m args below meth c cc nL own z cells slots Wf fin ri Q pc lv (st) g M := by
  intro hF hE x9 hx9 H locs ls hW hS hl; subst hq; exact lv_bipush hF.1.1 hF.1.2.1 d hv (k hF hE x9 hx9 H locs ls hW hS hl)
theorem j_sipush {n : Int} {v : Int32} (d : decode cc pc = .ok (.sipush n, 3)) (hv : (Int16.ofInt n).toInt32 = v) (hq : pc + 3 = q) (k : zJ p l e R s m args below meth c cc nL own z cells slots Wf fin ri Q q lv (.int v :: st) g M) : zJ p l e R s m args below meth c cc nL own z cells slots Wf fin ri Q pc lv (st) g M := by
  intro hF hE x9 hx9 H locs ls hW hS hl; subst hq; exact lv_sipush hF.1.1 hF.1.2.1 d hv (k hF hE x9 hx9 H locs ls hW hS hl)
theorem j_lconst {n : Fin 2} {v : Int64} (d : decode cc pc = .ok (.lconst n, 1)) (hv : Int64.ofNat (n : Nat) = v) (hq : pc + 1 = q) (k : zJ p l e R s m args below meth c cc nL own z cells slots Wf fin ri Q q lv (.long v :: st) g M) : zJ p l e R s m args below meth c cc nL own z cells slots Wf fin ri Q pc lv (st) g M := by
  intro hF hE x9 hx9 H locs ls hW hS hl; subst hq; exact lv_lconst hF.1.1 hF.1.2.1 d hv (k hF hE x9 hx9 H locs ls hW hS hl)
theorem j_dup {va : Value} (d : decode cc pc = .ok (.dup, 1)) (hc : va.category = 1) (hq : pc + 1 = q) (k : zJ p l e R s m args below meth c cc nL own z cells slots Wf fin ri Q q lv (va :: va :: st) g M) : zJ p l e R s m args below meth c cc nL own z cells slots Wf fin ri Q pc lv (va :: st) g M := by
  intro hF hE x9 hx9 H locs ls hW hS hl; subst hq; exact lv_dup hF.1.1 hF.1.2.1 d hc (k hF hE x9 hx9 H locs ls hW hS hl)
theorem j_pop {va : Value} (d : decode cc pc = .ok (.pop, 1)) (hc : va.category = 1) (hq : pc + 1 = q) (k : zJ p l e R s m args below meth c cc nL own z cells slots Wf fin ri Q q lv (st) g M) : zJ p l e R s m args below meth c cc nL own z cells slots Wf fin ri Q pc lv (va :: st) g M := by
  intro hF hE x9 hx9 H locs ls hW hS hl; subst hq; exact lv_pop hF.1.1 hF.1.2.1 d hc (k hF hE x9 hx9 H locs ls hW hS hl)
theorem j_dup2 {va vb : Value} (d : decode cc pc = .ok (.dup2, 1)) (hc : va.category = 1) (hd : vb.category = 1) (hq : pc + 1 = q) (k : zJ p l e R s m args below meth c cc nL own z cells slots Wf fin ri Q q lv (va :: vb :: va :: vb :: st) g M) : zJ p l e R s m args below meth c cc nL own z cells slots Wf fin ri Q pc lv (va :: vb :: st) g M := by
  intro hF hE x9 hx9 H locs ls hW hS hl; subst hq; exact lv_dup2_11 hF.1.1 hF.1.2.1 d hc hd (k hF hE x9 hx9 H locs ls hW hS hl)
theorem j_null  (d : decode cc pc = .ok (.aconst_null, 1)) (hq : pc + 1 = q) (k : zJ p l e R s m args below meth c cc nL own z cells slots Wf fin ri Q q lv (.null :: st) g M) : zJ p l e R s m args below meth c cc nL own z cells slots Wf fin ri Q pc lv (st) g M := by
  intro hF hE x9 hx9 H locs ls hW hS hl; subst hq; exact lv_null hF.1.1 hF.1.2.1 d (k hF hE x9 hx9 H locs ls hW hS hl)
theorem j_iload_n {kf : Fin 4} {n i : Nat} {x : Int32} (d : decode cc pc = .ok (.iload_n kf, 1)) (hn : (kf : Nat) = n) (h : lv[i]? = some (n, .int x)) (hq : pc + 1 = q) (k : zJ p l e R s m args below meth c cc nL own z cells slots Wf fin ri Q q lv (.int x :: st) g M) : zJ p l e R s m args below meth c cc nL own z cells slots Wf fin ri Q pc lv st g M := by
  intro hF hE x9 hx9 H locs ls hW hS hl; subst hq; exact lv_iload_n hF.1.1 hF.1.2.1 d hn (lv_at hl i h) (k hF hE x9 hx9 H locs ls hW hS hl)
theorem j_iload {n i : Nat} {x : Int32} (d : decode cc pc = .ok (.iload n, 2)) (h : lv[i]? = some (n, .int x)) (hq : pc + 2 = q) (k : zJ p l e R s m args below meth c cc nL own z cells slots Wf fin ri Q q lv (.int x :: st) g M) : zJ p l e R s m args below meth c cc nL own z cells slots Wf fin ri Q pc lv st g M := by
  intro hF hE x9 hx9 H locs ls hW hS hl; subst hq; exact lv_iload hF.1.1 hF.1.2.1 d (lv_at hl i h) (k hF hE x9 hx9 H locs ls hW hS hl)
theorem j_istore_n {kf : Fin 4} {n : Nat} {x : Int32} {lv' : List (Nat × Value)} (d : decode cc pc = .ok (.istore_n kf, 1)) (hn : (kf : Nat) = n) (hb : n < nL) (h : (n, Value.int x) :: lv.filter (fun q => !(q.1 == n) && !(q.1 + 1 == n && q.2.category == 2)) = lv') (hq : pc + 1 = q) (k : zJ p l e R s m args below meth c cc nL own z cells slots Wf fin ri Q q lv' st g M) : zJ p l e R s m args below meth c cc nL own z cells slots Wf fin ri Q pc lv (.int x :: st) g M := by
  intro hF hE x9 hx9 H locs ls hW hS hl; subst hq; exact lv_istore_n hF.1.1 hF.1.2.1 d hn hl hb h (fun ls hl => k hF hE x9 hx9 H locs ls hW hS hl)
theorem j_istore {n : Nat} {x : Int32} {lv' : List (Nat × Value)} (d : decode cc pc = .ok (.istore n, 2)) (hb : n < nL) (h : (n, Value.int x) :: lv.filter (fun q => !(q.1 == n) && !(q.1 + 1 == n && q.2.category == 2)) = lv') (hq : pc + 2 = q) (k : zJ p l e R s m args below meth c cc nL own z cells slots Wf fin ri Q q lv' st g M) : zJ p l e R s m args below meth c cc nL own z cells slots Wf fin ri Q pc lv (.int x :: st) g M := by
  intro hF hE x9 hx9 H locs ls hW hS hl; subst hq; exact lv_istore hF.1.1 hF.1.2.1 d hl hb h (fun ls hl => k hF hE x9 hx9 H locs ls hW hS hl)
theorem j_lload_n {kf : Fin 4} {n i : Nat} {x : Int64} (d : decode cc pc = .ok (.lload_n kf, 1)) (hn : (kf : Nat) = n) (h : lv[i]? = some (n, .long x)) (hq : pc + 1 = q) (k : zJ p l e R s m args below meth c cc nL own z cells slots Wf fin ri Q q lv (.long x :: st) g M) : zJ p l e R s m args below meth c cc nL own z cells slots Wf fin ri Q pc lv st g M := by
  intro hF hE x9 hx9 H locs ls hW hS hl; subst hq; exact lv_lload_n hF.1.1 hF.1.2.1 d hn (lv_at hl i h) (k hF hE x9 hx9 H locs ls hW hS hl)
theorem j_lload {n i : Nat} {x : Int64} (d : decode cc pc = .ok (.lload n, 2)) (h : lv[i]? = some (n, .long x)) (hq : pc + 2 = q) (k : zJ p l e R s m args below meth c cc nL own z cells slots Wf fin ri Q q lv (.long x :: st) g M) : zJ p l e R s m args below meth c cc nL own z cells slots Wf fin ri Q pc lv st g M := by
  intro hF hE x9 hx9 H locs ls hW hS hl; subst hq; exact lv_lload hF.1.1 hF.1.2.1 d (lv_at hl i h) (k hF hE x9 hx9 H locs ls hW hS hl)
theorem j_lstore_n {kf : Fin 4} {n : Nat} {x : Int64} {lv' : List (Nat × Value)} (d : decode cc pc = .ok (.lstore_n kf, 1)) (hn : (kf : Nat) = n) (hb : n + 1 < nL) (h : (n, Value.long x) :: lv.filter (fun q => !(q.1 == n) && (!(q.1 == n + 1) && !(q.1 + 1 == n && q.2.category == 2))) = lv') (hq : pc + 1 = q) (k : zJ p l e R s m args below meth c cc nL own z cells slots Wf fin ri Q q lv' st g M) : zJ p l e R s m args below meth c cc nL own z cells slots Wf fin ri Q pc lv (.long x :: st) g M := by
  intro hF hE x9 hx9 H locs ls hW hS hl; subst hq; exact lv_lstore_n hF.1.1 hF.1.2.1 d hn hl hb h (fun ls hl => k hF hE x9 hx9 H locs ls hW hS hl)
theorem j_lstore {n : Nat} {x : Int64} {lv' : List (Nat × Value)} (d : decode cc pc = .ok (.lstore n, 2)) (hb : n + 1 < nL) (h : (n, Value.long x) :: lv.filter (fun q => !(q.1 == n) && (!(q.1 == n + 1) && !(q.1 + 1 == n && q.2.category == 2))) = lv') (hq : pc + 2 = q) (k : zJ p l e R s m args below meth c cc nL own z cells slots Wf fin ri Q q lv' st g M) : zJ p l e R s m args below meth c cc nL own z cells slots Wf fin ri Q pc lv (.long x :: st) g M := by
  intro hF hE x9 hx9 H locs ls hW hS hl; subst hq; exact lv_lstore hF.1.1 hF.1.2.1 d hl hb h (fun ls hl => k hF hE x9 hx9 H locs ls hW hS hl)
theorem j_aload_n {kf : Fin 4} {n i : Nat} {x : Nat} (d : decode cc pc = .ok (.aload_n kf, 1)) (hn : (kf : Nat) = n) (h : lv[i]? = some (n, .ref x)) (hq : pc + 1 = q) (k : zJ p l e R s m args below meth c cc nL own z cells slots Wf fin ri Q q lv (.ref x :: st) g M) : zJ p l e R s m args below meth c cc nL own z cells slots Wf fin ri Q pc lv st g M := by
  intro hF hE x9 hx9 H locs ls hW hS hl; subst hq; exact lv_aload_n hF.1.1 hF.1.2.1 d hn (lv_at hl i h) (k hF hE x9 hx9 H locs ls hW hS hl)
theorem j_aload {n i : Nat} {x : Nat} (d : decode cc pc = .ok (.aload n, 2)) (h : lv[i]? = some (n, .ref x)) (hq : pc + 2 = q) (k : zJ p l e R s m args below meth c cc nL own z cells slots Wf fin ri Q q lv (.ref x :: st) g M) : zJ p l e R s m args below meth c cc nL own z cells slots Wf fin ri Q pc lv st g M := by
  intro hF hE x9 hx9 H locs ls hW hS hl; subst hq; exact lv_aload hF.1.1 hF.1.2.1 d (lv_at hl i h) (k hF hE x9 hx9 H locs ls hW hS hl)
theorem j_astore_n {kf : Fin 4} {n : Nat} {x : Nat} {lv' : List (Nat × Value)} (d : decode cc pc = .ok (.astore_n kf, 1)) (hn : (kf : Nat) = n) (hb : n < nL) (h : (n, Value.ref x) :: lv.filter (fun q => !(q.1 == n) && !(q.1 + 1 == n && q.2.category == 2)) = lv') (hq : pc + 1 = q) (k : zJ p l e R s m args below meth c cc nL own z cells slots Wf fin ri Q q lv' st g M) : zJ p l e R s m args below meth c cc nL own z cells slots Wf fin ri Q pc lv (.ref x :: st) g M := by
  intro hF hE x9 hx9 H locs ls hW hS hl; subst hq; exact lv_astore_n hF.1.1 hF.1.2.1 d hn hl hb h (fun ls hl => k hF hE x9 hx9 H locs ls hW hS hl)
theorem j_astore {n : Nat} {x : Nat} {lv' : List (Nat × Value)} (d : decode cc pc = .ok (.astore n, 2)) (hb : n < nL) (h : (n, Value.ref x) :: lv.filter (fun q => !(q.1 == n) && !(q.1 + 1 == n && q.2.category == 2)) = lv') (hq : pc + 2 = q) (k : zJ p l e R s m args below meth c cc nL own z cells slots Wf fin ri Q q lv' st g M) : zJ p l e R s m args below meth c cc nL own z cells slots Wf fin ri Q pc lv (.ref x :: st) g M := by
  intro hF hE x9 hx9 H locs ls hW hS hl; subst hq; exact lv_astore hF.1.1 hF.1.2.1 d hl hb h (fun ls hl => k hF hE x9 hx9 H locs ls hW hS hl)
theorem j_iinc {n i : Nat} {w : Int} {x v : Int32} {lv' : List (Nat × Value)} (d : decode cc pc = .ok (.iinc n w, 3)) (hk : lv[i]? = some (n, .int x)) (hv : x + Int32.ofInt w = v) (hb : n < nL) (h : (n, Value.int v) :: lv.filter (fun q => !(q.1 == n) && !(q.1 + 1 == n && q.2.category == 2)) = lv') (hq : pc + 3 = q) (k : zJ p l e R s m args below meth c cc nL own z cells slots Wf fin ri Q q lv' st g M) : zJ p l e R s m args below meth c cc nL own z cells slots Wf fin ri Q pc lv st g M := by
  intro hF hE x9 hx9 H locs ls hW hS hl; subst hq; exact lv_iinc hF.1.1 hF.1.2.1 d hl hk hv hb h (fun ls hl => k hF hE x9 hx9 H locs ls hW hS hl)
theorem j_idiv {x y : Int32} (d : decode cc pc = .ok (.idiv, 1)) (hq : pc + 1 = q) (k : zJ p l e R s m args below meth c cc nL own z cells slots Wf fin ri Q q lv (.int (x / y) :: st) g M) : zJ p l e R s m args below meth c cc nL own z cells slots Wf fin ri Q pc lv (.int y :: .int x :: st) g (gd (¬ y = 0) M) := by
  intro hF hE x9 hx9 H locs ls hW hS hl; subst hq
  exact lv_idiv hF.1.1 hF.1.2.1 d (gd_some hx9).1 (k hF hE x9 (gd_some hx9).2 H locs ls hW hS hl)
theorem j_irem {x y : Int32} (d : decode cc pc = .ok (.irem, 1)) (hq : pc + 1 = q) (k : zJ p l e R s m args below meth c cc nL own z cells slots Wf fin ri Q q lv (.int (x - x / y * y) :: st) g M) : zJ p l e R s m args below meth c cc nL own z cells slots Wf fin ri Q pc lv (.int y :: .int x :: st) g (gd (¬ y = 0) M) := by
  intro hF hE x9 hx9 H locs ls hW hS hl; subst hq
  exact lv_irem hF.1.1 hF.1.2.1 d (gd_some hx9).1 (k hF hE x9 (gd_some hx9).2 H locs ls hW hS hl)
theorem j_ldiv {x y : Int64} (d : decode cc pc = .ok (.ldiv, 1)) (hq : pc + 1 = q) (k : zJ p l e R s m args below meth c cc nL own z cells slots Wf fin ri Q q lv (.long (x / y) :: st) g M) : zJ p l e R s m args below meth c cc nL own z cells slots Wf fin ri Q pc lv (.long y :: .long x :: st) g (gd (¬ y = 0) M) := by
  intro hF hE x9 hx9 H locs ls hW hS hl; subst hq
  exact lv_ldiv hF.1.1 hF.1.2.1 d (gd_some hx9).1 (k hF hE x9 (gd_some hx9).2 H locs ls hW hS hl)
theorem j_lrem {x y : Int64} (d : decode cc pc = .ok (.lrem, 1)) (hq : pc + 1 = q) (k : zJ p l e R s m args below meth c cc nL own z cells slots Wf fin ri Q q lv (.long (x - x / y * y) :: st) g M) : zJ p l e R s m args below meth c cc nL own z cells slots Wf fin ri Q pc lv (.long y :: .long x :: st) g (gd (¬ y = 0) M) := by
  intro hF hE x9 hx9 H locs ls hW hS hl; subst hq
  exact lv_lrem hF.1.1 hF.1.2.1 d (gd_some hx9).1 (k hF hE x9 (gd_some hx9).2 H locs ls hW hS hl)
theorem j_icmp_eq {x y : Int32} {off : Int} {tgt : Nat} {M1 M2 : Option ρ} (d : decode cc pc = .ok (.if_icmp .eq off, 3)) (ht : (pc : Int) + off = (tgt : Int)) (hq : pc + 3 = q) (kt : zJ p l e R s m args below meth c cc nL own z cells slots Wf fin ri Q tgt lv st g M1) (kf : zJ p l e R s m args below meth c cc nL own z cells slots Wf fin ri Q q lv st g M2) : zJ p l e R s m args below meth c cc nL own z cells slots Wf fin ri Q pc lv (.int y :: .int x :: st) g (if x = y then M1 else M2) := by
  intro hF hE x9 hx9 H locs ls hW hS hl; subst hq
  exact lv_icmp_eq hF.1.1 hF.1.2.1 d ht (fun h => kt hF hE x9 (by rw [if_pos h] at hx9; exact hx9) H locs ls hW hS hl) (fun h => kf hF hE x9 (by rw [if_neg h] at hx9; exact hx9) H locs ls hW hS hl)
theorem j_icmp_ne {x y : Int32} {off : Int} {tgt : Nat} {M1 M2 : Option ρ} (d : decode cc pc = .ok (.if_icmp .ne off, 3)) (ht : (pc : Int) + off = (tgt : Int)) (hq : pc + 3 = q) (kt : zJ p l e R s m args below meth c cc nL own z cells slots Wf fin ri Q tgt lv st g M1) (kf : zJ p l e R s m args below meth c cc nL own z cells slots Wf fin ri Q q lv st g M2) : zJ p l e R s m args below meth c cc nL own z cells slots Wf fin ri Q pc lv (.int y :: .int x :: st) g (if x = y then M2 else M1) := by
  intro hF hE x9 hx9 H locs ls hW hS hl; subst hq
  exact lv_icmp_ne hF.1.1 hF.1.2.1 d ht (fun h => kt hF hE x9 (by rw [if_neg h] at hx9; exact hx9) H locs ls hW hS hl) (fun h => kf hF hE x9 (by rw [if_pos h] at hx9; exact hx9) H locs ls hW hS hl)
theorem j_icmp_lt {x y : Int32} {off : Int} {tgt : Nat} {M1 M2 : Option ρ} (d : decode cc pc = .ok (.if_icmp .lt off, 3)) (ht : (pc : Int) + off = (tgt : Int)) (hq : pc + 3 = q) (kt : zJ p l e R s m args below meth c cc nL own z cells slots Wf fin ri Q tgt lv st g M1) (kf : zJ p l e R s m args below meth c cc nL own z cells slots Wf fin ri Q q lv st g M2) : zJ p l e R s m args below meth c cc nL own z cells slots Wf fin ri Q pc lv (.int y :: .int x :: st) g (if x < y then M1 else M2) := by
  intro hF hE x9 hx9 H locs ls hW hS hl; subst hq
  exact lv_icmp_lt hF.1.1 hF.1.2.1 d ht (fun h => kt hF hE x9 (by rw [if_pos h] at hx9; exact hx9) H locs ls hW hS hl) (fun h => kf hF hE x9 (by rw [if_neg h] at hx9; exact hx9) H locs ls hW hS hl)
theorem j_icmp_ge {x y : Int32} {off : Int} {tgt : Nat} {M1 M2 : Option ρ} (d : decode cc pc = .ok (.if_icmp .ge off, 3)) (ht : (pc : Int) + off = (tgt : Int)) (hq : pc + 3 = q) (kt : zJ p l e R s m args below meth c cc nL own z cells slots Wf fin ri Q tgt lv st g M1) (kf : zJ p l e R s m args below meth c cc nL own z cells slots Wf fin ri Q q lv st g M2) : zJ p l e R s m args below meth c cc nL own z cells slots Wf fin ri Q pc lv (.int y :: .int x :: st) g (if x < y then M2 else M1) := by
  intro hF hE x9 hx9 H locs ls hW hS hl; subst hq
  exact lv_icmp_ge hF.1.1 hF.1.2.1 d ht (fun h => kt hF hE x9 (by rw [if_neg (Int32.not_lt.mpr h)] at hx9; exact hx9) H locs ls hW hS hl) (fun h => kf hF hE x9 (by rw [if_pos (Int32.not_le.mp h)] at hx9; exact hx9) H locs ls hW hS hl)
theorem j_icmp_gt {x y : Int32} {off : Int} {tgt : Nat} {M1 M2 : Option ρ} (d : decode cc pc = .ok (.if_icmp .gt off, 3)) (ht : (pc : Int) + off = (tgt : Int)) (hq : pc + 3 = q) (kt : zJ p l e R s m args below meth c cc nL own z cells slots Wf fin ri Q tgt lv st g M1) (kf : zJ p l e R s m args below meth c cc nL own z cells slots Wf fin ri Q q lv st g M2) : zJ p l e R s m args below meth c cc nL own z cells slots Wf fin ri Q pc lv (.int y :: .int x :: st) g (if y < x then M1 else M2) := by
  intro hF hE x9 hx9 H locs ls hW hS hl; subst hq
  exact lv_icmp_gt hF.1.1 hF.1.2.1 d ht (fun h => kt hF hE x9 (by rw [if_pos h] at hx9; exact hx9) H locs ls hW hS hl) (fun h => kf hF hE x9 (by rw [if_neg h] at hx9; exact hx9) H locs ls hW hS hl)
theorem j_icmp_le {x y : Int32} {off : Int} {tgt : Nat} {M1 M2 : Option ρ} (d : decode cc pc = .ok (.if_icmp .le off, 3)) (ht : (pc : Int) + off = (tgt : Int)) (hq : pc + 3 = q) (kt : zJ p l e R s m args below meth c cc nL own z cells slots Wf fin ri Q tgt lv st g M1) (kf : zJ p l e R s m args below meth c cc nL own z cells slots Wf fin ri Q q lv st g M2) : zJ p l e R s m args below meth c cc nL own z cells slots Wf fin ri Q pc lv (.int y :: .int x :: st) g (if y < x then M2 else M1) := by
  intro hF hE x9 hx9 H locs ls hW hS hl; subst hq
  exact lv_icmp_le hF.1.1 hF.1.2.1 d ht (fun h => kt hF hE x9 (by rw [if_neg (Int32.not_lt.mpr h)] at hx9; exact hx9) H locs ls hW hS hl) (fun h => kf hF hE x9 (by rw [if_pos (Int32.not_le.mp h)] at hx9; exact hx9) H locs ls hW hS hl)
theorem j_if_eq {x : Int32} {off : Int} {tgt : Nat} {M1 M2 : Option ρ} (d : decode cc pc = .ok (.ifCond .eq off, 3)) (ht : (pc : Int) + off = (tgt : Int)) (hq : pc + 3 = q) (kt : zJ p l e R s m args below meth c cc nL own z cells slots Wf fin ri Q tgt lv st g M1) (kf : zJ p l e R s m args below meth c cc nL own z cells slots Wf fin ri Q q lv st g M2) : zJ p l e R s m args below meth c cc nL own z cells slots Wf fin ri Q pc lv (.int x :: st) g (if x = 0 then M1 else M2) := by
  intro hF hE x9 hx9 H locs ls hW hS hl; subst hq
  exact lv_if_eq hF.1.1 hF.1.2.1 d ht (fun h => kt hF hE x9 (by rw [if_pos h] at hx9; exact hx9) H locs ls hW hS hl) (fun h => kf hF hE x9 (by rw [if_neg h] at hx9; exact hx9) H locs ls hW hS hl)
theorem j_if_ne {x : Int32} {off : Int} {tgt : Nat} {M1 M2 : Option ρ} (d : decode cc pc = .ok (.ifCond .ne off, 3)) (ht : (pc : Int) + off = (tgt : Int)) (hq : pc + 3 = q) (kt : zJ p l e R s m args below meth c cc nL own z cells slots Wf fin ri Q tgt lv st g M1) (kf : zJ p l e R s m args below meth c cc nL own z cells slots Wf fin ri Q q lv st g M2) : zJ p l e R s m args below meth c cc nL own z cells slots Wf fin ri Q pc lv (.int x :: st) g (if x = 0 then M2 else M1) := by
  intro hF hE x9 hx9 H locs ls hW hS hl; subst hq
  exact lv_if_ne hF.1.1 hF.1.2.1 d ht (fun h => kt hF hE x9 (by rw [if_neg h] at hx9; exact hx9) H locs ls hW hS hl) (fun h => kf hF hE x9 (by rw [if_pos h] at hx9; exact hx9) H locs ls hW hS hl)
theorem j_if_lt {x : Int32} {off : Int} {tgt : Nat} {M1 M2 : Option ρ} (d : decode cc pc = .ok (.ifCond .lt off, 3)) (ht : (pc : Int) + off = (tgt : Int)) (hq : pc + 3 = q) (kt : zJ p l e R s m args below meth c cc nL own z cells slots Wf fin ri Q tgt lv st g M1) (kf : zJ p l e R s m args below meth c cc nL own z cells slots Wf fin ri Q q lv st g M2) : zJ p l e R s m args below meth c cc nL own z cells slots Wf fin ri Q pc lv (.int x :: st) g (if x < 0 then M1 else M2) := by
  intro hF hE x9 hx9 H locs ls hW hS hl; subst hq
  exact lv_if_lt hF.1.1 hF.1.2.1 d ht (fun h => kt hF hE x9 (by rw [if_pos h] at hx9; exact hx9) H locs ls hW hS hl) (fun h => kf hF hE x9 (by rw [if_neg h] at hx9; exact hx9) H locs ls hW hS hl)
theorem j_if_ge {x : Int32} {off : Int} {tgt : Nat} {M1 M2 : Option ρ} (d : decode cc pc = .ok (.ifCond .ge off, 3)) (ht : (pc : Int) + off = (tgt : Int)) (hq : pc + 3 = q) (kt : zJ p l e R s m args below meth c cc nL own z cells slots Wf fin ri Q tgt lv st g M1) (kf : zJ p l e R s m args below meth c cc nL own z cells slots Wf fin ri Q q lv st g M2) : zJ p l e R s m args below meth c cc nL own z cells slots Wf fin ri Q pc lv (.int x :: st) g (if x < 0 then M2 else M1) := by
  intro hF hE x9 hx9 H locs ls hW hS hl; subst hq
  exact lv_if_ge hF.1.1 hF.1.2.1 d ht (fun h => kt hF hE x9 (by rw [if_neg (Int32.not_lt.mpr h)] at hx9; exact hx9) H locs ls hW hS hl) (fun h => kf hF hE x9 (by rw [if_pos (Int32.not_le.mp h)] at hx9; exact hx9) H locs ls hW hS hl)
theorem j_if_gt {x : Int32} {off : Int} {tgt : Nat} {M1 M2 : Option ρ} (d : decode cc pc = .ok (.ifCond .gt off, 3)) (ht : (pc : Int) + off = (tgt : Int)) (hq : pc + 3 = q) (kt : zJ p l e R s m args below meth c cc nL own z cells slots Wf fin ri Q tgt lv st g M1) (kf : zJ p l e R s m args below meth c cc nL own z cells slots Wf fin ri Q q lv st g M2) : zJ p l e R s m args below meth c cc nL own z cells slots Wf fin ri Q pc lv (.int x :: st) g (if 0 < x then M1 else M2) := by
  intro hF hE x9 hx9 H locs ls hW hS hl; subst hq
  exact lv_if_gt hF.1.1 hF.1.2.1 d ht (fun h => kt hF hE x9 (by rw [if_pos h] at hx9; exact hx9) H locs ls hW hS hl) (fun h => kf hF hE x9 (by rw [if_neg h] at hx9; exact hx9) H locs ls hW hS hl)
theorem j_if_le {x : Int32} {off : Int} {tgt : Nat} {M1 M2 : Option ρ} (d : decode cc pc = .ok (.ifCond .le off, 3)) (ht : (pc : Int) + off = (tgt : Int)) (hq : pc + 3 = q) (kt : zJ p l e R s m args below meth c cc nL own z cells slots Wf fin ri Q tgt lv st g M1) (kf : zJ p l e R s m args below meth c cc nL own z cells slots Wf fin ri Q q lv st g M2) : zJ p l e R s m args below meth c cc nL own z cells slots Wf fin ri Q pc lv (.int x :: st) g (if 0 < x then M2 else M1) := by
  intro hF hE x9 hx9 H locs ls hW hS hl; subst hq
  exact lv_if_le hF.1.1 hF.1.2.1 d ht (fun h => kt hF hE x9 (by rw [if_neg (Int32.not_lt.mpr h)] at hx9; exact hx9) H locs ls hW hS hl) (fun h => kf hF hE x9 (by rw [if_pos (Int32.not_le.mp h)] at hx9; exact hx9) H locs ls hW hS hl)
theorem j_goto {off : Int} {tgt : Nat} (d : decode cc pc = .ok (.goto off, 3)) (ht : (pc : Int) + off = (tgt : Int)) (k : zJ p l e R s m args below meth c cc nL own z cells slots Wf fin ri Q tgt lv st g M) : zJ p l e R s m args below meth c cc nL own z cells slots Wf fin ri Q pc lv st g M := by
  intro hF hE x9 hx9 H locs ls hW hS hl
  exact lv_goto hF.1.1 hF.1.2.1 d ht (k hF hE x9 hx9 H locs ls hW hS hl)
/-- null or a location of kind k0 -/
def vr (z : zE) (k0 : Nat) (r : Option Nat) : Value := va_rf (r.map (za z k0))
theorem j_ifnull {k0 : Nat} {r : Option Nat} {off : Int} {tgt : Nat} {M1 : Option ρ} {f : Nat → Option ρ} (d : decode cc pc = .ok (.ifnull off, 3)) (ht : (pc : Int) + off = (tgt : Int)) (hq : pc + 3 = q) (kt : zJ p l e R s m args below meth c cc nL own z cells slots Wf fin ri Q tgt lv st g M1) (kf : ∀ i, r = some i → zJ p l e R s m args below meth c cc nL own z cells slots Wf fin ri Q q lv st g (f i)) : zJ p l e R s m args below meth c cc nL own z cells slots Wf fin ri Q pc lv (vr z k0 r :: st) g (match r with | none => M1 | some i => f i) := by
  intro hF hE x9 hx9 H locs ls hW hS hl; subst hq
  cases r with
  | none => exact lv_ifnullN hF.1.1 hF.1.2.1 d ht (kt hF hE x9 hx9 H locs ls hW hS hl)
  | some i => exact lv_ifnull hF.1.1 hF.1.2.1 d (kf i rfl hF hE x9 hx9 H locs ls hW hS hl)
theorem j_ifnonnull {k0 : Nat} {r : Option Nat} {off : Int} {tgt : Nat} {M1 : Option ρ} {f : Nat → Option ρ} (d : decode cc pc = .ok (.ifnonnull off, 3)) (ht : (pc : Int) + off = (tgt : Int)) (hq : pc + 3 = q) (kt : ∀ i, r = some i → zJ p l e R s m args below meth c cc nL own z cells slots Wf fin ri Q tgt lv st g (f i)) (kf : zJ p l e R s m args below meth c cc nL own z cells slots Wf fin ri Q q lv st g M1) : zJ p l e R s m args below meth c cc nL own z cells slots Wf fin ri Q pc lv (vr z k0 r :: st) g (match r with | none => M1 | some i => f i) := by
  intro hF hE x9 hx9 H locs ls hW hS hl; subst hq
  cases r with
  | none => exact lv_ifnonnullN hF.1.1 hF.1.2.1 d (kf hF hE x9 hx9 H locs ls hW hS hl)
  | some i => exact lv_ifnonnull hF.1.1 hF.1.2.1 d ht (kt i rfl hF hE x9 hx9 H locs ls hW hS hl)
theorem j_ldc {index : Nat} {v : Int32} (d : decode cc pc = .ok (.ldc index, 2)) (hc : Cond.constant own index v ∈ lw_gt) (hq : pc + 2 = q) (k : zJ p l e R s m args below meth c cc nL own z cells slots Wf fin ri Q q lv (.int v :: st) g M) : zJ p l e R s m args below meth c cc nL own z cells slots Wf fin ri Q pc lv st g M := by
  intro hF hE x9 hx9 H locs ls hW hS hl; subst hq
  exact lv_ldc hF.1.1 hF.1.2.1 hF.1.2.2.2.1 (hF.1.2.2.2.2 _ hc) d (k hF hE x9 hx9 H locs ls hW hS hl)
theorem j_ldc2 {index : Nat} {v : Int64} (d : decode cc pc = .ok (.ldc2_w index, 3)) (hc : Cond.constantLong own index v ∈ lw_gt) (hq : pc + 3 = q) (k : zJ p l e R s m args below meth c cc nL own z cells slots Wf fin ri Q q lv (.long v :: st) g M) : zJ p l e R s m args below meth c cc nL own z cells slots Wf fin ri Q pc lv st g M := by
  intro hF hE x9 hx9 H locs ls hW hS hl; subst hq
  exact lv_ldc2 hF.1.1 hF.1.2.1 hF.1.2.2.2.1 (hF.1.2.2.2.2 _ hc) d (k hF hE x9 hx9 H locs ls hW hS hl)
theorem j_tableIn {dflt lo hi : Int} {offs : Array Int} {len : Nat} {x : Int32} {off : Int} {tgt : Nat} (d : decode cc pc = .ok (.tableswitch dflt lo hi offs, len)) (h1 : ¬ x.toInt < lo) (h2 : ¬ hi < x.toInt) (ho : offs[(x.toInt - lo).toNat]? = some off) (ht : (pc : Int) + off = (tgt : Int)) (k : zJ p l e R s m args below meth c cc nL own z cells slots Wf fin ri Q tgt lv st g M) : zJ p l e R s m args below meth c cc nL own z cells slots Wf fin ri Q pc lv (.int x :: st) g M := by
  intro hF hE x9 hx9 H locs ls hW hS hl
  exact lv_tableIn hF.1.1 hF.1.2.1 d h1 h2 ho ht (k hF hE x9 hx9 H locs ls hW hS hl)
theorem j_tableOut {dflt lo hi : Int} {offs : Array Int} {len : Nat} {x : Int32} {tgt : Nat} (d : decode cc pc = .ok (.tableswitch dflt lo hi offs, len)) (h : x.toInt < lo ∨ hi < x.toInt) (ht : (pc : Int) + dflt = (tgt : Int)) (k : zJ p l e R s m args below meth c cc nL own z cells slots Wf fin ri Q tgt lv st g M) : zJ p l e R s m args below meth c cc nL own z cells slots Wf fin ri Q pc lv (.int x :: st) g M := by
  intro hF hE x9 hx9 H locs ls hW hS hl
  exact lv_tableOut hF.1.1 hF.1.2.1 d h ht (k hF hE x9 hx9 H locs ls hW hS hl)
theorem j_lookup {dflt : Int} {ps : Array (Int × Int)} {len : Nat} {x : Int32} {off : Int} {tgt : Nat} (d : decode cc pc = .ok (.lookupswitch dflt ps, len)) (hp : (ps.toList.zip (ps.toList.drop 1)).all (fun (a, next) => a.1 < next.1) = true) (ho : Op.lookupswitch.offset ps.toList dflt x.toInt = off) (ht : (pc : Int) + off = (tgt : Int)) (k : zJ p l e R s m args below meth c cc nL own z cells slots Wf fin ri Q tgt lv st g M) : zJ p l e R s m args below meth c cc nL own z cells slots Wf fin ri Q pc lv (.int x :: st) g M := by
  intro hF hE x9 hx9 H locs ls hW hS hl
  exact lv_lookup hF.1.1 hF.1.2.1 d hp ho ht (k hF hE x9 hx9 H locs ls hW hS hl)
theorem Wd.one {C : Nat → Nat → va_E} {H : Heap} (h : Wd z C H) {k i : Nat} (hi : i < dm k) {e : va_E} (he : C k i = e) : va_P (zD z) vwCl [(za z k i, e)] H := by
  intro n q hq
  match n, hq with
  | 0, hq => cases hq; exact he ▸ (h k i hi).1
  | n + 1, hq => simp at hq
theorem Wd.up {C C' : Nat → Nat → va_E} {H H1 : Heap} (h : Wd z C H) (hI : zI z) {k i : Nat} (hi : i < dm k) {e : va_E} (he : va_at (zD z) vwCl (za z k i, e) H1) (ho : ∀ q : Nat, q ≠ za z k i → H1[q]? = H[q]?) (hup : ∀ a b, b < dm a → upc C k i e a b = C' a b) : Wd z C' H1 := by
  intro a b hb
  refine ⟨?_, (h a b hb).2⟩
  rw [← hup a b hb]
  unfold upc
  by_cases hab : a = k ∧ b = i
  · rw [if_pos hab]; obtain ⟨rfl, rfl⟩ := hab; exact he
  · rw [if_neg hab]
    exact (h a b hb).1.kept (ho _ (fun h2 => hab (hI a b k i hb hi h2)))
/-- a field is read -/
theorem j_get {ci : Nat} {C : String} {T : u_T} {N : Nat} {fs : List Value} {f : Nat} {v : Value} {idx k i : Nat} (hc : vwCl[ci]? = some (C, T, N)) (hin : ∀ w ∈ u_ws C T N, w ∈ lw_gt) (hf : f < N) (hL : Cond.fieldLink own idx (T f).1 (T f).2.1 (T f).2.2.1 ∈ lw_gt) (hi : i < dm k) (hcell : Wf g k i = .inr (ci, fs)) (hv : fs[f]? = some v) (d : decode cc pc = .ok (.getfield idx, 3)) (hq : pc + 3 = q) (kk : zJ p l e R s m args below meth c cc nL own z cells slots Wf fin ri Q q lv (v :: st) g M) : zJ p l e R s m args below meth c cc nL own z cells slots Wf fin ri Q pc lv (.ref (za z k i) :: st) g M := by
  intro hF hE x9 hx9 H locs ls hW hS hl; subst hq
  exact va_get (D := zD z) (ci := ci) (v := v) (C := C) (T := T) (N := N) (tys := zT z) hF.1.1 hF.1.2.1 hF.1.2.2.2.2 hin hF.1.2.2.2.1 hF.2.1.1 (hW.one hi hcell) 0 rfl hc f hf (hF.1.2.2.2.2 _ hL) (fun _ h9 => h9) hv d (kk hF hE x9 hx9 H locs ls hW hS hl)
theorem j_getN {ci : Nat} {C host : String} {T : u_T} {N : Nat} {fs : List Value} {f : Nat} {v : Value} {idx k i : Nat} (hc : vwCl[ci]? = some (C, T, N)) (hin : ∀ w ∈ u_ws C T N, w ∈ lw_gt) (hf : f < N) (hL : Cond.fieldLinkNest own idx (T f).1 (T f).2.1 (T f).2.2.1 host ∈ lw_nt) (hi : i < dm k) (hcell : Wf g k i = .inr (ci, fs)) (hv : fs[f]? = some v) (d : decode cc pc = .ok (.getfield idx, 3)) (hq : pc + 3 = q) (kk : zJ p l e R s m args below meth c cc nL own z cells slots Wf fin ri Q q lv (v :: st) g M) : zJ p l e R s m args below meth c cc nL own z cells slots Wf fin ri Q pc lv (.ref (za z k i) :: st) g M := by
  intro hF hE x9 hx9 H locs ls hW hS hl; subst hq
  exact va_getN (D := zD z) (ci := ci) (v := v) (C := C) (T := T) (N := N) (tys := zT z) hF.1.1 hF.1.2.1 hF.1.2.2.2.2 hin hF.1.2.2.2.1 hF.2.1.1 (hW.one hi hcell) 0 rfl hc f hf (va_Nw.use rfl (hF.2.1.2.1 _ hL)) (fun _ h9 => h9) hv d (kk hF hE x9 hx9 H locs ls hW hS hl)
/-- a field is written -/
theorem j_put {ci : Nat} {C : String} {T : u_T} {N : Nat} {fs : List Value} {f : Nat} {v : Value} {idx k i : Nat} {ty : FieldType} {g' : Γ} {F : Γ → Option ρ} (hc : vwCl[ci]? = some (C, T, N)) (hin : ∀ w ∈ u_ws C T N, w ∈ lw_gt) (ty0 : Nat → FieldType) (hty : ∀ k, k < N → parseFieldDescriptor (T k).2.2.1 = some (ty0 k)) (hnm : ∀ a, a < N → ∀ b, b < N → a ≠ b → (T a).2.1 ≠ (T b).2.1) (hf : f < N) (hfin : (T f).2.2.2 = false) (hd : parseFieldDescriptor (T f).2.2.1 = some ty) (hL : Cond.fieldLink own idx (T f).1 (T f).2.1 (T f).2.2.1 ∈ lw_gt)
    (hi : i < dm k) (hcell : Wf g k i = .inr (ci, fs)) (hlen : f < fs.length) (hn : narrow ty v = v) (hfit : fits ty v = true) (hup : ∀ a b, b < dm a → upc (Wf g) k i (.inr (ci, fs.set f v)) a b = Wf g' a b) (d : decode cc pc = .ok (.putfield idx, 3)) (hq : pc + 3 = q) (kk : ∀ g1, zJ p l e R s m args below meth c cc nL own z cells slots Wf fin ri Q q lv st g1 (F g1)) : zJ p l e R s m args below meth c cc nL own z cells slots Wf fin ri Q pc lv (v :: .ref (za z k i) :: st) g (bd g' F) := by
  intro hF hE x9 hx9 H locs ls hW hS hl; subst hq
  obtain ⟨⟨hx, hb, hml, hown, hts⟩, ⟨hK, hN, hI, hsz, hst⟩, hcs⟩ := id hF
  have hap := va_apart (own := own) hts hin ty0 hty hnm hK hc
  obtain ⟨r, h1, cell, q1, q2, q3, q4⟩ := (hW.one hi hcell) 0 _ rfl
  have hr : r = (C, T, N) := Option.some.inj (h1.symm.trans hc)
  subst hr
  obtain ⟨hS1, hfc, kC, hkC, hkind⟩ := hK.1 ci _ hc
  obtain ⟨cf, kf, fi, f9, hi9, hsl⟩ := hS1 f hf
  have hlay := hts _ (hin _ (u_in_lay hf))
  unfold u_lay at hlay
  rw [if_neg (by rw [hfin]; decide)] at hlay
  have hst := (u_facts hfc hkC (u_lays hts hin hf) hi9).1
  have h6 := u_store hfc hkC hkind hlay hi9 hd hn hfit
  refine W.putK hx hb (f := f9) ⟨hown, hts _ hL, ⟨_, _, _, hi9⟩, hst⟩ (by rw [q2]; exact h6) q1 q3 (by rw [hsl]; exact k2_hasslot (q4 f hf)) rfl rfl d fun H' e1 e2 e3 => ?_
  rw [hsl] at e1 ⊢
  exact kk g' hF hE x9 hx9 H' _ ls (hW.up (e := .inr (ci, fs.set f v)) hI hi ⟨_, hc, t_OB.to (V := updV (vp_V fs) f v) ⟨_, e1, q2, q3, t_set q4 hap hf v⟩ (fun j _ => vp_updV_set hlen v j)⟩ e3 hup) (hS.put e2 e3 (hW k i hi).2) hl
theorem j_putN {ci : Nat} {C host : String} {T : u_T} {N : Nat} {fs : List Value} {f : Nat} {v : Value} {idx k i : Nat} {ty : FieldType} {g' : Γ} {F : Γ → Option ρ} (hc : vwCl[ci]? = some (C, T, N)) (hin : ∀ w ∈ u_ws C T N, w ∈ lw_gt) (ty0 : Nat → FieldType) (hty : ∀ k, k < N → parseFieldDescriptor (T k).2.2.1 = some (ty0 k)) (hnm : ∀ a, a < N → ∀ b, b < N → a ≠ b → (T a).2.1 ≠ (T b).2.1) (hf : f < N) (hfin : (T f).2.2.2 = false) (hd : parseFieldDescriptor (T f).2.2.1 = some ty) (hL : Cond.fieldLinkNest own idx (T f).1 (T f).2.1 (T f).2.2.1 host ∈ lw_nt)
    (hi : i < dm k) (hcell : Wf g k i = .inr (ci, fs)) (hlen : f < fs.length) (hn : narrow ty v = v) (hfit : fits ty v = true) (hup : ∀ a b, b < dm a → upc (Wf g) k i (.inr (ci, fs.set f v)) a b = Wf g' a b) (d : decode cc pc = .ok (.putfield idx, 3)) (hq : pc + 3 = q) (kk : ∀ g1, zJ p l e R s m args below meth c cc nL own z cells slots Wf fin ri Q q lv st g1 (F g1)) : zJ p l e R s m args below meth c cc nL own z cells slots Wf fin ri Q pc lv (v :: .ref (za z k i) :: st) g (bd g' F) := by
  intro hF hE x9 hx9 H locs ls hW hS hl; subst hq
  obtain ⟨⟨hx, hb, hml, hown, hts⟩, ⟨hK, hN, hI, hsz, hst⟩, hcs⟩ := id hF
  have hap := va_apart (own := own) hts hin ty0 hty hnm hK hc
  obtain ⟨r, h1, cell, q1, q2, q3, q4⟩ := (hW.one hi hcell) 0 _ rfl
  have hr : r = (C, T, N) := Option.some.inj (h1.symm.trans hc)
  subst hr
  obtain ⟨hS1, hfc, kC, hkC, hkind⟩ := hK.1 ci _ hc
  obtain ⟨cf, kf, fi, f9, hi9, hsl⟩ := hS1 f hf
  have hlay := hts _ (hin _ (u_in_lay hf))
  unfold u_lay at hlay
  rw [if_neg (by rw [hfin]; decide)] at hlay
  have hst := (u_facts hfc hkC (u_lays hts hin hf) hi9).1
  have h6 := u_store hfc hkC hkind hlay hi9 hd hn hfit
  refine va_WputK hx hb (f := f9) hown (va_Nw.use rfl (hN _ hL)) hi9 hst (by rw [q2]; exact h6) q1 q3 (by rw [hsl]; exact k2_hasslot (q4 f hf)) rfl rfl d fun H' e1 e2 e3 => ?_
  rw [hsl] at e1 ⊢
  exact kk g' hF hE x9 hx9 H' _ ls (hW.up (e := .inr (ci, fs.set f v)) hI hi ⟨_, hc, t_OB.to (V := updV (vp_V fs) f v) ⟨_, e1, q2, q3, t_set q4 hap hf v⟩ (fun j _ => vp_updV_set hlen v j)⟩ e3 hup) (hS.put e2 e3 (hW k i hi).2) hl
/-- rows -/
theorem j_iald {k i n : Nat} {f : Nat → Int32} {ix : Int32} (hi : i < dm k) (ha : Wf g k i = .inl (zc z 0, n, .inl f)) (d : decode cc pc = .ok (.iaload, 1)) (hq : pc + 1 = q) (kk : zJ p l e R s m args below meth c cc nL own z cells slots Wf fin ri Q q lv (.int (f ix.toNatClampNeg) :: st) g M) : zJ p l e R s m args below meth c cc nL own z cells slots Wf fin ri Q pc lv (.int ix :: .ref (za z k i) :: st) g (gd (inb ix n = true) M) := by
  intro hF hE x9 hx9 H locs ls hW hS hl; subst hq
  exact va_iald hF.1.1 hF.1.2.1 hF.2.1.1 (hW.one hi ha) 0 0 rfl rfl (inb_in (gd_some hx9).1) d (kk hF hE x9 (gd_some hx9).2 H locs ls hW hS hl)
theorem j_zald {k i n : Nat} {f : Nat → Int32} {ix : Int32} (hi : i < dm k) (ha : Wf g k i = .inl (zc z 1, n, .inl f)) (d : decode cc pc = .ok (.baload, 1)) (hq : pc + 1 = q) (kk : zJ p l e R s m args below meth c cc nL own z cells slots Wf fin ri Q q lv (.int (f ix.toNatClampNeg) :: st) g M) : zJ p l e R s m args below meth c cc nL own z cells slots Wf fin ri Q pc lv (.int ix :: .ref (za z k i) :: st) g (gd (inb ix n = true) M) := by
  intro hF hE x9 hx9 H locs ls hW hS hl; subst hq
  exact va_zald hF.1.1 hF.1.2.1 hF.2.1.1 (hW.one hi ha) 0 1 rfl rfl (inb_in (gd_some hx9).1) d (kk hF hE x9 (gd_some hx9).2 H locs ls hW hS hl)
theorem j_alen {k i n t : Nat} {cA : ClassId} {r : (Nat → Int32) ⊕ (Nat → Int64) ⊕ (Nat → UInt32) ⊕ (Nat → UInt64) ⊕ (Nat → Option Nat)} {ty : FieldType} {v : Int32} (hi : i < dm k) (ha : Wf g k i = .inl (cA, n, r)) (ht : (zT z)[t]? = some (cA, ty)) (hv : Int32.ofNat n = v) (d : decode cc pc = .ok (.arraylength, 1)) (hq : pc + 1 = q) (kk : zJ p l e R s m args below meth c cc nL own z cells slots Wf fin ri Q q lv (.int v :: st) g M) : zJ p l e R s m args below meth c cc nL own z cells slots Wf fin ri Q pc lv (.ref (za z k i) :: st) g M := by
  intro hF hE x9 hx9 H locs ls hW hS hl; subst hq
  exact va_alen hF.1.1 hF.1.2.1 hF.2.1.1 (hW.one hi ha) 0 t rfl ht hv d (kk hF hE x9 hx9 H locs ls hW hS hl)
theorem j_aald {k i n t k0 : Nat} {cA : ClassId} {C : String} {f : Nat → Option Nat} {ix : Int32} {r : Option Nat} (hi : i < dm k) (ha : Wf g k i = .inl (cA, n, .inr (.inr (.inr (.inr f))))) (ht : (zT z)[t]? = some (cA, .object C)) (hr : vp_in ix n → f ix.toNatClampNeg = r.map (za z k0)) (d : decode cc pc = .ok (.aaload, 1)) (hq : pc + 1 = q) (kk : zJ p l e R s m args below meth c cc nL own z cells slots Wf fin ri Q q lv (vr z k0 r :: st) g M) : zJ p l e R s m args below meth c cc nL own z cells slots Wf fin ri Q pc lv (.int ix :: .ref (za z k i) :: st) g (gd (inb ix n = true) M) := by
  intro hF hE x9 hx9 H locs ls hW hS hl; subst hq
  refine va_aldq hF.1.1 hF.1.2.1 hF.2.1.1 (hW.one hi ha) 0 t rfl ht (inb_in (gd_some hx9).1) d ?_
  rw [hr (inb_in (gd_some hx9).1)]
  exact kk hF hE x9 (gd_some hx9).2 H locs ls hW hS hl
theorem j_iast {k i n : Nat} {f : Nat → Int32} {ix x : Int32} {g' : Γ} {F : Γ → Option ρ} (hi : i < dm k) (ha : Wf g k i = .inl (zc z 0, n, .inl f)) (hup : ∀ a b, b < dm a → upc (Wf g) k i (.inl (zc z 0, n, .inl (upd f ix.toNatClampNeg x))) a b = Wf g' a b) (d : decode cc pc = .ok (.iastore, 1)) (hq : pc + 1 = q) (kk : ∀ g1, zJ p l e R s m args below meth c cc nL own z cells slots Wf fin ri Q q lv st g1 (F g1)) : zJ p l e R s m args below meth c cc nL own z cells slots Wf fin ri Q pc lv (.int x :: .int ix :: .ref (za z k i) :: st) g (gd (inb ix n = true) (bd g' F)) := by
  intro hF hE x9 hx9 H locs ls hW hS hl; subst hq
  obtain ⟨⟨hx, hb, hml, hown, hts⟩, ⟨hK, hN, hI, hsz, hst⟩, hcs⟩ := id hF
  have hin := inb_in (gd_some hx9).1
  have ha' := (hW.one hi ha) 0 _ rfl
  refine W.iast hx hb ha' ((hK.2 0 _ rfl).1 n (fun j => .int (f j))) (fun q => by cases q) (by show ¬ (ix < 0 ∨ (arrV _ _ _).slots.size ≤ _); rw [arrV_size]; exact hin) rfl rfl d fun H1 e zz oq => ?_
  refine kk g' hF hE x9 (gd_some hx9).2 H1 _ ls (hW.up hI hi ?_ oq hup) (hS.put zz oq (hW k i hi).2) hl
  show H1[za z k i]? = some (vp_cell _ _)
  rw [e]
  rw [vp_cell_i, vp_cell_i, arrV_store]
  congr 2
  funext q
  by_cases hq : q = ix.toNatClampNeg
  · subst hq
    simp [updV, upd]
  · simp [updV, upd, hq]
theorem j_zast {k i n : Nat} {f : Nat → Int32} {ix x : Int32} {g' : Γ} {F : Γ → Option ρ} (hi : i < dm k) (ha : Wf g k i = .inl (zc z 1, n, .inl f)) (hup : ∀ a b, b < dm a → upc (Wf g) k i (.inl (zc z 1, n, .inl (upd f ix.toNatClampNeg (vp_nar .boolean x)))) a b = Wf g' a b) (d : decode cc pc = .ok (.bastore, 1)) (hq : pc + 1 = q) (kk : ∀ g1, zJ p l e R s m args below meth c cc nL own z cells slots Wf fin ri Q q lv st g1 (F g1)) : zJ p l e R s m args below meth c cc nL own z cells slots Wf fin ri Q pc lv (.int x :: .int ix :: .ref (za z k i) :: st) g (gd (inb ix n = true) (bd g' F)) := by
  intro hF hE x9 hx9 H locs ls hW hS hl; subst hq
  obtain ⟨⟨hx, hb, hml, hown, hts⟩, ⟨hK, hN, hI, hsz, hst⟩, hcs⟩ := id hF
  have hin := inb_in (gd_some hx9).1
  have ha' := (hW.one hi ha) 0 _ rfl
  refine W.zast hx hb ha' ((hK.2 1 _ rfl).1 n (fun j => .int (f j))) (fun q => by cases q) (by show ¬ (ix < 0 ∨ (arrV _ _ _).slots.size ≤ _); rw [arrV_size]; exact hin) rfl rfl d fun H1 e zz oq => ?_
  refine kk g' hF hE x9 (gd_some hx9).2 H1 _ ls (hW.up hI hi ?_ oq hup) (hS.put zz oq (hW k i hi).2) hl
  show H1[za z k i]? = some (vp_cell _ _)
  rw [e]
  rw [vp_cell_i, vp_cell_i, arrV_store]
  congr 2
  funext q
  by_cases hq : q = ix.toNatClampNeg
  · subst hq
    simp [updV, upd, vp_nar]
    try rfl
  · simp [updV, upd, hq]
/-- the written-out rows -/
theorem j_gets {k idx : Nat} (h1 : 200 ≤ k) (h2 : k < 210) (hL : Cond.fieldLink own idx "CopierJobs" (sname k) "[I" ∈ lw_gt) (d : decode cc pc = .ok (.getstatic idx, 3)) (hq : pc + 3 = q) (kk : zJ p l e R s m args below meth c cc nL own z cells slots Wf fin ri Q q lv (.ref (za z k 0) :: st) g M) : zJ p l e R s m args below meth c cc nL own z cells slots Wf fin ri Q pc lv st g M := by
  intro hF hE x9 hx9 H locs ls hW hS hl; subst hq
  exact va_gets hF.1.1 hF.1.2.1 (hF.2.1.2.2.2.2 k h1 h2).1 hS hF.1.2.2.2.1 (hF.1.2.2.2.2 _ hL) (fun _ h9 => h9) d (kk hF hE x9 hx9 H locs ls hW hS hl)
theorem j_slen {k : Nat} {v : Int32} (h1 : 200 ≤ k) (h2 : k < 210) (hv : Int32.ofNat (ln k) = v) (d : decode cc pc = .ok (.arraylength, 1)) (hq : pc + 1 = q) (kk : zJ p l e R s m args below meth c cc nL own z cells slots Wf fin ri Q q lv (.int v :: st) g M) : zJ p l e R s m args below meth c cc nL own z cells slots Wf fin ri Q pc lv (.ref (za z k 0) :: st) g M := by
  intro hF hE x9 hx9 H locs ls hW hS hl; subst hq; subst hv
  obtain ⟨cell, e1, e2, e3, e4, e5, e6, e7⟩ := (hF.2.1.2.2.2.2 k h1 h2).2
  exact W.alen hF.1.1 hF.1.2.1 (by rw [hS.2.1 _ (Array.getElem?_eq_some_iff.mp e1).1 e7]; exact e1) e2 e5 rfl rfl d (kk hF hE x9 hx9 H locs ls hW hS hl)
theorem j_sld {k : Nat} {ix : Int32} (h1 : 200 ≤ k) (h2 : k < 210) (d : decode cc pc = .ok (.iaload, 1)) (hq : pc + 1 = q) (kk : zJ p l e R s m args below meth c cc nL own z cells slots Wf fin ri Q q lv (.int (sc k ix.toNatClampNeg) :: st) g M) : zJ p l e R s m args below meth c cc nL own z cells slots Wf fin ri Q pc lv (.int ix :: .ref (za z k 0) :: st) g (gd (inb ix (ln k) = true) M) := by
  intro hF hE x9 hx9 H locs ls hW hS hl; subst hq
  obtain ⟨cell, e1, e2, e3, e4, e5, e6, e7⟩ := (hF.2.1.2.2.2.2 k h1 h2).2
  have hin : vp_in ix (ln k) := inb_in (gd_some hx9).1
  have hlt : ix.toNatClampNeg < ln k := Nat.not_le.mp fun q => hin (Or.inr q)
  exact W.iald (v := .int (sc k ix.toNatClampNeg)) hF.1.1 hF.1.2.1 (by rw [hS.2.1 _ (Array.getElem?_eq_some_iff.mp e1).1 e7]; exact e1) e2 e3 (fun h => hin (h.imp id (fun h => Nat.le_trans e4 h))) (e6 _ hlt) rfl rfl d (kk hF hE x9 (gd_some hx9).2 H locs ls hW hS hl)
end ZJ
/-- what a method needs and gives, over worlds -/
def PW (z : zE) (C : Nat → Nat → va_E) (U : State) : Prop := Wd z C U.heap ∧ Cx z U
def QW (z : zE) (v : Option Value) (C : Nat → Nat → va_E) : Array Value → State → Outcome → State → Prop := fun _ st o t => o = .returned v ∧ Wd z C t.heap ∧ va_F (zA z) st t
def Ms (l : Launch) (y : MethodName) (b : ByteArray) (n : Nat) (ret : Option FieldType) (rm : Room) (z : zE) (As : List Value) (C : Nat → Nat → va_E) (v : Option Value) (C' : Nat → Nat → va_E) : Prop := Met l y (.code y b n ret :: lw_gt) rm (va_Pc As (PW z C)) (QW z v C') 0 0 (zA z)
theorem PW.blind {z : zE} {As : List Value} {C : Nat → Nat → va_E} : FrameBlind (va_Pc As (PW z C)) := fun _ _ _ _ h => ⟨h.1, h.2.1, h.2.2.calling⟩
theorem PW.at {z : zE} {As : List Value} {C : Nat → Nat → va_E} {s : State} {H : Heap} {locs : List Loc} (hX : Cx z s) (hW : Wd z C H) (hS : va_S (zA z) s.heap H locs) (U : State) (hU : U.heap = H) (hWm : s.WarmedH U.vm) : va_Pc As (PW z C) As.toArray U := ⟨rfl, by rw [hU]; exact hW, hX.go hWm (by rw [hU]; exact hS)⟩
/-- the words of a method that is called -/
def CV (y : MethodName) (b : ByteArray) (n : Nat) (ret : Option FieldType) (k : Nat) : Prop := Cond.code y b n ret ∈ lw_gt ∧ Cond.instanceMethod y ∈ lw_gt ∧ Cond.selects y.cls y y ∈ lw_gt ∧ Cond.initialized y.cls ∈ lw_gt ∧ (y.cls ≠ "java/lang/invoke/MethodHandle" ∧ y.cls ≠ "java/lang/invoke/VarHandle" ∧ (parseMethodDescriptor y.desc).map (fun d => d.parameters.length) = some k)
def CT (y : MethodName) (b : ByteArray) (n : Nat) (ret : Option FieldType) (k : Nat) : Prop := Cond.code y b n ret ∈ lw_gt ∧ Cond.static y ∈ lw_gt ∧ Cond.initialized y.cls ∈ lw_gt ∧ (y.cls ≠ "java/lang/invoke/MethodHandle" ∧ y.cls ≠ "java/lang/invoke/VarHandle" ∧ (parseMethodDescriptor y.desc).map (fun d => d.parameters.length) = some k)
def RN (p : Program) (l : Launch) (e : Env) (R : Room) (s : State) (m : MethodId) (args : Array Value) (below : List Frame) (meth : Method) (c : Code) (cc : ByteArray) (nL : Nat) (own : String) (z : zE) (cells slots : Nat) {Γ σ : Type} (Wf : Γ → Nat → Nat → va_E) (pc : Nat) (stk rest : List Value) (g : Γ) (M : Option σ) (out : σ → Option Value) (nxt : σ → Γ) : Prop :=
  FX p R s m args c cc nL own z cells slots → ∀ x, M = some x → ∀ (H : Heap) (locs : List Loc) (ls : Array Slot), Wd z (Wf g) H → va_S (zA z) s.heap H locs → ls.size = nL → ∃ a : Array Value, va_Run p l e R s m args below meth c H locs cells slots 0 0 (F0 m pc ls stk) rest (QW z (out x) (Wf (nxt x)) a) (zA z)
section CALLS
variable {p : Program} {l : Launch} {e : Env} {R : Room} {s : State} {m : MethodId} {args : Array Value} {below : List Frame} {meth : Method} {c : Code} {cc : ByteArray} {nL : Nat} {own : String} {z : zE} {cells slots : Nat} {Γ ρ σ : Type} {Wf : Γ → Nat → Nat → va_E} {fin : ρ → Γ → List Value → Prop} {ri : Instr} {Q : ρ → State → Prop} {pc q : Nat} {lv : List (Nat × Value)} {st stk rest As : List Value} {g : Γ} {M : Option σ} {out : σ → Option Value} {nxt : σ → Γ}
  {y : MethodName} {b : ByteArray} {n k i ci N idx : Nat} {ret : Option FieldType} {rm : Room} {T : u_T} {fs : List Value} {host : String}
theorem gt_wsV (hL : Cond.methodLink own idx y ∈ lw_gt) (hV : CV y b n ret k) : GoodIn lw_gt (wsV own idx y.cls y (.code y b n ret :: lw_gt)) := by
  have gd9 : ∀ {w : Cond}, w ∈ lw_gt → w ∈ lw_gt ∧ ((w.onTables && w.keeps) = true ∨ ∃ ty, w = .arrayClass ty) := fun h => ⟨h, good_of_word (List.mem_filter.mp h).2⟩
  intro w hw
  unfold wsV at hw
  rcases List.mem_append.mp hw with h | h
  · simp only [List.mem_cons, List.not_mem_nil, or_false] at h
    rcases h with rfl | rfl | rfl | rfl
    · exact gd9 hL
    · exact gd9 hV.2.1
    · exact gd9 hV.2.2.1
    · exact gd9 hV.2.2.2.1
  · rcases List.mem_cons.mp h with rfl | h
    · exact gd9 hV.1
    · exact gd9 h
theorem gt_wsS (hL : Cond.methodLink own idx y ∈ lw_gt) (hV : CT y b n ret k) : GoodIn lw_gt (va_wsS own idx y (.code y b n ret :: lw_gt)) := by
  have gd9 : ∀ {w : Cond}, w ∈ lw_gt → w ∈ lw_gt ∧ ((w.onTables && w.keeps) = true ∨ ∃ ty, w = .arrayClass ty) := fun h => ⟨h, good_of_word (List.mem_filter.mp h).2⟩
  intro w hw
  unfold va_wsS at hw
  rcases List.mem_append.mp hw with h | h
  · simp only [List.mem_cons, List.not_mem_nil, or_false] at h
    rcases h with rfl | rfl | rfl
    · exact gd9 hL
    · exact gd9 hV.2.1
    · exact gd9 hV.2.2.1
  · rcases List.mem_cons.mp h with rfl | h
    · exact gd9 hV.1
    · exact gd9 h
theorem gt_code (hC : Cond.code y b n ret ∈ lw_gt) : GoodIn lw_gt (.code y b n ret :: lw_gt) := by
  have gd9 : ∀ {w : Cond}, w ∈ lw_gt → w ∈ lw_gt ∧ ((w.onTables && w.keeps) = true ∨ ∃ ty, w = .arrayClass ty) := fun h => ⟨h, good_of_word (List.mem_filter.mp h).2⟩
  intro w hw
  rcases List.mem_cons.mp hw with rfl | h
  · exact gd9 hC
  · exact gd9 h
theorem rn_V (hM : ∀ x, M = some x → Ms l y b n ret rm z (.ref (za z k i) :: As) (Wf g) (out x) (Wf (nxt x))) (hV : CV y b n ret As.length) (hL : Cond.methodLink own idx y ∈ lw_gt) (hR : rm.cells = 0 ∧ rm.slots = 0) (hroom : rm.frames + 1 ≤ R.frames ∧ 8 + (n + 11) + rm.locals ≤ R.locals)
    (hi : i < dm k) (hcell : Wf g k i = .inr (ci, fs)) (hc : vwCl[ci]? = some (y.cls, T, N)) (hs : stk = As.reverse ++ .ref (za z k i) :: rest) (hrest : (rest.map fun v => v.category).sum ≤ 8) (d : decode cc pc = .ok (.invokevirtual idx, 3)) :
    RN p l e R s m args below meth c cc nL own z cells slots Wf pc stk rest g M out nxt := by
  intro hF x hx H locs ls hW hS hsz
  subst hs
  exact ⟨_, va_runV (As := As) (rest := rest) hF.1 (hM x hx) (cwV As.length hF.1.2.2.2.2 (gt_wsV hL hV) rfl hR.1 hR.2 ⟨rfl, hV.2.2.2.2⟩ hroom) ⟨PW.blind, va_recv (q := (y.cls, T, N)) hF.2.1.1 (hW.one hi hcell) hc (q0 := 0) rfl, PW.at hF.2.1 hW hS⟩ rfl rfl hsz rfl (lv_room hrest) d ⟨hF.2.2.1, hF.2.2.2⟩⟩
theorem rn_S (hM : ∀ x, M = some x → Ms l y b n ret rm z As (Wf g) (out x) (Wf (nxt x))) (hV : CT y b n ret As.length) (hL : Cond.methodLink own idx y ∈ lw_gt) (hR : rm.cells = 0 ∧ rm.slots = 0) (hroom : rm.frames + 1 ≤ R.frames ∧ 8 + (n + 11) + rm.locals ≤ R.locals)
    (hs : stk = As.reverse ++ rest) (hrest : (rest.map fun v => v.category).sum ≤ 8) (d : decode cc pc = .ok (.invokestatic idx, 3)) :
    RN p l e R s m args below meth c cc nL own z cells slots Wf pc stk rest g M out nxt := by
  intro hF x hx H locs ls hW hS hsz
  subst hs
  exact ⟨_, va_runS (As := As) (rest := rest) hF.1 (hM x hx) (va_cwS As.length hF.1.2.2.2.2 (gt_wsS hL hV) rfl hR.1 hR.2 hV.2.2.2 hroom) ⟨PW.blind, PW.at hF.2.1 hW hS⟩ rfl rfl hsz rfl (lv_room hrest) d ⟨hF.2.2.1, hF.2.2.2⟩⟩
theorem rn_N (hM : ∀ x, M = some x → Ms l y b n ret rm z As (Wf g) (out x) (Wf (nxt x))) (hV : CT y b n ret As.length) (hL : Cond.methodLinkNest own idx y host ∈ lw_nt) (hR : rm.cells = 0 ∧ rm.slots = 0) (hroom : rm.frames + 1 ≤ R.frames ∧ 8 + (n + 11) + rm.locals ≤ R.locals)
    (hs : stk = As.reverse ++ rest) (hrest : (rest.map fun v => v.category).sum ≤ 8) (d : decode cc pc = .ok (.invokestatic idx, 3)) :
    RN p l e R s m args below meth c cc nL own z cells slots Wf pc stk rest g M out nxt := by
  intro hF x hx H locs ls hW hS hsz
  subst hs
  exact ⟨_, va_runSN (As := As) (rest := rest) hF.1 (hM x hx) ⟨va_cnB As.length hF.1.2.2.2.2 (gt_code hV.1) rfl hR.1 hR.2 (hF.2.1.2.1 _ hL) (hF.1.2.2.2.2 _ hV.2.2.1) hV.2.2.2 hroom, hF.1.2.2.2.2 _ hV.2.1, trivial⟩ ⟨PW.blind, PW.at hF.2.1 hW hS⟩ rfl rfl hsz rfl (lv_room hrest) d ⟨hF.2.2.1, hF.2.2.2⟩⟩
theorem j_call {f : σ → Option ρ} (hr : RN p l e R s m args below meth c cc nL own z cells slots Wf pc stk rest g M out nxt) (hq : pc + 3 = q) (hk : ∀ x, zJ p l e R s m args below meth c cc nL own z cells slots Wf fin ri Q q lv ((out x).toList ++ rest) (nxt x) (f x)) : zJ p l e R s m args below meth c cc nL own z cells slots Wf fin ri Q pc lv stk g (M.bind f) := by
  intro hF hE x9 hx9 H locs ls hW hS hl; subst hq
  obtain ⟨x, hx, hfx⟩ := Option.bind_eq_some_iff.mp hx9
  obtain ⟨a, hrun⟩ := hr hF x hx H locs ls hW hS hl.1
  intro T hT X
  obtain ⟨v, st₀, t, T', L, h0, X', hL, e1, e2, ⟨hv, hw1, hz, hk1⟩, stp⟩ := hrun T hT X
  cases hv
  have hS' : va_S (zA z) s.heap T'.heap (locs ++ L) := by
    rw [e1]
    refine ⟨Nat.le_trans hS.1 (by rw [← h0]; exact hz), fun q h1 h2 => ?_, fun l9 hl9 => ?_⟩
    · rw [hk1 q (by rw [h0]; exact Nat.lt_of_lt_of_le h1 hS.1) h2, h0]; exact hS.2.1 q h1 h2
    · rcases List.mem_append.mp hl9 with h | h
      · exact hS.2.2 l9 h
      · exact hL l9 h
  obtain ⟨t9, a1, b1⟩ := hk x hF hE x9 hfx T'.heap (locs ++ L) ls (by rw [e1]; exact hw1) hS' hl T' rfl X'
  exact ⟨t9, stp t9 a1, b1⟩
end CALLS
section CALLS2
variable {p : Program} {l : Launch} {e : Env} {R : Room} {s : State} {m : MethodId} {args : Array Value} {below : List Frame} {meth : Method} {c : Code} {cc : ByteArray} {nL : Nat} {own : String} {z : zE} {cells slots : Nat} {Γ ρ : Type} {Wf : Γ → Nat → Nat → va_E} {fin : ρ → Γ → List Value → Prop} {ri : Instr} {Q : ρ → State → Prop} {pc q k0 : Nat} {lv : List (Nat × Value)} {st stk rest As : List Value} {g : Γ}
/-- how an answer stands on the stack -/
abbrev oi : Int32 → Option Value := fun x => some (.int x)
abbrev ol : Int64 → Option Value := fun x => some (.long x)
abbrev orf (z : zE) (k0 : Nat) : Option Nat → Option Value := fun x => some (vr z k0 x)
abbrev osi : Int32 × zG → Option Value := fun x => some (.int x.1)
abbrev osv : zG → Option Value := fun _ => none
theorem j_ci {M : Option Int32} {f : Int32 → Option ρ} (hr : RN p l e R s m args below meth c cc nL own z cells slots Wf pc stk rest g M oi (fun _ => g)) (hq : pc + 3 = q) (hk : ∀ x : Int32, zJ p l e R s m args below meth c cc nL own z cells slots Wf fin ri Q q lv (.int x :: rest) g (f x)) : zJ p l e R s m args below meth c cc nL own z cells slots Wf fin ri Q pc lv stk g (M.bind f) := j_call hr hq hk
theorem j_cl {M : Option Int64} {f : Int64 → Option ρ} (hr : RN p l e R s m args below meth c cc nL own z cells slots Wf pc stk rest g M ol (fun _ => g)) (hq : pc + 3 = q) (hk : ∀ x : Int64, zJ p l e R s m args below meth c cc nL own z cells slots Wf fin ri Q q lv (.long x :: rest) g (f x)) : zJ p l e R s m args below meth c cc nL own z cells slots Wf fin ri Q pc lv stk g (M.bind f) := j_call hr hq hk
theorem j_cr {M : Option (Option Nat)} {f : Option Nat → Option ρ} (hr : RN p l e R s m args below meth c cc nL own z cells slots Wf pc stk rest g M (orf z k0) (fun _ => g)) (hq : pc + 3 = q) (hk : ∀ x : Option Nat, zJ p l e R s m args below meth c cc nL own z cells slots Wf fin ri Q q lv (vr z k0 x :: rest) g (f x)) : zJ p l e R s m args below meth c cc nL own z cells slots Wf fin ri Q pc lv stk g (M.bind f) := j_call hr hq hk
end CALLS2
section CALLS3
variable {p : Program} {l : Launch} {e : Env} {R : Room} {s : State} {m : MethodId} {args : Array Value} {below : List Frame} {meth : Method} {c : Code} {cc : ByteArray} {nL : Nat} {own : String} {z : zE} {cells slots : Nat} {ρ : Type} {Wf : zG → Nat → Nat → va_E} {fin : ρ → zG → List Value → Prop} {ri : Instr} {Q : ρ → State → Prop} {pc q k0 : Nat} {lv : List (Nat × Value)} {st stk rest As : List Value} {g : zG}
theorem j_si {M : Option (Int32 × zG)} {f : Int32 → zG → Option ρ} (hr : RN p l e R s m args below meth c cc nL own z cells slots Wf pc stk rest g M osi (fun x => x.2)) (hq : pc + 3 = q) (hk : ∀ (x : Int32) (g1 : zG), zJ p l e R s m args below meth c cc nL own z cells slots Wf fin ri Q q lv (.int x :: rest) g1 (f x g1)) : zJ p l e R s m args below meth c cc nL own z cells slots Wf fin ri Q pc lv stk g (M.bind fun x => f x.1 x.2) := j_call (f := fun x : Int32 × zG => f x.1 x.2) hr hq (fun x => hk x.1 x.2)
theorem j_sv {M : Option zG} {f : zG → Option ρ} (hr : RN p l e R s m args below meth c cc nL own z cells slots Wf pc stk rest g M osv (fun x => x)) (hq : pc + 3 = q) (hk : ∀ (g1 : zG), zJ p l e R s m args below meth c cc nL own z cells slots Wf fin ri Q q lv rest g1 (f g1)) : zJ p l e R s m args below meth c cc nL own z cells slots Wf fin ri Q pc lv stk g (M.bind f) := j_call (f := f) hr hq hk
end CALLS3
/-- a method's contract out of its walk -/
theorem ms_of {l : Launch} {y : MethodName} {b : ByteArray} {n : Nat} {ret : Option FieldType} {rm : Room} {z : zE} {As : List Value} {Γ ρ : Type} {Wf : Γ → Nat → Nat → va_E} {ri : Instr} {out : ρ → Option Value} {nxt : ρ → Γ} {ok : ρ → Prop} {lv : List (Nat × Value)} {g : Γ} {M : Option ρ} (hy : plainName y.cls = true) (hcs : rm.cells = 0 ∧ rm.slots = 0) (hlen : (lg_sl As).length ≤ n) (hlv : lv_args 0 As = lv)
    (hend : ∀ (p : Program) (e : Env) (s : State) (m : MethodId) (below : List Frame) (meth : Method) (c : Code), p.tables.exec = Jvm.exec → c.code = b → meth.sig.returnType = ret → meth.locks = false → ∀ (x : ρ) (H : Heap) (locs : List Loc) (ls : Array Slot) (pc : Nat), ok x → Wd z (Wf (nxt x)) H → va_S (zA z) s.heap H locs → decode b pc = .ok (ri, 1) → W p l e rm s m As.toArray below meth c H locs 0 0 (MQ below (QW z (out x) (Wf (nxt x))) As.toArray s 0 0 (zA z)) (F0 m pc ls (out x).toList))
    (h : ∀ (p : Program) (e : Env) (s : State) (m : MethodId) (below : List Frame) (meth : Method) (c : Code), zJ p l e rm s m As.toArray below meth c b n y.cls z 0 0 Wf (fun x g v => ok x ∧ g = nxt x ∧ v = (out x).toList) ri (fun x => MQ below (QW z (out x) (Wf (nxt x))) As.toArray s 0 0 (zA z)) 0 lv [] g M) :
    ∀ x, M = some x → Ms l y b n ret rm z As (Wf g) (out x) (Wf (nxt x)) := by
  intro x hx
  refine Met.ofW (cc := b) (maxL := n) (ret := ret) hy rfl ?_
  intro p e s m args below meth c s₁ B hml hv
  obtain ⟨rfl, hW, hX⟩ := hv
  have hts := atoms_spec (ws := .code y b n ret :: lw_gt) B.pre
  have hown : s.vm.findClass y.cls = some m.cls := findClass_of_methodNamed B.named
  have hl := lv_entry As (n := n) hlen
  rw [lg_entry_eq]
  rw [hlv] at hl
  exact h p e s m below meth c ⟨⟨B.exec, B.bytes, hml, hown, fun w hw => hts w (List.mem_cons_of_mem _ hw)⟩, hX, Nat.zero_le _, Nat.zero_le _⟩ (fun x g v hf H locs ls pc hW hS d => by
    obtain ⟨h0, rfl, rfl⟩ := hf
    exact hend p e s m below meth c B.exec B.bytes B.returns B.notSynchronized x H locs ls pc h0 hW hS d) x hx s.heap [] _ hW va_S.rf hl
section ENDS
variable {l : Launch} {b : ByteArray} {rm : Room} {z : zE} {As : List Value} {Γ ρ : Type} {Wf : Γ → Nat → Nat → va_E} {nxt : ρ → Γ}
theorem en_i {out : ρ → Int32} (p : Program) (e : Env) (s : State) (m : MethodId) (below : List Frame) (meth : Method) (c : Code) (hx : p.tables.exec = Jvm.exec) (hb : c.code = b) (hr : meth.sig.returnType = some .int) (hk : meth.locks = false) (x : ρ) (H : Heap) (locs : List Loc) (ls : Array Slot) (pc : Nat) (_ : True) (hW : Wd z (Wf (nxt x)) H) (hS : va_S (zA z) s.heap H locs) (d : decode b pc = .ok (.ireturn, 1)) : W p l e rm s m As.toArray below meth c H locs 0 0 (MQ below (QW z (some (.int (out x))) (Wf (nxt x))) As.toArray s 0 0 (zA z)) (F0 m pc ls [.int (out x)]) :=
  W.iret (v := out x) hx hb hr (fun t ht _ => ⟨rfl, by rw [ht]; exact hW, hS.F ht⟩) hS.2.2 d hk
theorem en_z {out : ρ → Int32} (p : Program) (e : Env) (s : State) (m : MethodId) (below : List Frame) (meth : Method) (c : Code) (hx : p.tables.exec = Jvm.exec) (hb : c.code = b) (hr : meth.sig.returnType = some .boolean) (hk : meth.locks = false) (x : ρ) (H : Heap) (locs : List Loc) (ls : Array Slot) (pc : Nat) (ho : isb (out x) = true) (hW : Wd z (Wf (nxt x)) H) (hS : va_S (zA z) s.heap H locs) (d : decode b pc = .ok (.ireturn, 1)) : W p l e rm s m As.toArray below meth c H locs 0 0 (MQ below (QW z (some (.int (out x))) (Wf (nxt x))) As.toArray s 0 0 (zA z)) (F0 m pc ls [.int (out x)]) :=
  W.zret (v := out x) hx hb hr (isb_narrow ho) (fun t ht _ => ⟨rfl, by rw [ht]; exact hW, hS.F ht⟩) hS.2.2 d hk
theorem en_l {out : ρ → Int64} (p : Program) (e : Env) (s : State) (m : MethodId) (below : List Frame) (meth : Method) (c : Code) (hx : p.tables.exec = Jvm.exec) (hb : c.code = b) (hr : meth.sig.returnType = some .long) (hk : meth.locks = false) (x : ρ) (H : Heap) (locs : List Loc) (ls : Array Slot) (pc : Nat) (_ : True) (hW : Wd z (Wf (nxt x)) H) (hS : va_S (zA z) s.heap H locs) (d : decode b pc = .ok (.lreturn, 1)) : W p l e rm s m As.toArray below meth c H locs 0 0 (MQ below (QW z (some (.long (out x))) (Wf (nxt x))) As.toArray s 0 0 (zA z)) (F0 m pc ls [.long (out x)]) :=
  W.lret (v := out x) hx hb hr (fun t ht _ => ⟨rfl, by rw [ht]; exact hW, hS.F ht⟩) hS.2.2 d hk
theorem en_v (p : Program) (e : Env) (s : State) (m : MethodId) (below : List Frame) (meth : Method) (c : Code) (hx : p.tables.exec = Jvm.exec) (hb : c.code = b) (hr : meth.sig.returnType = none) (hk : meth.locks = false) (x : ρ) (H : Heap) (locs : List Loc) (ls : Array Slot) (pc : Nat) (_ : True) (hW : Wd z (Wf (nxt x)) H) (hS : va_S (zA z) s.heap H locs) (d : decode b pc = .ok (.return_, 1)) : W p l e rm s m As.toArray below meth c H locs 0 0 (MQ below (QW z none (Wf (nxt x))) As.toArray s 0 0 (zA z)) (F0 m pc ls []) :=
  W.vret hx hb hr (fun t ht _ => ⟨rfl, by rw [ht]; exact hW, hS.F ht⟩) hS.2.2 d hk
theorem en_r {k0 : Nat} {C : String} {out : ρ → Option Nat} (p : Program) (e : Env) (s : State) (m : MethodId) (below : List Frame) (meth : Method) (c : Code) (hx : p.tables.exec = Jvm.exec) (hb : c.code = b) (hr : meth.sig.returnType = some (.object C)) (hk : meth.locks = false) (x : ρ) (H : Heap) (locs : List Loc) (ls : Array Slot) (pc : Nat) (_ : True) (hW : Wd z (Wf (nxt x)) H) (hS : va_S (zA z) s.heap H locs) (d : decode b pc = .ok (.areturn, 1)) : W p l e rm s m As.toArray below meth c H locs 0 0 (MQ below (QW z (some (vr z k0 (out x))) (Wf (nxt x))) As.toArray s 0 0 (zA z)) (F0 m pc ls [vr z k0 (out x)]) :=
  W.aret (v := vr z k0 (out x)) hx hb hr (Or.inl ⟨C, rfl⟩) (by cases out x with | none => exact Or.inl rfl | some a => exact Or.inr ⟨_, rfl⟩) (fun t ht _ => ⟨rfl, by rw [ht]; exact hW, hS.F ht⟩) hS.2.2 d hk
end ENDS
end
section
theorem dm_cases {k i : Nat} (h : i < dm k) : k = 4 ∨ k = 5 ∨ k = 6 ∨ k = 7 ∨ k = 8 ∨ k = 16 ∨ k = 17 ∨ k = 41 ∨ k = 42 ∨ k = 43 ∨ k = 44 ∨ k = 55 ∨ k = 60 ∨ k = 70 ∨ k = 71 ∨ k = 72 ∨ k = 73 ∨ k = 74 ∨ k = 75 ∨ k = 76 ∨ k = 77 ∨ k = 80 ∨ k = 81 ∨ k = 82 ∨ k = 100 ∨ k = 101 ∨ k = 102 ∨ k = 103 ∨ k = 104 ∨ k = 105 ∨ k = 106 ∨ k = 107 ∨ k = 108 ∨ k = 109 ∨ k = 110 ∨ k = 111 ∨ k = 112 ∨ k = 113 := by
  apply Classical.byContradiction; intro hn
  simp only [not_or] at hn
  obtain ⟨h4, h5, h6, h7, h8, h16, h17, h41, h42, h43, h44, h55, h60, h70, h71, h72, h73, h74, h75, h76, h77, h80, h81, h82, h100, h101, h102, h103, h104, h105, h106, h107, h108, h109, h110, h111, h112, h113⟩ := hn
  simp only [dm, if_neg h4, if_neg h5, if_neg h6, if_neg h7, if_neg h8, if_neg h16, if_neg h17, if_neg h41, if_neg h42, if_neg h43, if_neg h44, if_neg h55, if_neg h60, if_neg h70, if_neg h71, if_neg h72, if_neg h73, if_neg h74, if_neg h75, if_neg h76, if_neg h77, if_neg h80, if_neg h81, if_neg h82, if_neg h100, if_neg h101, if_neg h102, if_neg h103, if_neg h104, if_neg h105, if_neg h106, if_neg h107, if_neg h108, if_neg h109, if_neg h110, if_neg h111, if_neg h112, if_neg h113] at h
  exact Nat.not_lt_zero _ h
theorem cel_70 (z : zE) (x m : zG) (i : Nat) : cel z x m 70 i = .inr (0, [.ref (za z 72 (11 * i)), .ref (za z 80 i), .int (gi x 30 i 0), .int (gi x 31 i 0)]) := rfl
theorem cel_71 (z : zE) (x m : zG) (i : Nat) : cel z x m 71 i = .inr (1, [.int (gi x 20 i 0), .int (gi x 21 i 0), .int (gi x 22 i 0), .int (gi x 23 i 0), .int (gi x 24 i 0), .int (gi x 25 i 0), .int (gi x 26 i 0)]) := rfl
theorem cel_72 (z : zE) (x m : zG) (i : Nat) : cel z x m 72 i = .inr (2, [.int (gi x 0 i 0), .int (gi x 1 i 0), .int (gi x 2 i 0), .int (gi x 3 i 0), .ref (za z 4 i), .ref (za z 5 i), .ref (za z 6 i), .ref (za z 7 i), .ref (za z 8 i)]) := rfl
theorem cel_73 (z : zE) (x m : zG) (i : Nat) : cel z x m 73 i = .inr (3, [.ref (za z 16 i), .int (gi x 10 i 0), .int (gi x 11 i 0), .ref (za z 81 i), .int (gi x 12 i 0), .ref (za z 17 i), .int (gi x 13 i 0), .int (gi x 14 i 0), .int (gi x 15 i 0)]) := rfl
theorem cel_74 (z : zE) (x m : zG) (i : Nat) : cel z x m 74 i = .inr (4, [.ref (za z 41 i), .ref (za z 42 i), .ref (za z 43 i), .int (gi x 40 i 0), .ref (za z 44 i)]) := rfl
theorem cel_75 (z : zE) (x m : zG) (i : Nat) : cel z x m 75 i = .inr (5, [.ref (za z 55 i), .int (gi x 50 i 0), .int (gi x 51 i 0), .int (gi x 52 i 0), .int (gi x 53 i 0), .int (gi x 54 i 0)]) := rfl
theorem cel_76 (z : zE) (x m : zG) (i : Nat) : cel z x m 76 i = .inr (6, [.ref (za z 75 0), .ref (za z 70 0), .ref (za z 72 33), .ref (za z 74 0), .ref (za z 82 0), .ref (za z 60 0), .ref (za z 73 (gn x 0)), .ref (za z 73 (gn x 1)), .long (gl x 0)]) := rfl
theorem cel_77 (z : zE) (x m : zG) (i : Nat) : cel z x m 77 i = .inr (7, [.ref (za z 100 0), .ref (za z 101 0), .ref (za z 102 0), .ref (za z 103 0), .ref (za z 104 0), .int (gi m 120 i 0), .int (gi m 121 i 0), .ref (za z 105 0), .ref (za z 106 0), .int (gi m 122 i 0), .ref (za z 107 0), .int (gi m 123 i 0), .long (gl m 0), .ref (za z 108 0), .int (gi m 124 i 0), .int (gi m 125 i 0), .int (gi m 126 i 0), .int (gi m 127 i 0), .int (gi m 128 i 0), .ref (za z 109 0), .int (gi m 129 i 0), .int (gi m 130 i 0), .ref (za z 110 0), .int (gi m 131 i 0), .int (gi m 132 i 0), .ref (za z 111 0), .ref (za z 112 0), .ref (za z 113 0)]) := rfl
theorem cel_80 (z : zE) (x m : zG) (i : Nat) : cel z x m 80 i = .inl (zc z 4, 10, .inr (.inr (.inr (.inr (fun j => if j < 10 then some (za z 72 (11 * i + 1 + j)) else none))))) := rfl
theorem cel_81 (z : zE) (x m : zG) (i : Nat) : cel z x m 81 i = .inl (zc z 3, 6, .inr (.inr (.inr (.inr (fun j => if j < 6 then some (za z 71 (6 * i + j)) else none))))) := rfl
theorem cel_82 (z : zE) (x m : zG) (i : Nat) : cel z x m 82 i = .inl (zc z 2, 2, .inr (.inr (.inr (.inr (fun j => if j < 2 then some (za z 70 (1 + j)) else none))))) := rfl
theorem cel_60 (z : zE) (x m : zG) (i : Nat) : cel z x m 60 i = .inl (zc z 1, 2, .inl (gi x 60 i)) := rfl
def isX (k : Nat) : Prop := k = 4 ∨ k = 5 ∨ k = 6 ∨ k = 7 ∨ k = 8 ∨ k = 16 ∨ k = 17 ∨ k = 41 ∨ k = 42 ∨ k = 43 ∨ k = 44 ∨ k = 55
def isM (k : Nat) : Prop := k = 100 ∨ k = 101 ∨ k = 102 ∨ k = 103 ∨ k = 104 ∨ k = 105 ∨ k = 106 ∨ k = 107 ∨ k = 108 ∨ k = 109 ∨ k = 110 ∨ k = 111 ∨ k = 112 ∨ k = 113
theorem isX_4 : isX 4 := by simp [isX]
theorem isX_5 : isX 5 := by simp [isX]
theorem isX_6 : isX 6 := by simp [isX]
theorem isX_7 : isX 7 := by simp [isX]
theorem isX_8 : isX 8 := by simp [isX]
theorem isX_16 : isX 16 := by simp [isX]
theorem isX_17 : isX 17 := by simp [isX]
theorem isX_41 : isX 41 := by simp [isX]
theorem isX_42 : isX 42 := by simp [isX]
theorem isX_43 : isX 43 := by simp [isX]
theorem isX_44 : isX 44 := by simp [isX]
theorem isX_55 : isX 55 := by simp [isX]
theorem isM_100 : isM 100 := by simp [isM]
theorem isM_101 : isM 101 := by simp [isM]
theorem isM_102 : isM 102 := by simp [isM]
theorem isM_103 : isM 103 := by simp [isM]
theorem isM_104 : isM 104 := by simp [isM]
theorem isM_105 : isM 105 := by simp [isM]
theorem isM_106 : isM 106 := by simp [isM]
theorem isM_107 : isM 107 := by simp [isM]
theorem isM_108 : isM 108 := by simp [isM]
theorem isM_109 : isM 109 := by simp [isM]
theorem isM_110 : isM 110 := by simp [isM]
theorem isM_111 : isM 111 := by simp [isM]
theorem isM_112 : isM 112 := by simp [isM]
theorem isM_113 : isM 113 := by simp [isM]
theorem cel_x {z : zE} {x m : zG} {k i : Nat} (h : isX k) : cel z x m k i = .inl (zc z 0, ln k, .inl (gi x k i)) := by
  rcases h with rfl | rfl | rfl | rfl | rfl | rfl | rfl | rfl | rfl | rfl | rfl | rfl <;> rfl
theorem cel_m {z : zE} {x m : zG} {k i : Nat} (h : isM k) : cel z x m k i = .inl (zc z 0, ln k, .inl (gi m k i)) := by
  rcases h with rfl | rfl | rfl | rfl | rfl | rfl | rfl | rfl | rfl | rfl | rfl | rfl | rfl | rfl <;> rfl
theorem upd_row {g : zG} {k i j : Nat} {v : Int32} : upd (gi g k i) j v = gi (ui g k i j v) k i := by
  funext d
  by_cases h : d = j <;> simp [upd, gi_ui, h]
theorem gi_row_ne {g : zG} {k i j a b : Nat} {v : Int32} (h : ¬ (a = k ∧ b = i)) : gi (ui g k i j v) a b = gi g a b := by
  funext d
  rw [gi_ui, if_neg (fun h2 => h ⟨h2.1, h2.2.1⟩)]
set_option maxHeartbeats 4000000 in
theorem up_x {z : zE} {x m : zG} {k i j : Nat} {v : Int32} (hk : isX k) : ∀ a b, b < dm a → upc (wx z m x) k i (.inl (zc z 0, ln k, .inl (upd (gi x k i) j v))) a b = wx z m (ui x k i j v) a b := by
  intro a b hb
  by_cases hab : a = k ∧ b = i
  · rw [upc, if_pos hab, upd_row]; obtain ⟨rfl, rfl⟩ := hab; exact (cel_x hk).symm
  · rw [upc, if_neg hab]
    by_cases ha : a = k
    · subst ha; show cel _ _ _ _ _ = cel _ _ _ _ _; rw [cel_x hk, cel_x hk, gi_row_ne hab]
    · rcases hk with rfl | rfl | rfl | rfl | rfl | rfl | rfl | rfl | rfl | rfl | rfl | rfl <;>
        rcases dm_cases hb with rfl | rfl | rfl | rfl | rfl | rfl | rfl | rfl | rfl | rfl | rfl | rfl | rfl | rfl | rfl | rfl | rfl | rfl | rfl | rfl | rfl | rfl | rfl | rfl | rfl | rfl | rfl | rfl | rfl | rfl | rfl | rfl | rfl | rfl | rfl | rfl | rfl | rfl <;> first | rfl | exact absurd rfl ha
set_option maxHeartbeats 4000000 in
theorem up_m {z : zE} {x m : zG} {k i j : Nat} {v : Int32} (hk : isM k) : ∀ a b, b < dm a → upc (wm z x m) k i (.inl (zc z 0, ln k, .inl (upd (gi m k i) j v))) a b = wm z x (ui m k i j v) a b := by
  intro a b hb
  by_cases hab : a = k ∧ b = i
  · rw [upc, if_pos hab, upd_row]; obtain ⟨rfl, rfl⟩ := hab; exact (cel_m hk).symm
  · rw [upc, if_neg hab]
    by_cases ha : a = k
    · subst ha; show cel _ _ _ _ _ = cel _ _ _ _ _; rw [cel_m hk, cel_m hk, gi_row_ne hab]
    · rcases hk with rfl | rfl | rfl | rfl | rfl | rfl | rfl | rfl | rfl | rfl | rfl | rfl | rfl | rfl <;>
        rcases dm_cases hb with rfl | rfl | rfl | rfl | rfl | rfl | rfl | rfl | rfl | rfl | rfl | rfl | rfl | rfl | rfl | rfl | rfl | rfl | rfl | rfl | rfl | rfl | rfl | rfl | rfl | rfl | rfl | rfl | rfl | rfl | rfl | rfl | rfl | rfl | rfl | rfl | rfl | rfl <;> first | rfl | exact absurd rfl ha
theorem hin_X0 : ∀ w ∈ u_ws RX0 TX0 4, w ∈ lw_gt := by
  intro w hw
  obtain ⟨k, hk, rfl⟩ := List.mem_map.mp hw
  have hk := List.mem_range.mp hk
  rcases (show k = 0 ∨ k = 1 ∨ k = 2 ∨ k = 3 by omega) with rfl | rfl | rfl | rfl
  · exact wL_X0_now
  · exact wL_X0_known
  · exact wL_X0_oldest
  · exact wL_X0_knownCount
theorem hin_X1 : ∀ w ∈ u_ws RX1 TX1 7, w ∈ lw_gt := by
  intro w hw
  obtain ⟨k, hk, rfl⟩ := List.mem_map.mp hw
  have hk := List.mem_range.mp hk
  rcases (show k = 0 ∨ k = 1 ∨ k = 2 ∨ k = 3 ∨ k = 4 ∨ k = 5 ∨ k = 6 by omega) with rfl | rfl | rfl | rfl | rfl | rfl | rfl
  · exact wL_X1_pages
  · exact wL_X1_copies
  · exact wL_X1_both
  · exact wL_X1_sorted
  · exact wL_X1_tray
  · exact wL_X1_leaves
  · exact wL_X1_run
theorem hin_X2 : ∀ w ∈ u_ws RX2 TX2 9, w ∈ lw_gt := by
  intro w hw
  obtain ⟨k, hk, rfl⟩ := List.mem_map.mp hw
  have hk := List.mem_range.mp hk
  rcases (show k = 0 ∨ k = 1 ∨ k = 2 ∨ k = 3 ∨ k = 4 ∨ k = 5 ∨ k = 6 ∨ k = 7 ∨ k = 8 by omega) with rfl | rfl | rfl | rfl | rfl | rfl | rfl | rfl | rfl
  · exact wL_X2_tick
  · exact wL_X2_toner
  · exact wL_X2_half
  · exact wL_X2_queued
  · exact wL_X2_queue
  · exact wL_X2_made
  · exact wL_X2_ends
  · exact wL_X2_trays
  · exact wL_X2_bins
theorem hin_X3 : ∀ w ∈ u_ws RX3 TX3 9, w ∈ lw_gt := by
  intro w hw
  obtain ⟨k, hk, rfl⟩ := List.mem_map.mp hw
  have hk := List.mem_range.mp hk
  rcases (show k = 0 ∨ k = 1 ∨ k = 2 ∨ k = 3 ∨ k = 4 ∨ k = 5 ∨ k = 6 ∨ k = 7 ∨ k = 8 by omega) with rfl | rfl | rfl | rfl | rfl | rfl | rfl | rfl | rfl
  · exact wL_X3_trays
  · exact wL_X3_toner
  · exact wL_X3_bins
  · exact wL_X3_jobs
  · exact wL_X3_jobCount
  · exact wL_X3_numbers
  · exact wL_X3_traysTold
  · exact wL_X3_tonerTold
  · exact wL_X3_binsTold
theorem hin_X4 : ∀ w ∈ u_ws RX4 TX4 5, w ∈ lw_gt := by
  intro w hw
  obtain ⟨k, hk, rfl⟩ := List.mem_map.mp hw
  have hk := List.mem_range.mp hk
  rcases (show k = 0 ∨ k = 1 ∨ k = 2 ∨ k = 3 ∨ k = 4 by omega) with rfl | rfl | rfl | rfl | rfl
  · exact wL_X4_sheets
  · exact wL_X4_pages
  · exact wL_X4_there
  · exact wL_X4_size
  · exact wL_X4_withFront
theorem hin_X5 : ∀ w ∈ u_ws RX5 TX5 6, w ∈ lw_gt := by
  intro w hw
  obtain ⟨k, hk, rfl⟩ := List.mem_map.mp hw
  have hk := List.mem_range.mp hk
  rcases (show k = 0 ∨ k = 1 ∨ k = 2 ∨ k = 3 ∨ k = 4 ∨ k = 5 by omega) with rfl | rfl | rfl | rfl | rfl | rfl
  · exact wL_X5_bytes
  · exact wL_X5_length
  · exact wL_X5_place
  · exact wL_X5_token
  · exact wL_X5_start
  · exact wL_X5_value
theorem hin_X6 : ∀ w ∈ u_ws RX6 TX6 9, w ∈ lw_gt := by
  intro w hw
  obtain ⟨k, hk, rfl⟩ := List.mem_map.mp hw
  have hk := List.mem_range.mp hk
  rcases (show k = 0 ∨ k = 1 ∨ k = 2 ∨ k = 3 ∨ k = 4 ∨ k = 5 ∨ k = 6 ∨ k = 7 ∨ k = 8 by omega) with rfl | rfl | rfl | rfl | rfl | rfl | rfl | rfl | rfl
  · exact wL_X6_text
  · exact wL_X6_course
  · exact wL_X6_trial
  · exact wL_X6_seen
  · exact wL_X6_images
  · exact wL_X6_kept
  · exact wL_X6_plan
  · exact wL_X6_nextPlan
  · exact wL_X6_traced
theorem hin_X7 : ∀ w ∈ u_ws RX7 TX7 28, w ∈ lw_gt := by
  intro w hw
  obtain ⟨k, hk, rfl⟩ := List.mem_map.mp hw
  have hk := List.mem_range.mp hk
  rcases (show k = 0 ∨ k = 1 ∨ k = 2 ∨ k = 3 ∨ k = 4 ∨ k = 5 ∨ k = 6 ∨ k = 7 ∨ k = 8 ∨ k = 9 ∨ k = 10 ∨ k = 11 ∨ k = 12 ∨ k = 13 ∨ k = 14 ∨ k = 15 ∨ k = 16 ∨ k = 17 ∨ k = 18 ∨ k = 19 ∨ k = 20 ∨ k = 21 ∨ k = 22 ∨ k = 23 ∨ k = 24 ∨ k = 25 ∨ k = 26 ∨ k = 27 by omega) with rfl | rfl | rfl | rfl | rfl | rfl | rfl | rfl | rfl | rfl | rfl | rfl | rfl | rfl | rfl | rfl | rfl | rfl | rfl | rfl | rfl | rfl | rfl | rfl | rfl | rfl | rfl | rfl
  · exact wL_X7_pages
  · exact wL_X7_copies
  · exact wL_X7_both
  · exact wL_X7_sorted
  · exact wL_X7_trays
  · exact wL_X7_jobs
  · exact wL_X7_bins
  · exact wL_X7_st
  · exact wL_X7_past
  · exact wL_X7_undoMany
  · exact wL_X7_seen
  · exact wL_X7_seenMany
  · exact wL_X7_trace
  · exact wL_X7_text
  · exact wL_X7_length
  · exact wL_X7_place
  · exact wL_X7_from
  · exact wL_X7_sort
  · exact wL_X7_value
  · exact wL_X7_newTrays
  · exact wL_X7_newInk
  · exact wL_X7_newBins
  · exact wL_X7_newJobs
  · exact wL_X7_newMany
  · exact wL_X7_told
  · exact wL_X7_aside
  · exact wL_X7_images
  · exact wL_X7_isKept
theorem isb_fits {r : Int32} (h : isb r = true) : fits .boolean (.int r) = true := by
  rcases of_decide_eq_true h with rfl | rfl <;> rfl
section FLDX0
variable {p : Program} {l : Launch} {e : Env} {R : Room} {s : State} {m : MethodId} {args : Array Value} {below : List Frame} {meth : Method} {c : Code} {cc : ByteArray} {nL : Nat} {own host : String} {z : zE} {cells slots : Nat} {ρ : Type} {gm gx : zG} {fin : ρ → zG → List Value → Prop} {ri : Instr} {Q : ρ → State → Prop} {pc q i idx : Nat} {lv : List (Nat × Value)} {st : List Value} {g : zG} {M : Option ρ} {F : zG → Option ρ}
theorem g_X0_now (hL : Cond.fieldLink own idx "CopierJobs$Course" "now" "LCopierJobs$Now;" ∈ lw_gt) (hi : i < dm 70) (d : decode cc pc = .ok (.getfield idx, 3)) (hq : pc + 3 = q) (kk : zJ p l e R s m args below meth c cc nL own z cells slots (wx z gm) fin ri Q q lv (.ref (za z 72 (11 * i)) :: st) g M) : zJ p l e R s m args below meth c cc nL own z cells slots (wx z gm) fin ri Q pc lv (.ref (za z 70 i) :: st) g M := j_get (ci := 0) (k := 70) (f := 0) rfl hin_X0 (by decide) hL hi (cel_70 z g gm i) rfl d hq kk
theorem gN_X0_now (hL : Cond.fieldLinkNest own idx "CopierJobs$Course" "now" "LCopierJobs$Now;" host ∈ lw_nt) (hi : i < dm 70) (d : decode cc pc = .ok (.getfield idx, 3)) (hq : pc + 3 = q) (kk : zJ p l e R s m args below meth c cc nL own z cells slots (wx z gm) fin ri Q q lv (.ref (za z 72 (11 * i)) :: st) g M) : zJ p l e R s m args below meth c cc nL own z cells slots (wx z gm) fin ri Q pc lv (.ref (za z 70 i) :: st) g M := j_getN (ci := 0) (k := 70) (f := 0) rfl hin_X0 (by decide) hL hi (cel_70 z g gm i) rfl d hq kk
theorem g_X0_known (hL : Cond.fieldLink own idx "CopierJobs$Course" "known" "[LCopierJobs$Now;" ∈ lw_gt) (hi : i < dm 70) (d : decode cc pc = .ok (.getfield idx, 3)) (hq : pc + 3 = q) (kk : zJ p l e R s m args below meth c cc nL own z cells slots (wx z gm) fin ri Q q lv (.ref (za z 80 i) :: st) g M) : zJ p l e R s m args below meth c cc nL own z cells slots (wx z gm) fin ri Q pc lv (.ref (za z 70 i) :: st) g M := j_get (ci := 0) (k := 70) (f := 1) rfl hin_X0 (by decide) hL hi (cel_70 z g gm i) rfl d hq kk
theorem gN_X0_known (hL : Cond.fieldLinkNest own idx "CopierJobs$Course" "known" "[LCopierJobs$Now;" host ∈ lw_nt) (hi : i < dm 70) (d : decode cc pc = .ok (.getfield idx, 3)) (hq : pc + 3 = q) (kk : zJ p l e R s m args below meth c cc nL own z cells slots (wx z gm) fin ri Q q lv (.ref (za z 80 i) :: st) g M) : zJ p l e R s m args below meth c cc nL own z cells slots (wx z gm) fin ri Q pc lv (.ref (za z 70 i) :: st) g M := j_getN (ci := 0) (k := 70) (f := 1) rfl hin_X0 (by decide) hL hi (cel_70 z g gm i) rfl d hq kk
theorem g_X0_oldest (hL : Cond.fieldLink own idx "CopierJobs$Course" "oldest" "I" ∈ lw_gt) (hi : i < dm 70) (d : decode cc pc = .ok (.getfield idx, 3)) (hq : pc + 3 = q) (kk : zJ p l e R s m args below meth c cc nL own z cells slots (wx z gm) fin ri Q q lv (.int (gi g 30 i 0) :: st) g M) : zJ p l e R s m args below meth c cc nL own z cells slots (wx z gm) fin ri Q pc lv (.ref (za z 70 i) :: st) g M := j_get (ci := 0) (k := 70) (f := 2) rfl hin_X0 (by decide) hL hi (cel_70 z g gm i) rfl d hq kk
theorem gN_X0_oldest (hL : Cond.fieldLinkNest own idx "CopierJobs$Course" "oldest" "I" host ∈ lw_nt) (hi : i < dm 70) (d : decode cc pc = .ok (.getfield idx, 3)) (hq : pc + 3 = q) (kk : zJ p l e R s m args below meth c cc nL own z cells slots (wx z gm) fin ri Q q lv (.int (gi g 30 i 0) :: st) g M) : zJ p l e R s m args below meth c cc nL own z cells slots (wx z gm) fin ri Q pc lv (.ref (za z 70 i) :: st) g M := j_getN (ci := 0) (k := 70) (f := 2) rfl hin_X0 (by decide) hL hi (cel_70 z g gm i) rfl d hq kk
theorem up_X0_oldest (z : zE) (x m : zG) (i : Nat) (v : Int32) : ∀ a b, b < dm a → upc (wx z m x) 70 i (.inr (0, [.ref (za z 72 (11 * i)), .ref (za z 80 i), .int v, .int (gi x 31 i 0)])) a b = wx z m (ui x 30 i 0 v) a b := by
  intro a b hb
  by_cases ha : a = 70
  · subst ha; by_cases h : b = i
    · subst h; simp [upc, cel_70, gi_ui, gl_ui, gn_ui, gi_ul, gl_ul, gn_ul, gi_un, gl_un, gn_un]
    · simp [upc, cel_70, gi_ui, gl_ui, gn_ui, gi_ul, gl_ul, gn_ul, gi_un, gl_un, gn_un, h]
  · rw [upc, if_neg (fun h => ha h.1)]
    rcases dm_cases hb with rfl | rfl | rfl | rfl | rfl | rfl | rfl | rfl | rfl | rfl | rfl | rfl | rfl | rfl | rfl | rfl | rfl | rfl | rfl | rfl | rfl | rfl | rfl | rfl | rfl | rfl | rfl | rfl | rfl | rfl | rfl | rfl | rfl | rfl | rfl | rfl | rfl | rfl <;> first | rfl | exact absurd rfl ha
theorem p_X0_oldest {v : Int32} (hL : Cond.fieldLink own idx "CopierJobs$Course" "oldest" "I" ∈ lw_gt) (hi : i < dm 70) (d : decode cc pc = .ok (.putfield idx, 3)) (hq : pc + 3 = q) (kk : ∀ g1, zJ p l e R s m args below meth c cc nL own z cells slots (wx z gm) fin ri Q q lv st g1 (F g1)) : zJ p l e R s m args below meth c cc nL own z cells slots (wx z gm) fin ri Q pc lv (.int v :: .ref (za z 70 i) :: st) g (bd (ui g 30 i 0 v) F) := j_put (ci := 0) (k := 70) (f := 2) rfl hin_X0 tyX0 tyX0_ok nmX0 (by decide) rfl (ty := .int) (by decide +kernel) hL hi (cel_70 z g gm i) (Nat.le_of_ble_eq_true rfl) rfl rfl (up_X0_oldest z g gm i v) d hq kk
theorem pN_X0_oldest {v : Int32} (hL : Cond.fieldLinkNest own idx "CopierJobs$Course" "oldest" "I" host ∈ lw_nt) (hi : i < dm 70) (d : decode cc pc = .ok (.putfield idx, 3)) (hq : pc + 3 = q) (kk : ∀ g1, zJ p l e R s m args below meth c cc nL own z cells slots (wx z gm) fin ri Q q lv st g1 (F g1)) : zJ p l e R s m args below meth c cc nL own z cells slots (wx z gm) fin ri Q pc lv (.int v :: .ref (za z 70 i) :: st) g (bd (ui g 30 i 0 v) F) := j_putN (ci := 0) (k := 70) (f := 2) rfl hin_X0 tyX0 tyX0_ok nmX0 (by decide) rfl (ty := .int) (by decide +kernel) hL hi (cel_70 z g gm i) (Nat.le_of_ble_eq_true rfl) rfl rfl (up_X0_oldest z g gm i v) d hq kk
theorem g_X0_knownCount (hL : Cond.fieldLink own idx "CopierJobs$Course" "knownCount" "I" ∈ lw_gt) (hi : i < dm 70) (d : decode cc pc = .ok (.getfield idx, 3)) (hq : pc + 3 = q) (kk : zJ p l e R s m args below meth c cc nL own z cells slots (wx z gm) fin ri Q q lv (.int (gi g 31 i 0) :: st) g M) : zJ p l e R s m args below meth c cc nL own z cells slots (wx z gm) fin ri Q pc lv (.ref (za z 70 i) :: st) g M := j_get (ci := 0) (k := 70) (f := 3) rfl hin_X0 (by decide) hL hi (cel_70 z g gm i) rfl d hq kk
theorem gN_X0_knownCount (hL : Cond.fieldLinkNest own idx "CopierJobs$Course" "knownCount" "I" host ∈ lw_nt) (hi : i < dm 70) (d : decode cc pc = .ok (.getfield idx, 3)) (hq : pc + 3 = q) (kk : zJ p l e R s m args below meth c cc nL own z cells slots (wx z gm) fin ri Q q lv (.int (gi g 31 i 0) :: st) g M) : zJ p l e R s m args below meth c cc nL own z cells slots (wx z gm) fin ri Q pc lv (.ref (za z 70 i) :: st) g M := j_getN (ci := 0) (k := 70) (f := 3) rfl hin_X0 (by decide) hL hi (cel_70 z g gm i) rfl d hq kk
theorem up_X0_knownCount (z : zE) (x m : zG) (i : Nat) (v : Int32) : ∀ a b, b < dm a → upc (wx z m x) 70 i (.inr (0, [.ref (za z 72 (11 * i)), .ref (za z 80 i), .int (gi x 30 i 0), .int v])) a b = wx z m (ui x 31 i 0 v) a b := by
  intro a b hb
  by_cases ha : a = 70
  · subst ha; by_cases h : b = i
    · subst h; simp [upc, cel_70, gi_ui, gl_ui, gn_ui, gi_ul, gl_ul, gn_ul, gi_un, gl_un, gn_un]
    · simp [upc, cel_70, gi_ui, gl_ui, gn_ui, gi_ul, gl_ul, gn_ul, gi_un, gl_un, gn_un, h]
  · rw [upc, if_neg (fun h => ha h.1)]
    rcases dm_cases hb with rfl | rfl | rfl | rfl | rfl | rfl | rfl | rfl | rfl | rfl | rfl | rfl | rfl | rfl | rfl | rfl | rfl | rfl | rfl | rfl | rfl | rfl | rfl | rfl | rfl | rfl | rfl | rfl | rfl | rfl | rfl | rfl | rfl | rfl | rfl | rfl | rfl | rfl <;> first | rfl | exact absurd rfl ha
theorem p_X0_knownCount {v : Int32} (hL : Cond.fieldLink own idx "CopierJobs$Course" "knownCount" "I" ∈ lw_gt) (hi : i < dm 70) (d : decode cc pc = .ok (.putfield idx, 3)) (hq : pc + 3 = q) (kk : ∀ g1, zJ p l e R s m args below meth c cc nL own z cells slots (wx z gm) fin ri Q q lv st g1 (F g1)) : zJ p l e R s m args below meth c cc nL own z cells slots (wx z gm) fin ri Q pc lv (.int v :: .ref (za z 70 i) :: st) g (bd (ui g 31 i 0 v) F) := j_put (ci := 0) (k := 70) (f := 3) rfl hin_X0 tyX0 tyX0_ok nmX0 (by decide) rfl (ty := .int) (by decide +kernel) hL hi (cel_70 z g gm i) (Nat.le_of_ble_eq_true rfl) rfl rfl (up_X0_knownCount z g gm i v) d hq kk
theorem pN_X0_knownCount {v : Int32} (hL : Cond.fieldLinkNest own idx "CopierJobs$Course" "knownCount" "I" host ∈ lw_nt) (hi : i < dm 70) (d : decode cc pc = .ok (.putfield idx, 3)) (hq : pc + 3 = q) (kk : ∀ g1, zJ p l e R s m args below meth c cc nL own z cells slots (wx z gm) fin ri Q q lv st g1 (F g1)) : zJ p l e R s m args below meth c cc nL own z cells slots (wx z gm) fin ri Q pc lv (.int v :: .ref (za z 70 i) :: st) g (bd (ui g 31 i 0 v) F) := j_putN (ci := 0) (k := 70) (f := 3) rfl hin_X0 tyX0 tyX0_ok nmX0 (by decide) rfl (ty := .int) (by decide +kernel) hL hi (cel_70 z g gm i) (Nat.le_of_ble_eq_true rfl) rfl rfl (up_X0_knownCount z g gm i v) d hq kk
end FLDX0
section FLDX1
variable {p : Program} {l : Launch} {e : Env} {R : Room} {s : State} {m : MethodId} {args : Array Value} {below : List Frame} {meth : Method} {c : Code} {cc : ByteArray} {nL : Nat} {own host : String} {z : zE} {cells slots : Nat} {ρ : Type} {gm gx : zG} {fin : ρ → zG → List Value → Prop} {ri : Instr} {Q : ρ → State → Prop} {pc q i idx : Nat} {lv : List (Nat × Value)} {st : List Value} {g : zG} {M : Option ρ} {F : zG → Option ρ}
theorem g_X1_pages (hL : Cond.fieldLink own idx "CopierJobs$Job" "pages" "I" ∈ lw_gt) (hi : i < dm 71) (d : decode cc pc = .ok (.getfield idx, 3)) (hq : pc + 3 = q) (kk : zJ p l e R s m args below meth c cc nL own z cells slots (wx z gm) fin ri Q q lv (.int (gi g 20 i 0) :: st) g M) : zJ p l e R s m args below meth c cc nL own z cells slots (wx z gm) fin ri Q pc lv (.ref (za z 71 i) :: st) g M := j_get (ci := 1) (k := 71) (f := 0) rfl hin_X1 (by decide) hL hi (cel_71 z g gm i) rfl d hq kk
theorem gN_X1_pages (hL : Cond.fieldLinkNest own idx "CopierJobs$Job" "pages" "I" host ∈ lw_nt) (hi : i < dm 71) (d : decode cc pc = .ok (.getfield idx, 3)) (hq : pc + 3 = q) (kk : zJ p l e R s m args below meth c cc nL own z cells slots (wx z gm) fin ri Q q lv (.int (gi g 20 i 0) :: st) g M) : zJ p l e R s m args below meth c cc nL own z cells slots (wx z gm) fin ri Q pc lv (.ref (za z 71 i) :: st) g M := j_getN (ci := 1) (k := 71) (f := 0) rfl hin_X1 (by decide) hL hi (cel_71 z g gm i) rfl d hq kk
theorem up_X1_pages (z : zE) (x m : zG) (i : Nat) (v : Int32) : ∀ a b, b < dm a → upc (wx z m x) 71 i (.inr (1, [.int v, .int (gi x 21 i 0), .int (gi x 22 i 0), .int (gi x 23 i 0), .int (gi x 24 i 0), .int (gi x 25 i 0), .int (gi x 26 i 0)])) a b = wx z m (ui x 20 i 0 v) a b := by
  intro a b hb
  by_cases ha : a = 71
  · subst ha; by_cases h : b = i
    · subst h; simp [upc, cel_71, gi_ui, gl_ui, gn_ui, gi_ul, gl_ul, gn_ul, gi_un, gl_un, gn_un]
    · simp [upc, cel_71, gi_ui, gl_ui, gn_ui, gi_ul, gl_ul, gn_ul, gi_un, gl_un, gn_un, h]
  · rw [upc, if_neg (fun h => ha h.1)]
    rcases dm_cases hb with rfl | rfl | rfl | rfl | rfl | rfl | rfl | rfl | rfl | rfl | rfl | rfl | rfl | rfl | rfl | rfl | rfl | rfl | rfl | rfl | rfl | rfl | rfl | rfl | rfl | rfl | rfl | rfl | rfl | rfl | rfl | rfl | rfl | rfl | rfl | rfl | rfl | rfl <;> first | rfl | exact absurd rfl ha
theorem p_X1_pages {v : Int32} (hL : Cond.fieldLink own idx "CopierJobs$Job" "pages" "I" ∈ lw_gt) (hi : i < dm 71) (d : decode cc pc = .ok (.putfield idx, 3)) (hq : pc + 3 = q) (kk : ∀ g1, zJ p l e R s m args below meth c cc nL own z cells slots (wx z gm) fin ri Q q lv st g1 (F g1)) : zJ p l e R s m args below meth c cc nL own z cells slots (wx z gm) fin ri Q pc lv (.int v :: .ref (za z 71 i) :: st) g (bd (ui g 20 i 0 v) F) := j_put (ci := 1) (k := 71) (f := 0) rfl hin_X1 tyX1 tyX1_ok nmX1 (by decide) rfl (ty := .int) (by decide +kernel) hL hi (cel_71 z g gm i) (Nat.le_of_ble_eq_true rfl) rfl rfl (up_X1_pages z g gm i v) d hq kk
theorem pN_X1_pages {v : Int32} (hL : Cond.fieldLinkNest own idx "CopierJobs$Job" "pages" "I" host ∈ lw_nt) (hi : i < dm 71) (d : decode cc pc = .ok (.putfield idx, 3)) (hq : pc + 3 = q) (kk : ∀ g1, zJ p l e R s m args below meth c cc nL own z cells slots (wx z gm) fin ri Q q lv st g1 (F g1)) : zJ p l e R s m args below meth c cc nL own z cells slots (wx z gm) fin ri Q pc lv (.int v :: .ref (za z 71 i) :: st) g (bd (ui g 20 i 0 v) F) := j_putN (ci := 1) (k := 71) (f := 0) rfl hin_X1 tyX1 tyX1_ok nmX1 (by decide) rfl (ty := .int) (by decide +kernel) hL hi (cel_71 z g gm i) (Nat.le_of_ble_eq_true rfl) rfl rfl (up_X1_pages z g gm i v) d hq kk
theorem g_X1_copies (hL : Cond.fieldLink own idx "CopierJobs$Job" "copies" "I" ∈ lw_gt) (hi : i < dm 71) (d : decode cc pc = .ok (.getfield idx, 3)) (hq : pc + 3 = q) (kk : zJ p l e R s m args below meth c cc nL own z cells slots (wx z gm) fin ri Q q lv (.int (gi g 21 i 0) :: st) g M) : zJ p l e R s m args below meth c cc nL own z cells slots (wx z gm) fin ri Q pc lv (.ref (za z 71 i) :: st) g M := j_get (ci := 1) (k := 71) (f := 1) rfl hin_X1 (by decide) hL hi (cel_71 z g gm i) rfl d hq kk
theorem gN_X1_copies (hL : Cond.fieldLinkNest own idx "CopierJobs$Job" "copies" "I" host ∈ lw_nt) (hi : i < dm 71) (d : decode cc pc = .ok (.getfield idx, 3)) (hq : pc + 3 = q) (kk : zJ p l e R s m args below meth c cc nL own z cells slots (wx z gm) fin ri Q q lv (.int (gi g 21 i 0) :: st) g M) : zJ p l e R s m args below meth c cc nL own z cells slots (wx z gm) fin ri Q pc lv (.ref (za z 71 i) :: st) g M := j_getN (ci := 1) (k := 71) (f := 1) rfl hin_X1 (by decide) hL hi (cel_71 z g gm i) rfl d hq kk
theorem up_X1_copies (z : zE) (x m : zG) (i : Nat) (v : Int32) : ∀ a b, b < dm a → upc (wx z m x) 71 i (.inr (1, [.int (gi x 20 i 0), .int v, .int (gi x 22 i 0), .int (gi x 23 i 0), .int (gi x 24 i 0), .int (gi x 25 i 0), .int (gi x 26 i 0)])) a b = wx z m (ui x 21 i 0 v) a b := by
  intro a b hb
  by_cases ha : a = 71
  · subst ha; by_cases h : b = i
    · subst h; simp [upc, cel_71, gi_ui, gl_ui, gn_ui, gi_ul, gl_ul, gn_ul, gi_un, gl_un, gn_un]
    · simp [upc, cel_71, gi_ui, gl_ui, gn_ui, gi_ul, gl_ul, gn_ul, gi_un, gl_un, gn_un, h]
  · rw [upc, if_neg (fun h => ha h.1)]
    rcases dm_cases hb with rfl | rfl | rfl | rfl | rfl | rfl | rfl | rfl | rfl | rfl | rfl | rfl | rfl | rfl | rfl | rfl | rfl | rfl | rfl | rfl | rfl | rfl | rfl | rfl | rfl | rfl | rfl | rfl | rfl | rfl | rfl | rfl | rfl | rfl | rfl | rfl | rfl | rfl <;> first | rfl | exact absurd rfl ha
theorem p_X1_copies {v : Int32} (hL : Cond.fieldLink own idx "CopierJobs$Job" "copies" "I" ∈ lw_gt) (hi : i < dm 71) (d : decode cc pc = .ok (.putfield idx, 3)) (hq : pc + 3 = q) (kk : ∀ g1, zJ p l e R s m args below meth c cc nL own z cells slots (wx z gm) fin ri Q q lv st g1 (F g1)) : zJ p l e R s m args below meth c cc nL own z cells slots (wx z gm) fin ri Q pc lv (.int v :: .ref (za z 71 i) :: st) g (bd (ui g 21 i 0 v) F) := j_put (ci := 1) (k := 71) (f := 1) rfl hin_X1 tyX1 tyX1_ok nmX1 (by decide) rfl (ty := .int) (by decide +kernel) hL hi (cel_71 z g gm i) (Nat.le_of_ble_eq_true rfl) rfl rfl (up_X1_copies z g gm i v) d hq kk
theorem pN_X1_copies {v : Int32} (hL : Cond.fieldLinkNest own idx "CopierJobs$Job" "copies" "I" host ∈ lw_nt) (hi : i < dm 71) (d : decode cc pc = .ok (.putfield idx, 3)) (hq : pc + 3 = q) (kk : ∀ g1, zJ p l e R s m args below meth c cc nL own z cells slots (wx z gm) fin ri Q q lv st g1 (F g1)) : zJ p l e R s m args below meth c cc nL own z cells slots (wx z gm) fin ri Q pc lv (.int v :: .ref (za z 71 i) :: st) g (bd (ui g 21 i 0 v) F) := j_putN (ci := 1) (k := 71) (f := 1) rfl hin_X1 tyX1 tyX1_ok nmX1 (by decide) rfl (ty := .int) (by decide +kernel) hL hi (cel_71 z g gm i) (Nat.le_of_ble_eq_true rfl) rfl rfl (up_X1_copies z g gm i v) d hq kk
theorem g_X1_both (hL : Cond.fieldLink own idx "CopierJobs$Job" "both" "Z" ∈ lw_gt) (hi : i < dm 71) (d : decode cc pc = .ok (.getfield idx, 3)) (hq : pc + 3 = q) (kk : zJ p l e R s m args below meth c cc nL own z cells slots (wx z gm) fin ri Q q lv (.int (gi g 22 i 0) :: st) g M) : zJ p l e R s m args below meth c cc nL own z cells slots (wx z gm) fin ri Q pc lv (.ref (za z 71 i) :: st) g M := j_get (ci := 1) (k := 71) (f := 2) rfl hin_X1 (by decide) hL hi (cel_71 z g gm i) rfl d hq kk
theorem gN_X1_both (hL : Cond.fieldLinkNest own idx "CopierJobs$Job" "both" "Z" host ∈ lw_nt) (hi : i < dm 71) (d : decode cc pc = .ok (.getfield idx, 3)) (hq : pc + 3 = q) (kk : zJ p l e R s m args below meth c cc nL own z cells slots (wx z gm) fin ri Q q lv (.int (gi g 22 i 0) :: st) g M) : zJ p l e R s m args below meth c cc nL own z cells slots (wx z gm) fin ri Q pc lv (.ref (za z 71 i) :: st) g M := j_getN (ci := 1) (k := 71) (f := 2) rfl hin_X1 (by decide) hL hi (cel_71 z g gm i) rfl d hq kk
theorem up_X1_both (z : zE) (x m : zG) (i : Nat) (v : Int32) : ∀ a b, b < dm a → upc (wx z m x) 71 i (.inr (1, [.int (gi x 20 i 0), .int (gi x 21 i 0), .int v, .int (gi x 23 i 0), .int (gi x 24 i 0), .int (gi x 25 i 0), .int (gi x 26 i 0)])) a b = wx z m (ui x 22 i 0 v) a b := by
  intro a b hb
  by_cases ha : a = 71
  · subst ha; by_cases h : b = i
    · subst h; simp [upc, cel_71, gi_ui, gl_ui, gn_ui, gi_ul, gl_ul, gn_ul, gi_un, gl_un, gn_un]
    · simp [upc, cel_71, gi_ui, gl_ui, gn_ui, gi_ul, gl_ul, gn_ul, gi_un, gl_un, gn_un, h]
  · rw [upc, if_neg (fun h => ha h.1)]
    rcases dm_cases hb with rfl | rfl | rfl | rfl | rfl | rfl | rfl | rfl | rfl | rfl | rfl | rfl | rfl | rfl | rfl | rfl | rfl | rfl | rfl | rfl | rfl | rfl | rfl | rfl | rfl | rfl | rfl | rfl | rfl | rfl | rfl | rfl | rfl | rfl | rfl | rfl | rfl | rfl <;> first | rfl | exact absurd rfl ha
theorem p_X1_both {v : Int32} (hL : Cond.fieldLink own idx "CopierJobs$Job" "both" "Z" ∈ lw_gt) (hi : i < dm 71) (d : decode cc pc = .ok (.putfield idx, 3)) (hq : pc + 3 = q) (kk : ∀ g1, zJ p l e R s m args below meth c cc nL own z cells slots (wx z gm) fin ri Q q lv st g1 (F g1)) : zJ p l e R s m args below meth c cc nL own z cells slots (wx z gm) fin ri Q pc lv (.int v :: .ref (za z 71 i) :: st) g (gd (isb v = true) (bd (ui g 22 i 0 v) F)) := j_gd (fun h => j_put (ci := 1) (k := 71) (f := 2) rfl hin_X1 tyX1 tyX1_ok nmX1 (by decide) rfl (ty := .boolean) (by decide +kernel) hL hi (cel_71 z g gm i) (Nat.le_of_ble_eq_true rfl) (isb_narrow h) (isb_fits h) (up_X1_both z g gm i v) d hq kk)
theorem pN_X1_both {v : Int32} (hL : Cond.fieldLinkNest own idx "CopierJobs$Job" "both" "Z" host ∈ lw_nt) (hi : i < dm 71) (d : decode cc pc = .ok (.putfield idx, 3)) (hq : pc + 3 = q) (kk : ∀ g1, zJ p l e R s m args below meth c cc nL own z cells slots (wx z gm) fin ri Q q lv st g1 (F g1)) : zJ p l e R s m args below meth c cc nL own z cells slots (wx z gm) fin ri Q pc lv (.int v :: .ref (za z 71 i) :: st) g (gd (isb v = true) (bd (ui g 22 i 0 v) F)) := j_gd (fun h => j_putN (ci := 1) (k := 71) (f := 2) rfl hin_X1 tyX1 tyX1_ok nmX1 (by decide) rfl (ty := .boolean) (by decide +kernel) hL hi (cel_71 z g gm i) (Nat.le_of_ble_eq_true rfl) (isb_narrow h) (isb_fits h) (up_X1_both z g gm i v) d hq kk)
theorem g_X1_sorted (hL : Cond.fieldLink own idx "CopierJobs$Job" "sorted" "Z" ∈ lw_gt) (hi : i < dm 71) (d : decode cc pc = .ok (.getfield idx, 3)) (hq : pc + 3 = q) (kk : zJ p l e R s m args below meth c cc nL own z cells slots (wx z gm) fin ri Q q lv (.int (gi g 23 i 0) :: st) g M) : zJ p l e R s m args below meth c cc nL own z cells slots (wx z gm) fin ri Q pc lv (.ref (za z 71 i) :: st) g M := j_get (ci := 1) (k := 71) (f := 3) rfl hin_X1 (by decide) hL hi (cel_71 z g gm i) rfl d hq kk
theorem gN_X1_sorted (hL : Cond.fieldLinkNest own idx "CopierJobs$Job" "sorted" "Z" host ∈ lw_nt) (hi : i < dm 71) (d : decode cc pc = .ok (.getfield idx, 3)) (hq : pc + 3 = q) (kk : zJ p l e R s m args below meth c cc nL own z cells slots (wx z gm) fin ri Q q lv (.int (gi g 23 i 0) :: st) g M) : zJ p l e R s m args below meth c cc nL own z cells slots (wx z gm) fin ri Q pc lv (.ref (za z 71 i) :: st) g M := j_getN (ci := 1) (k := 71) (f := 3) rfl hin_X1 (by decide) hL hi (cel_71 z g gm i) rfl d hq kk
theorem up_X1_sorted (z : zE) (x m : zG) (i : Nat) (v : Int32) : ∀ a b, b < dm a → upc (wx z m x) 71 i (.inr (1, [.int (gi x 20 i 0), .int (gi x 21 i 0), .int (gi x 22 i 0), .int v, .int (gi x 24 i 0), .int (gi x 25 i 0), .int (gi x 26 i 0)])) a b = wx z m (ui x 23 i 0 v) a b := by
  intro a b hb
  by_cases ha : a = 71
  · subst ha; by_cases h : b = i
    · subst h; simp [upc, cel_71, gi_ui, gl_ui, gn_ui, gi_ul, gl_ul, gn_ul, gi_un, gl_un, gn_un]
    · simp [upc, cel_71, gi_ui, gl_ui, gn_ui, gi_ul, gl_ul, gn_ul, gi_un, gl_un, gn_un, h]
  · rw [upc, if_neg (fun h => ha h.1)]
    rcases dm_cases hb with rfl | rfl | rfl | rfl | rfl | rfl | rfl | rfl | rfl | rfl | rfl | rfl | rfl | rfl | rfl | rfl | rfl | rfl | rfl | rfl | rfl | rfl | rfl | rfl | rfl | rfl | rfl | rfl | rfl | rfl | rfl | rfl | rfl | rfl | rfl | rfl | rfl | rfl <;> first | rfl | exact absurd rfl ha
theorem p_X1_sorted {v : Int32} (hL : Cond.fieldLink own idx "CopierJobs$Job" "sorted" "Z" ∈ lw_gt) (hi : i < dm 71) (d : decode cc pc = .ok (.putfield idx, 3)) (hq : pc + 3 = q) (kk : ∀ g1, zJ p l e R s m args below meth c cc nL own z cells slots (wx z gm) fin ri Q q lv st g1 (F g1)) : zJ p l e R s m args below meth c cc nL own z cells slots (wx z gm) fin ri Q pc lv (.int v :: .ref (za z 71 i) :: st) g (gd (isb v = true) (bd (ui g 23 i 0 v) F)) := j_gd (fun h => j_put (ci := 1) (k := 71) (f := 3) rfl hin_X1 tyX1 tyX1_ok nmX1 (by decide) rfl (ty := .boolean) (by decide +kernel) hL hi (cel_71 z g gm i) (Nat.le_of_ble_eq_true rfl) (isb_narrow h) (isb_fits h) (up_X1_sorted z g gm i v) d hq kk)
theorem pN_X1_sorted {v : Int32} (hL : Cond.fieldLinkNest own idx "CopierJobs$Job" "sorted" "Z" host ∈ lw_nt) (hi : i < dm 71) (d : decode cc pc = .ok (.putfield idx, 3)) (hq : pc + 3 = q) (kk : ∀ g1, zJ p l e R s m args below meth c cc nL own z cells slots (wx z gm) fin ri Q q lv st g1 (F g1)) : zJ p l e R s m args below meth c cc nL own z cells slots (wx z gm) fin ri Q pc lv (.int v :: .ref (za z 71 i) :: st) g (gd (isb v = true) (bd (ui g 23 i 0 v) F)) := j_gd (fun h => j_putN (ci := 1) (k := 71) (f := 3) rfl hin_X1 tyX1 tyX1_ok nmX1 (by decide) rfl (ty := .boolean) (by decide +kernel) hL hi (cel_71 z g gm i) (Nat.le_of_ble_eq_true rfl) (isb_narrow h) (isb_fits h) (up_X1_sorted z g gm i v) d hq kk)
theorem g_X1_tray (hL : Cond.fieldLink own idx "CopierJobs$Job" "tray" "I" ∈ lw_gt) (hi : i < dm 71) (d : decode cc pc = .ok (.getfield idx, 3)) (hq : pc + 3 = q) (kk : zJ p l e R s m args below meth c cc nL own z cells slots (wx z gm) fin ri Q q lv (.int (gi g 24 i 0) :: st) g M) : zJ p l e R s m args below meth c cc nL own z cells slots (wx z gm) fin ri Q pc lv (.ref (za z 71 i) :: st) g M := j_get (ci := 1) (k := 71) (f := 4) rfl hin_X1 (by decide) hL hi (cel_71 z g gm i) rfl d hq kk
theorem gN_X1_tray (hL : Cond.fieldLinkNest own idx "CopierJobs$Job" "tray" "I" host ∈ lw_nt) (hi : i < dm 71) (d : decode cc pc = .ok (.getfield idx, 3)) (hq : pc + 3 = q) (kk : zJ p l e R s m args below meth c cc nL own z cells slots (wx z gm) fin ri Q q lv (.int (gi g 24 i 0) :: st) g M) : zJ p l e R s m args below meth c cc nL own z cells slots (wx z gm) fin ri Q pc lv (.ref (za z 71 i) :: st) g M := j_getN (ci := 1) (k := 71) (f := 4) rfl hin_X1 (by decide) hL hi (cel_71 z g gm i) rfl d hq kk
theorem up_X1_tray (z : zE) (x m : zG) (i : Nat) (v : Int32) : ∀ a b, b < dm a → upc (wx z m x) 71 i (.inr (1, [.int (gi x 20 i 0), .int (gi x 21 i 0), .int (gi x 22 i 0), .int (gi x 23 i 0), .int v, .int (gi x 25 i 0), .int (gi x 26 i 0)])) a b = wx z m (ui x 24 i 0 v) a b := by
  intro a b hb
  by_cases ha : a = 71
  · subst ha; by_cases h : b = i
    · subst h; simp [upc, cel_71, gi_ui, gl_ui, gn_ui, gi_ul, gl_ul, gn_ul, gi_un, gl_un, gn_un]
    · simp [upc, cel_71, gi_ui, gl_ui, gn_ui, gi_ul, gl_ul, gn_ul, gi_un, gl_un, gn_un, h]
  · rw [upc, if_neg (fun h => ha h.1)]
    rcases dm_cases hb with rfl | rfl | rfl | rfl | rfl | rfl | rfl | rfl | rfl | rfl | rfl | rfl | rfl | rfl | rfl | rfl | rfl | rfl | rfl | rfl | rfl | rfl | rfl | rfl | rfl | rfl | rfl | rfl | rfl | rfl | rfl | rfl | rfl | rfl | rfl | rfl | rfl | rfl <;> first | rfl | exact absurd rfl ha
theorem p_X1_tray {v : Int32} (hL : Cond.fieldLink own idx "CopierJobs$Job" "tray" "I" ∈ lw_gt) (hi : i < dm 71) (d : decode cc pc = .ok (.putfield idx, 3)) (hq : pc + 3 = q) (kk : ∀ g1, zJ p l e R s m args below meth c cc nL own z cells slots (wx z gm) fin ri Q q lv st g1 (F g1)) : zJ p l e R s m args below meth c cc nL own z cells slots (wx z gm) fin ri Q pc lv (.int v :: .ref (za z 71 i) :: st) g (bd (ui g 24 i 0 v) F) := j_put (ci := 1) (k := 71) (f := 4) rfl hin_X1 tyX1 tyX1_ok nmX1 (by decide) rfl (ty := .int) (by decide +kernel) hL hi (cel_71 z g gm i) (Nat.le_of_ble_eq_true rfl) rfl rfl (up_X1_tray z g gm i v) d hq kk
theorem pN_X1_tray {v : Int32} (hL : Cond.fieldLinkNest own idx "CopierJobs$Job" "tray" "I" host ∈ lw_nt) (hi : i < dm 71) (d : decode cc pc = .ok (.putfield idx, 3)) (hq : pc + 3 = q) (kk : ∀ g1, zJ p l e R s m args below meth c cc nL own z cells slots (wx z gm) fin ri Q q lv st g1 (F g1)) : zJ p l e R s m args below meth c cc nL own z cells slots (wx z gm) fin ri Q pc lv (.int v :: .ref (za z 71 i) :: st) g (bd (ui g 24 i 0 v) F) := j_putN (ci := 1) (k := 71) (f := 4) rfl hin_X1 tyX1 tyX1_ok nmX1 (by decide) rfl (ty := .int) (by decide +kernel) hL hi (cel_71 z g gm i) (Nat.le_of_ble_eq_true rfl) rfl rfl (up_X1_tray z g gm i v) d hq kk
theorem g_X1_leaves (hL : Cond.fieldLink own idx "CopierJobs$Job" "leaves" "I" ∈ lw_gt) (hi : i < dm 71) (d : decode cc pc = .ok (.getfield idx, 3)) (hq : pc + 3 = q) (kk : zJ p l e R s m args below meth c cc nL own z cells slots (wx z gm) fin ri Q q lv (.int (gi g 25 i 0) :: st) g M) : zJ p l e R s m args below meth c cc nL own z cells slots (wx z gm) fin ri Q pc lv (.ref (za z 71 i) :: st) g M := j_get (ci := 1) (k := 71) (f := 5) rfl hin_X1 (by decide) hL hi (cel_71 z g gm i) rfl d hq kk
theorem gN_X1_leaves (hL : Cond.fieldLinkNest own idx "CopierJobs$Job" "leaves" "I" host ∈ lw_nt) (hi : i < dm 71) (d : decode cc pc = .ok (.getfield idx, 3)) (hq : pc + 3 = q) (kk : zJ p l e R s m args below meth c cc nL own z cells slots (wx z gm) fin ri Q q lv (.int (gi g 25 i 0) :: st) g M) : zJ p l e R s m args below meth c cc nL own z cells slots (wx z gm) fin ri Q pc lv (.ref (za z 71 i) :: st) g M := j_getN (ci := 1) (k := 71) (f := 5) rfl hin_X1 (by decide) hL hi (cel_71 z g gm i) rfl d hq kk
theorem up_X1_leaves (z : zE) (x m : zG) (i : Nat) (v : Int32) : ∀ a b, b < dm a → upc (wx z m x) 71 i (.inr (1, [.int (gi x 20 i 0), .int (gi x 21 i 0), .int (gi x 22 i 0), .int (gi x 23 i 0), .int (gi x 24 i 0), .int v, .int (gi x 26 i 0)])) a b = wx z m (ui x 25 i 0 v) a b := by
  intro a b hb
  by_cases ha : a = 71
  · subst ha; by_cases h : b = i
    · subst h; simp [upc, cel_71, gi_ui, gl_ui, gn_ui, gi_ul, gl_ul, gn_ul, gi_un, gl_un, gn_un]
    · simp [upc, cel_71, gi_ui, gl_ui, gn_ui, gi_ul, gl_ul, gn_ul, gi_un, gl_un, gn_un, h]
  · rw [upc, if_neg (fun h => ha h.1)]
    rcases dm_cases hb with rfl | rfl | rfl | rfl | rfl | rfl | rfl | rfl | rfl | rfl | rfl | rfl | rfl | rfl | rfl | rfl | rfl | rfl | rfl | rfl | rfl | rfl | rfl | rfl | rfl | rfl | rfl | rfl | rfl | rfl | rfl | rfl | rfl | rfl | rfl | rfl | rfl | rfl <;> first | rfl | exact absurd rfl ha
theorem p_X1_leaves {v : Int32} (hL : Cond.fieldLink own idx "CopierJobs$Job" "leaves" "I" ∈ lw_gt) (hi : i < dm 71) (d : decode cc pc = .ok (.putfield idx, 3)) (hq : pc + 3 = q) (kk : ∀ g1, zJ p l e R s m args below meth c cc nL own z cells slots (wx z gm) fin ri Q q lv st g1 (F g1)) : zJ p l e R s m args below meth c cc nL own z cells slots (wx z gm) fin ri Q pc lv (.int v :: .ref (za z 71 i) :: st) g (bd (ui g 25 i 0 v) F) := j_put (ci := 1) (k := 71) (f := 5) rfl hin_X1 tyX1 tyX1_ok nmX1 (by decide) rfl (ty := .int) (by decide +kernel) hL hi (cel_71 z g gm i) (Nat.le_of_ble_eq_true rfl) rfl rfl (up_X1_leaves z g gm i v) d hq kk
theorem pN_X1_leaves {v : Int32} (hL : Cond.fieldLinkNest own idx "CopierJobs$Job" "leaves" "I" host ∈ lw_nt) (hi : i < dm 71) (d : decode cc pc = .ok (.putfield idx, 3)) (hq : pc + 3 = q) (kk : ∀ g1, zJ p l e R s m args below meth c cc nL own z cells slots (wx z gm) fin ri Q q lv st g1 (F g1)) : zJ p l e R s m args below meth c cc nL own z cells slots (wx z gm) fin ri Q pc lv (.int v :: .ref (za z 71 i) :: st) g (bd (ui g 25 i 0 v) F) := j_putN (ci := 1) (k := 71) (f := 5) rfl hin_X1 tyX1 tyX1_ok nmX1 (by decide) rfl (ty := .int) (by decide +kernel) hL hi (cel_71 z g gm i) (Nat.le_of_ble_eq_true rfl) rfl rfl (up_X1_leaves z g gm i v) d hq kk
theorem g_X1_run (hL : Cond.fieldLink own idx "CopierJobs$Job" "run" "I" ∈ lw_gt) (hi : i < dm 71) (d : decode cc pc = .ok (.getfield idx, 3)) (hq : pc + 3 = q) (kk : zJ p l e R s m args below meth c cc nL own z cells slots (wx z gm) fin ri Q q lv (.int (gi g 26 i 0) :: st) g M) : zJ p l e R s m args below meth c cc nL own z cells slots (wx z gm) fin ri Q pc lv (.ref (za z 71 i) :: st) g M := j_get (ci := 1) (k := 71) (f := 6) rfl hin_X1 (by decide) hL hi (cel_71 z g gm i) rfl d hq kk
theorem gN_X1_run (hL : Cond.fieldLinkNest own idx "CopierJobs$Job" "run" "I" host ∈ lw_nt) (hi : i < dm 71) (d : decode cc pc = .ok (.getfield idx, 3)) (hq : pc + 3 = q) (kk : zJ p l e R s m args below meth c cc nL own z cells slots (wx z gm) fin ri Q q lv (.int (gi g 26 i 0) :: st) g M) : zJ p l e R s m args below meth c cc nL own z cells slots (wx z gm) fin ri Q pc lv (.ref (za z 71 i) :: st) g M := j_getN (ci := 1) (k := 71) (f := 6) rfl hin_X1 (by decide) hL hi (cel_71 z g gm i) rfl d hq kk
theorem up_X1_run (z : zE) (x m : zG) (i : Nat) (v : Int32) : ∀ a b, b < dm a → upc (wx z m x) 71 i (.inr (1, [.int (gi x 20 i 0), .int (gi x 21 i 0), .int (gi x 22 i 0), .int (gi x 23 i 0), .int (gi x 24 i 0), .int (gi x 25 i 0), .int v])) a b = wx z m (ui x 26 i 0 v) a b := by
  intro a b hb
  by_cases ha : a = 71
  · subst ha; by_cases h : b = i
    · subst h; simp [upc, cel_71, gi_ui, gl_ui, gn_ui, gi_ul, gl_ul, gn_ul, gi_un, gl_un, gn_un]
    · simp [upc, cel_71, gi_ui, gl_ui, gn_ui, gi_ul, gl_ul, gn_ul, gi_un, gl_un, gn_un, h]
  · rw [upc, if_neg (fun h => ha h.1)]
    rcases dm_cases hb with rfl | rfl | rfl | rfl | rfl | rfl | rfl | rfl | rfl | rfl | rfl | rfl | rfl | rfl | rfl | rfl | rfl | rfl | rfl | rfl | rfl | rfl | rfl | rfl | rfl | rfl | rfl | rfl | rfl | rfl | rfl | rfl | rfl | rfl | rfl | rfl | rfl | rfl <;> first | rfl | exact absurd rfl ha
theorem p_X1_run {v : Int32} (hL : Cond.fieldLink own idx "CopierJobs$Job" "run" "I" ∈ lw_gt) (hi : i < dm 71) (d : decode cc pc = .ok (.putfield idx, 3)) (hq : pc + 3 = q) (kk : ∀ g1, zJ p l e R s m args below meth c cc nL own z cells slots (wx z gm) fin ri Q q lv st g1 (F g1)) : zJ p l e R s m args below meth c cc nL own z cells slots (wx z gm) fin ri Q pc lv (.int v :: .ref (za z 71 i) :: st) g (bd (ui g 26 i 0 v) F) := j_put (ci := 1) (k := 71) (f := 6) rfl hin_X1 tyX1 tyX1_ok nmX1 (by decide) rfl (ty := .int) (by decide +kernel) hL hi (cel_71 z g gm i) (Nat.le_of_ble_eq_true rfl) rfl rfl (up_X1_run z g gm i v) d hq kk
theorem pN_X1_run {v : Int32} (hL : Cond.fieldLinkNest own idx "CopierJobs$Job" "run" "I" host ∈ lw_nt) (hi : i < dm 71) (d : decode cc pc = .ok (.putfield idx, 3)) (hq : pc + 3 = q) (kk : ∀ g1, zJ p l e R s m args below meth c cc nL own z cells slots (wx z gm) fin ri Q q lv st g1 (F g1)) : zJ p l e R s m args below meth c cc nL own z cells slots (wx z gm) fin ri Q pc lv (.int v :: .ref (za z 71 i) :: st) g (bd (ui g 26 i 0 v) F) := j_putN (ci := 1) (k := 71) (f := 6) rfl hin_X1 tyX1 tyX1_ok nmX1 (by decide) rfl (ty := .int) (by decide +kernel) hL hi (cel_71 z g gm i) (Nat.le_of_ble_eq_true rfl) rfl rfl (up_X1_run z g gm i v) d hq kk
end FLDX1
section FLDX2
variable {p : Program} {l : Launch} {e : Env} {R : Room} {s : State} {m : MethodId} {args : Array Value} {below : List Frame} {meth : Method} {c : Code} {cc : ByteArray} {nL : Nat} {own host : String} {z : zE} {cells slots : Nat} {ρ : Type} {gm gx : zG} {fin : ρ → zG → List Value → Prop} {ri : Instr} {Q : ρ → State → Prop} {pc q i idx : Nat} {lv : List (Nat × Value)} {st : List Value} {g : zG} {M : Option ρ} {F : zG → Option ρ}
theorem g_X2_tick (hL : Cond.fieldLink own idx "CopierJobs$Now" "tick" "I" ∈ lw_gt) (hi : i < dm 72) (d : decode cc pc = .ok (.getfield idx, 3)) (hq : pc + 3 = q) (kk : zJ p l e R s m args below meth c cc nL own z cells slots (wx z gm) fin ri Q q lv (.int (gi g 0 i 0) :: st) g M) : zJ p l e R s m args below meth c cc nL own z cells slots (wx z gm) fin ri Q pc lv (.ref (za z 72 i) :: st) g M := j_get (ci := 2) (k := 72) (f := 0) rfl hin_X2 (by decide) hL hi (cel_72 z g gm i) rfl d hq kk
theorem gN_X2_tick (hL : Cond.fieldLinkNest own idx "CopierJobs$Now" "tick" "I" host ∈ lw_nt) (hi : i < dm 72) (d : decode cc pc = .ok (.getfield idx, 3)) (hq : pc + 3 = q) (kk : zJ p l e R s m args below meth c cc nL own z cells slots (wx z gm) fin ri Q q lv (.int (gi g 0 i 0) :: st) g M) : zJ p l e R s m args below meth c cc nL own z cells slots (wx z gm) fin ri Q pc lv (.ref (za z 72 i) :: st) g M := j_getN (ci := 2) (k := 72) (f := 0) rfl hin_X2 (by decide) hL hi (cel_72 z g gm i) rfl d hq kk
theorem up_X2_tick (z : zE) (x m : zG) (i : Nat) (v : Int32) : ∀ a b, b < dm a → upc (wx z m x) 72 i (.inr (2, [.int v, .int (gi x 1 i 0), .int (gi x 2 i 0), .int (gi x 3 i 0), .ref (za z 4 i), .ref (za z 5 i), .ref (za z 6 i), .ref (za z 7 i), .ref (za z 8 i)])) a b = wx z m (ui x 0 i 0 v) a b := by
  intro a b hb
  by_cases ha : a = 72
  · subst ha; by_cases h : b = i
    · subst h; simp [upc, cel_72, gi_ui, gl_ui, gn_ui, gi_ul, gl_ul, gn_ul, gi_un, gl_un, gn_un]
    · simp [upc, cel_72, gi_ui, gl_ui, gn_ui, gi_ul, gl_ul, gn_ul, gi_un, gl_un, gn_un, h]
  · rw [upc, if_neg (fun h => ha h.1)]
    rcases dm_cases hb with rfl | rfl | rfl | rfl | rfl | rfl | rfl | rfl | rfl | rfl | rfl | rfl | rfl | rfl | rfl | rfl | rfl | rfl | rfl | rfl | rfl | rfl | rfl | rfl | rfl | rfl | rfl | rfl | rfl | rfl | rfl | rfl | rfl | rfl | rfl | rfl | rfl | rfl <;> first | rfl | exact absurd rfl ha
theorem p_X2_tick {v : Int32} (hL : Cond.fieldLink own idx "CopierJobs$Now" "tick" "I" ∈ lw_gt) (hi : i < dm 72) (d : decode cc pc = .ok (.putfield idx, 3)) (hq : pc + 3 = q) (kk : ∀ g1, zJ p l e R s m args below meth c cc nL own z cells slots (wx z gm) fin ri Q q lv st g1 (F g1)) : zJ p l e R s m args below meth c cc nL own z cells slots (wx z gm) fin ri Q pc lv (.int v :: .ref (za z 72 i) :: st) g (bd (ui g 0 i 0 v) F) := j_put (ci := 2) (k := 72) (f := 0) rfl hin_X2 tyX2 tyX2_ok nmX2 (by decide) rfl (ty := .int) (by decide +kernel) hL hi (cel_72 z g gm i) (Nat.le_of_ble_eq_true rfl) rfl rfl (up_X2_tick z g gm i v) d hq kk
theorem pN_X2_tick {v : Int32} (hL : Cond.fieldLinkNest own idx "CopierJobs$Now" "tick" "I" host ∈ lw_nt) (hi : i < dm 72) (d : decode cc pc = .ok (.putfield idx, 3)) (hq : pc + 3 = q) (kk : ∀ g1, zJ p l e R s m args below meth c cc nL own z cells slots (wx z gm) fin ri Q q lv st g1 (F g1)) : zJ p l e R s m args below meth c cc nL own z cells slots (wx z gm) fin ri Q pc lv (.int v :: .ref (za z 72 i) :: st) g (bd (ui g 0 i 0 v) F) := j_putN (ci := 2) (k := 72) (f := 0) rfl hin_X2 tyX2 tyX2_ok nmX2 (by decide) rfl (ty := .int) (by decide +kernel) hL hi (cel_72 z g gm i) (Nat.le_of_ble_eq_true rfl) rfl rfl (up_X2_tick z g gm i v) d hq kk
theorem g_X2_toner (hL : Cond.fieldLink own idx "CopierJobs$Now" "toner" "I" ∈ lw_gt) (hi : i < dm 72) (d : decode cc pc = .ok (.getfield idx, 3)) (hq : pc + 3 = q) (kk : zJ p l e R s m args below meth c cc nL own z cells slots (wx z gm) fin ri Q q lv (.int (gi g 1 i 0) :: st) g M) : zJ p l e R s m args below meth c cc nL own z cells slots (wx z gm) fin ri Q pc lv (.ref (za z 72 i) :: st) g M := j_get (ci := 2) (k := 72) (f := 1) rfl hin_X2 (by decide) hL hi (cel_72 z g gm i) rfl d hq kk
theorem gN_X2_toner (hL : Cond.fieldLinkNest own idx "CopierJobs$Now" "toner" "I" host ∈ lw_nt) (hi : i < dm 72) (d : decode cc pc = .ok (.getfield idx, 3)) (hq : pc + 3 = q) (kk : zJ p l e R s m args below meth c cc nL own z cells slots (wx z gm) fin ri Q q lv (.int (gi g 1 i 0) :: st) g M) : zJ p l e R s m args below meth c cc nL own z cells slots (wx z gm) fin ri Q pc lv (.ref (za z 72 i) :: st) g M := j_getN (ci := 2) (k := 72) (f := 1) rfl hin_X2 (by decide) hL hi (cel_72 z g gm i) rfl d hq kk
theorem up_X2_toner (z : zE) (x m : zG) (i : Nat) (v : Int32) : ∀ a b, b < dm a → upc (wx z m x) 72 i (.inr (2, [.int (gi x 0 i 0), .int v, .int (gi x 2 i 0), .int (gi x 3 i 0), .ref (za z 4 i), .ref (za z 5 i), .ref (za z 6 i), .ref (za z 7 i), .ref (za z 8 i)])) a b = wx z m (ui x 1 i 0 v) a b := by
  intro a b hb
  by_cases ha : a = 72
  · subst ha; by_cases h : b = i
    · subst h; simp [upc, cel_72, gi_ui, gl_ui, gn_ui, gi_ul, gl_ul, gn_ul, gi_un, gl_un, gn_un]
    · simp [upc, cel_72, gi_ui, gl_ui, gn_ui, gi_ul, gl_ul, gn_ul, gi_un, gl_un, gn_un, h]
  · rw [upc, if_neg (fun h => ha h.1)]
    rcases dm_cases hb with rfl | rfl | rfl | rfl | rfl | rfl | rfl | rfl | rfl | rfl | rfl | rfl | rfl | rfl | rfl | rfl | rfl | rfl | rfl | rfl | rfl | rfl | rfl | rfl | rfl | rfl | rfl | rfl | rfl | rfl | rfl | rfl | rfl | rfl | rfl | rfl | rfl | rfl <;> first | rfl | exact absurd rfl ha
theorem p_X2_toner {v : Int32} (hL : Cond.fieldLink own idx "CopierJobs$Now" "toner" "I" ∈ lw_gt) (hi : i < dm 72) (d : decode cc pc = .ok (.putfield idx, 3)) (hq : pc + 3 = q) (kk : ∀ g1, zJ p l e R s m args below meth c cc nL own z cells slots (wx z gm) fin ri Q q lv st g1 (F g1)) : zJ p l e R s m args below meth c cc nL own z cells slots (wx z gm) fin ri Q pc lv (.int v :: .ref (za z 72 i) :: st) g (bd (ui g 1 i 0 v) F) := j_put (ci := 2) (k := 72) (f := 1) rfl hin_X2 tyX2 tyX2_ok nmX2 (by decide) rfl (ty := .int) (by decide +kernel) hL hi (cel_72 z g gm i) (Nat.le_of_ble_eq_true rfl) rfl rfl (up_X2_toner z g gm i v) d hq kk
theorem pN_X2_toner {v : Int32} (hL : Cond.fieldLinkNest own idx "CopierJobs$Now" "toner" "I" host ∈ lw_nt) (hi : i < dm 72) (d : decode cc pc = .ok (.putfield idx, 3)) (hq : pc + 3 = q) (kk : ∀ g1, zJ p l e R s m args below meth c cc nL own z cells slots (wx z gm) fin ri Q q lv st g1 (F g1)) : zJ p l e R s m args below meth c cc nL own z cells slots (wx z gm) fin ri Q pc lv (.int v :: .ref (za z 72 i) :: st) g (bd (ui g 1 i 0 v) F) := j_putN (ci := 2) (k := 72) (f := 1) rfl hin_X2 tyX2 tyX2_ok nmX2 (by decide) rfl (ty := .int) (by decide +kernel) hL hi (cel_72 z g gm i) (Nat.le_of_ble_eq_true rfl) rfl rfl (up_X2_toner z g gm i v) d hq kk
theorem g_X2_half (hL : Cond.fieldLink own idx "CopierJobs$Now" "half" "Z" ∈ lw_gt) (hi : i < dm 72) (d : decode cc pc = .ok (.getfield idx, 3)) (hq : pc + 3 = q) (kk : zJ p l e R s m args below meth c cc nL own z cells slots (wx z gm) fin ri Q q lv (.int (gi g 2 i 0) :: st) g M) : zJ p l e R s m args below meth c cc nL own z cells slots (wx z gm) fin ri Q pc lv (.ref (za z 72 i) :: st) g M := j_get (ci := 2) (k := 72) (f := 2) rfl hin_X2 (by decide) hL hi (cel_72 z g gm i) rfl d hq kk
theorem gN_X2_half (hL : Cond.fieldLinkNest own idx "CopierJobs$Now" "half" "Z" host ∈ lw_nt) (hi : i < dm 72) (d : decode cc pc = .ok (.getfield idx, 3)) (hq : pc + 3 = q) (kk : zJ p l e R s m args below meth c cc nL own z cells slots (wx z gm) fin ri Q q lv (.int (gi g 2 i 0) :: st) g M) : zJ p l e R s m args below meth c cc nL own z cells slots (wx z gm) fin ri Q pc lv (.ref (za z 72 i) :: st) g M := j_getN (ci := 2) (k := 72) (f := 2) rfl hin_X2 (by decide) hL hi (cel_72 z g gm i) rfl d hq kk
theorem up_X2_half (z : zE) (x m : zG) (i : Nat) (v : Int32) : ∀ a b, b < dm a → upc (wx z m x) 72 i (.inr (2, [.int (gi x 0 i 0), .int (gi x 1 i 0), .int v, .int (gi x 3 i 0), .ref (za z 4 i), .ref (za z 5 i), .ref (za z 6 i), .ref (za z 7 i), .ref (za z 8 i)])) a b = wx z m (ui x 2 i 0 v) a b := by
  intro a b hb
  by_cases ha : a = 72
  · subst ha; by_cases h : b = i
    · subst h; simp [upc, cel_72, gi_ui, gl_ui, gn_ui, gi_ul, gl_ul, gn_ul, gi_un, gl_un, gn_un]
    · simp [upc, cel_72, gi_ui, gl_ui, gn_ui, gi_ul, gl_ul, gn_ul, gi_un, gl_un, gn_un, h]
  · rw [upc, if_neg (fun h => ha h.1)]
    rcases dm_cases hb with rfl | rfl | rfl | rfl | rfl | rfl | rfl | rfl | rfl | rfl | rfl | rfl | rfl | rfl | rfl | rfl | rfl | rfl | rfl | rfl | rfl | rfl | rfl | rfl | rfl | rfl | rfl | rfl | rfl | rfl | rfl | rfl | rfl | rfl | rfl | rfl | rfl | rfl <;> first | rfl | exact absurd rfl ha
theorem p_X2_half {v : Int32} (hL : Cond.fieldLink own idx "CopierJobs$Now" "half" "Z" ∈ lw_gt) (hi : i < dm 72) (d : decode cc pc = .ok (.putfield idx, 3)) (hq : pc + 3 = q) (kk : ∀ g1, zJ p l e R s m args below meth c cc nL own z cells slots (wx z gm) fin ri Q q lv st g1 (F g1)) : zJ p l e R s m args below meth c cc nL own z cells slots (wx z gm) fin ri Q pc lv (.int v :: .ref (za z 72 i) :: st) g (gd (isb v = true) (bd (ui g 2 i 0 v) F)) := j_gd (fun h => j_put (ci := 2) (k := 72) (f := 2) rfl hin_X2 tyX2 tyX2_ok nmX2 (by decide) rfl (ty := .boolean) (by decide +kernel) hL hi (cel_72 z g gm i) (Nat.le_of_ble_eq_true rfl) (isb_narrow h) (isb_fits h) (up_X2_half z g gm i v) d hq kk)
theorem pN_X2_half {v : Int32} (hL : Cond.fieldLinkNest own idx "CopierJobs$Now" "half" "Z" host ∈ lw_nt) (hi : i < dm 72) (d : decode cc pc = .ok (.putfield idx, 3)) (hq : pc + 3 = q) (kk : ∀ g1, zJ p l e R s m args below meth c cc nL own z cells slots (wx z gm) fin ri Q q lv st g1 (F g1)) : zJ p l e R s m args below meth c cc nL own z cells slots (wx z gm) fin ri Q pc lv (.int v :: .ref (za z 72 i) :: st) g (gd (isb v = true) (bd (ui g 2 i 0 v) F)) := j_gd (fun h => j_putN (ci := 2) (k := 72) (f := 2) rfl hin_X2 tyX2 tyX2_ok nmX2 (by decide) rfl (ty := .boolean) (by decide +kernel) hL hi (cel_72 z g gm i) (Nat.le_of_ble_eq_true rfl) (isb_narrow h) (isb_fits h) (up_X2_half z g gm i v) d hq kk)
theorem g_X2_queued (hL : Cond.fieldLink own idx "CopierJobs$Now" "queued" "I" ∈ lw_gt) (hi : i < dm 72) (d : decode cc pc = .ok (.getfield idx, 3)) (hq : pc + 3 = q) (kk : zJ p l e R s m args below meth c cc nL own z cells slots (wx z gm) fin ri Q q lv (.int (gi g 3 i 0) :: st) g M) : zJ p l e R s m args below meth c cc nL own z cells slots (wx z gm) fin ri Q pc lv (.ref (za z 72 i) :: st) g M := j_get (ci := 2) (k := 72) (f := 3) rfl hin_X2 (by decide) hL hi (cel_72 z g gm i) rfl d hq kk
theorem gN_X2_queued (hL : Cond.fieldLinkNest own idx "CopierJobs$Now" "queued" "I" host ∈ lw_nt) (hi : i < dm 72) (d : decode cc pc = .ok (.getfield idx, 3)) (hq : pc + 3 = q) (kk : zJ p l e R s m args below meth c cc nL own z cells slots (wx z gm) fin ri Q q lv (.int (gi g 3 i 0) :: st) g M) : zJ p l e R s m args below meth c cc nL own z cells slots (wx z gm) fin ri Q pc lv (.ref (za z 72 i) :: st) g M := j_getN (ci := 2) (k := 72) (f := 3) rfl hin_X2 (by decide) hL hi (cel_72 z g gm i) rfl d hq kk
theorem up_X2_queued (z : zE) (x m : zG) (i : Nat) (v : Int32) : ∀ a b, b < dm a → upc (wx z m x) 72 i (.inr (2, [.int (gi x 0 i 0), .int (gi x 1 i 0), .int (gi x 2 i 0), .int v, .ref (za z 4 i), .ref (za z 5 i), .ref (za z 6 i), .ref (za z 7 i), .ref (za z 8 i)])) a b = wx z m (ui x 3 i 0 v) a b := by
  intro a b hb
  by_cases ha : a = 72
  · subst ha; by_cases h : b = i
    · subst h; simp [upc, cel_72, gi_ui, gl_ui, gn_ui, gi_ul, gl_ul, gn_ul, gi_un, gl_un, gn_un]
    · simp [upc, cel_72, gi_ui, gl_ui, gn_ui, gi_ul, gl_ul, gn_ul, gi_un, gl_un, gn_un, h]
  · rw [upc, if_neg (fun h => ha h.1)]
    rcases dm_cases hb with rfl | rfl | rfl | rfl | rfl | rfl | rfl | rfl | rfl | rfl | rfl | rfl | rfl | rfl | rfl | rfl | rfl | rfl | rfl | rfl | rfl | rfl | rfl | rfl | rfl | rfl | rfl | rfl | rfl | rfl | rfl | rfl | rfl | rfl | rfl | rfl | rfl | rfl <;> first | rfl | exact absurd rfl ha
theorem p_X2_queued {v : Int32} (hL : Cond.fieldLink own idx "CopierJobs$Now" "queued" "I" ∈ lw_gt) (hi : i < dm 72) (d : decode cc pc = .ok (.putfield idx, 3)) (hq : pc + 3 = q) (kk : ∀ g1, zJ p l e R s m args below meth c cc nL own z cells slots (wx z gm) fin ri Q q lv st g1 (F g1)) : zJ p l e R s m args below meth c cc nL own z cells slots (wx z gm) fin ri Q pc lv (.int v :: .ref (za z 72 i) :: st) g (bd (ui g 3 i 0 v) F) := j_put (ci := 2) (k := 72) (f := 3) rfl hin_X2 tyX2 tyX2_ok nmX2 (by decide) rfl (ty := .int) (by decide +kernel) hL hi (cel_72 z g gm i) (Nat.le_of_ble_eq_true rfl) rfl rfl (up_X2_queued z g gm i v) d hq kk
theorem pN_X2_queued {v : Int32} (hL : Cond.fieldLinkNest own idx "CopierJobs$Now" "queued" "I" host ∈ lw_nt) (hi : i < dm 72) (d : decode cc pc = .ok (.putfield idx, 3)) (hq : pc + 3 = q) (kk : ∀ g1, zJ p l e R s m args below meth c cc nL own z cells slots (wx z gm) fin ri Q q lv st g1 (F g1)) : zJ p l e R s m args below meth c cc nL own z cells slots (wx z gm) fin ri Q pc lv (.int v :: .ref (za z 72 i) :: st) g (bd (ui g 3 i 0 v) F) := j_putN (ci := 2) (k := 72) (f := 3) rfl hin_X2 tyX2 tyX2_ok nmX2 (by decide) rfl (ty := .int) (by decide +kernel) hL hi (cel_72 z g gm i) (Nat.le_of_ble_eq_true rfl) rfl rfl (up_X2_queued z g gm i v) d hq kk
theorem g_X2_queue (hL : Cond.fieldLink own idx "CopierJobs$Now" "queue" "[I" ∈ lw_gt) (hi : i < dm 72) (d : decode cc pc = .ok (.getfield idx, 3)) (hq : pc + 3 = q) (kk : zJ p l e R s m args below meth c cc nL own z cells slots (wx z gm) fin ri Q q lv (.ref (za z 4 i) :: st) g M) : zJ p l e R s m args below meth c cc nL own z cells slots (wx z gm) fin ri Q pc lv (.ref (za z 72 i) :: st) g M := j_get (ci := 2) (k := 72) (f := 4) rfl hin_X2 (by decide) hL hi (cel_72 z g gm i) rfl d hq kk
theorem gN_X2_queue (hL : Cond.fieldLinkNest own idx "CopierJobs$Now" "queue" "[I" host ∈ lw_nt) (hi : i < dm 72) (d : decode cc pc = .ok (.getfield idx, 3)) (hq : pc + 3 = q) (kk : zJ p l e R s m args below meth c cc nL own z cells slots (wx z gm) fin ri Q q lv (.ref (za z 4 i) :: st) g M) : zJ p l e R s m args below meth c cc nL own z cells slots (wx z gm) fin ri Q pc lv (.ref (za z 72 i) :: st) g M := j_getN (ci := 2) (k := 72) (f := 4) rfl hin_X2 (by decide) hL hi (cel_72 z g gm i) rfl d hq kk
theorem g_X2_made (hL : Cond.fieldLink own idx "CopierJobs$Now" "made" "[I" ∈ lw_gt) (hi : i < dm 72) (d : decode cc pc = .ok (.getfield idx, 3)) (hq : pc + 3 = q) (kk : zJ p l e R s m args below meth c cc nL own z cells slots (wx z gm) fin ri Q q lv (.ref (za z 5 i) :: st) g M) : zJ p l e R s m args below meth c cc nL own z cells slots (wx z gm) fin ri Q pc lv (.ref (za z 72 i) :: st) g M := j_get (ci := 2) (k := 72) (f := 5) rfl hin_X2 (by decide) hL hi (cel_72 z g gm i) rfl d hq kk
theorem gN_X2_made (hL : Cond.fieldLinkNest own idx "CopierJobs$Now" "made" "[I" host ∈ lw_nt) (hi : i < dm 72) (d : decode cc pc = .ok (.getfield idx, 3)) (hq : pc + 3 = q) (kk : zJ p l e R s m args below meth c cc nL own z cells slots (wx z gm) fin ri Q q lv (.ref (za z 5 i) :: st) g M) : zJ p l e R s m args below meth c cc nL own z cells slots (wx z gm) fin ri Q pc lv (.ref (za z 72 i) :: st) g M := j_getN (ci := 2) (k := 72) (f := 5) rfl hin_X2 (by decide) hL hi (cel_72 z g gm i) rfl d hq kk
theorem g_X2_ends (hL : Cond.fieldLink own idx "CopierJobs$Now" "ends" "[I" ∈ lw_gt) (hi : i < dm 72) (d : decode cc pc = .ok (.getfield idx, 3)) (hq : pc + 3 = q) (kk : zJ p l e R s m args below meth c cc nL own z cells slots (wx z gm) fin ri Q q lv (.ref (za z 6 i) :: st) g M) : zJ p l e R s m args below meth c cc nL own z cells slots (wx z gm) fin ri Q pc lv (.ref (za z 72 i) :: st) g M := j_get (ci := 2) (k := 72) (f := 6) rfl hin_X2 (by decide) hL hi (cel_72 z g gm i) rfl d hq kk
theorem gN_X2_ends (hL : Cond.fieldLinkNest own idx "CopierJobs$Now" "ends" "[I" host ∈ lw_nt) (hi : i < dm 72) (d : decode cc pc = .ok (.getfield idx, 3)) (hq : pc + 3 = q) (kk : zJ p l e R s m args below meth c cc nL own z cells slots (wx z gm) fin ri Q q lv (.ref (za z 6 i) :: st) g M) : zJ p l e R s m args below meth c cc nL own z cells slots (wx z gm) fin ri Q pc lv (.ref (za z 72 i) :: st) g M := j_getN (ci := 2) (k := 72) (f := 6) rfl hin_X2 (by decide) hL hi (cel_72 z g gm i) rfl d hq kk
theorem g_X2_trays (hL : Cond.fieldLink own idx "CopierJobs$Now" "trays" "[I" ∈ lw_gt) (hi : i < dm 72) (d : decode cc pc = .ok (.getfield idx, 3)) (hq : pc + 3 = q) (kk : zJ p l e R s m args below meth c cc nL own z cells slots (wx z gm) fin ri Q q lv (.ref (za z 7 i) :: st) g M) : zJ p l e R s m args below meth c cc nL own z cells slots (wx z gm) fin ri Q pc lv (.ref (za z 72 i) :: st) g M := j_get (ci := 2) (k := 72) (f := 7) rfl hin_X2 (by decide) hL hi (cel_72 z g gm i) rfl d hq kk
theorem gN_X2_trays (hL : Cond.fieldLinkNest own idx "CopierJobs$Now" "trays" "[I" host ∈ lw_nt) (hi : i < dm 72) (d : decode cc pc = .ok (.getfield idx, 3)) (hq : pc + 3 = q) (kk : zJ p l e R s m args below meth c cc nL own z cells slots (wx z gm) fin ri Q q lv (.ref (za z 7 i) :: st) g M) : zJ p l e R s m args below meth c cc nL own z cells slots (wx z gm) fin ri Q pc lv (.ref (za z 72 i) :: st) g M := j_getN (ci := 2) (k := 72) (f := 7) rfl hin_X2 (by decide) hL hi (cel_72 z g gm i) rfl d hq kk
theorem g_X2_bins (hL : Cond.fieldLink own idx "CopierJobs$Now" "bins" "[I" ∈ lw_gt) (hi : i < dm 72) (d : decode cc pc = .ok (.getfield idx, 3)) (hq : pc + 3 = q) (kk : zJ p l e R s m args below meth c cc nL own z cells slots (wx z gm) fin ri Q q lv (.ref (za z 8 i) :: st) g M) : zJ p l e R s m args below meth c cc nL own z cells slots (wx z gm) fin ri Q pc lv (.ref (za z 72 i) :: st) g M := j_get (ci := 2) (k := 72) (f := 8) rfl hin_X2 (by decide) hL hi (cel_72 z g gm i) rfl d hq kk
theorem gN_X2_bins (hL : Cond.fieldLinkNest own idx "CopierJobs$Now" "bins" "[I" host ∈ lw_nt) (hi : i < dm 72) (d : decode cc pc = .ok (.getfield idx, 3)) (hq : pc + 3 = q) (kk : zJ p l e R s m args below meth c cc nL own z cells slots (wx z gm) fin ri Q q lv (.ref (za z 8 i) :: st) g M) : zJ p l e R s m args below meth c cc nL own z cells slots (wx z gm) fin ri Q pc lv (.ref (za z 72 i) :: st) g M := j_getN (ci := 2) (k := 72) (f := 8) rfl hin_X2 (by decide) hL hi (cel_72 z g gm i) rfl d hq kk
end FLDX2
section FLDX3
variable {p : Program} {l : Launch} {e : Env} {R : Room} {s : State} {m : MethodId} {args : Array Value} {below : List Frame} {meth : Method} {c : Code} {cc : ByteArray} {nL : Nat} {own host : String} {z : zE} {cells slots : Nat} {ρ : Type} {gm gx : zG} {fin : ρ → zG → List Value → Prop} {ri : Instr} {Q : ρ → State → Prop} {pc q i idx : Nat} {lv : List (Nat × Value)} {st : List Value} {g : zG} {M : Option ρ} {F : zG → Option ρ}
theorem g_X3_trays (hL : Cond.fieldLink own idx "CopierJobs$Plan" "trays" "[I" ∈ lw_gt) (hi : i < dm 73) (d : decode cc pc = .ok (.getfield idx, 3)) (hq : pc + 3 = q) (kk : zJ p l e R s m args below meth c cc nL own z cells slots (wx z gm) fin ri Q q lv (.ref (za z 16 i) :: st) g M) : zJ p l e R s m args below meth c cc nL own z cells slots (wx z gm) fin ri Q pc lv (.ref (za z 73 i) :: st) g M := j_get (ci := 3) (k := 73) (f := 0) rfl hin_X3 (by decide) hL hi (cel_73 z g gm i) rfl d hq kk
theorem gN_X3_trays (hL : Cond.fieldLinkNest own idx "CopierJobs$Plan" "trays" "[I" host ∈ lw_nt) (hi : i < dm 73) (d : decode cc pc = .ok (.getfield idx, 3)) (hq : pc + 3 = q) (kk : zJ p l e R s m args below meth c cc nL own z cells slots (wx z gm) fin ri Q q lv (.ref (za z 16 i) :: st) g M) : zJ p l e R s m args below meth c cc nL own z cells slots (wx z gm) fin ri Q pc lv (.ref (za z 73 i) :: st) g M := j_getN (ci := 3) (k := 73) (f := 0) rfl hin_X3 (by decide) hL hi (cel_73 z g gm i) rfl d hq kk
theorem g_X3_toner (hL : Cond.fieldLink own idx "CopierJobs$Plan" "toner" "I" ∈ lw_gt) (hi : i < dm 73) (d : decode cc pc = .ok (.getfield idx, 3)) (hq : pc + 3 = q) (kk : zJ p l e R s m args below meth c cc nL own z cells slots (wx z gm) fin ri Q q lv (.int (gi g 10 i 0) :: st) g M) : zJ p l e R s m args below meth c cc nL own z cells slots (wx z gm) fin ri Q pc lv (.ref (za z 73 i) :: st) g M := j_get (ci := 3) (k := 73) (f := 1) rfl hin_X3 (by decide) hL hi (cel_73 z g gm i) rfl d hq kk
theorem gN_X3_toner (hL : Cond.fieldLinkNest own idx "CopierJobs$Plan" "toner" "I" host ∈ lw_nt) (hi : i < dm 73) (d : decode cc pc = .ok (.getfield idx, 3)) (hq : pc + 3 = q) (kk : zJ p l e R s m args below meth c cc nL own z cells slots (wx z gm) fin ri Q q lv (.int (gi g 10 i 0) :: st) g M) : zJ p l e R s m args below meth c cc nL own z cells slots (wx z gm) fin ri Q pc lv (.ref (za z 73 i) :: st) g M := j_getN (ci := 3) (k := 73) (f := 1) rfl hin_X3 (by decide) hL hi (cel_73 z g gm i) rfl d hq kk
theorem up_X3_toner (z : zE) (x m : zG) (i : Nat) (v : Int32) : ∀ a b, b < dm a → upc (wx z m x) 73 i (.inr (3, [.ref (za z 16 i), .int v, .int (gi x 11 i 0), .ref (za z 81 i), .int (gi x 12 i 0), .ref (za z 17 i), .int (gi x 13 i 0), .int (gi x 14 i 0), .int (gi x 15 i 0)])) a b = wx z m (ui x 10 i 0 v) a b := by
  intro a b hb
  by_cases ha : a = 73
  · subst ha; by_cases h : b = i
    · subst h; simp [upc, cel_73, gi_ui, gl_ui, gn_ui, gi_ul, gl_ul, gn_ul, gi_un, gl_un, gn_un]
    · simp [upc, cel_73, gi_ui, gl_ui, gn_ui, gi_ul, gl_ul, gn_ul, gi_un, gl_un, gn_un, h]
  · rw [upc, if_neg (fun h => ha h.1)]
    rcases dm_cases hb with rfl | rfl | rfl | rfl | rfl | rfl | rfl | rfl | rfl | rfl | rfl | rfl | rfl | rfl | rfl | rfl | rfl | rfl | rfl | rfl | rfl | rfl | rfl | rfl | rfl | rfl | rfl | rfl | rfl | rfl | rfl | rfl | rfl | rfl | rfl | rfl | rfl | rfl <;> first | rfl | exact absurd rfl ha
theorem p_X3_toner {v : Int32} (hL : Cond.fieldLink own idx "CopierJobs$Plan" "toner" "I" ∈ lw_gt) (hi : i < dm 73) (d : decode cc pc = .ok (.putfield idx, 3)) (hq : pc + 3 = q) (kk : ∀ g1, zJ p l e R s m args below meth c cc nL own z cells slots (wx z gm) fin ri Q q lv st g1 (F g1)) : zJ p l e R s m args below meth c cc nL own z cells slots (wx z gm) fin ri Q pc lv (.int v :: .ref (za z 73 i) :: st) g (bd (ui g 10 i 0 v) F) := j_put (ci := 3) (k := 73) (f := 1) rfl hin_X3 tyX3 tyX3_ok nmX3 (by decide) rfl (ty := .int) (by decide +kernel) hL hi (cel_73 z g gm i) (Nat.le_of_ble_eq_true rfl) rfl rfl (up_X3_toner z g gm i v) d hq kk
theorem pN_X3_toner {v : Int32} (hL : Cond.fieldLinkNest own idx "CopierJobs$Plan" "toner" "I" host ∈ lw_nt) (hi : i < dm 73) (d : decode cc pc = .ok (.putfield idx, 3)) (hq : pc + 3 = q) (kk : ∀ g1, zJ p l e R s m args below meth c cc nL own z cells slots (wx z gm) fin ri Q q lv st g1 (F g1)) : zJ p l e R s m args below meth c cc nL own z cells slots (wx z gm) fin ri Q pc lv (.int v :: .ref (za z 73 i) :: st) g (bd (ui g 10 i 0 v) F) := j_putN (ci := 3) (k := 73) (f := 1) rfl hin_X3 tyX3 tyX3_ok nmX3 (by decide) rfl (ty := .int) (by decide +kernel) hL hi (cel_73 z g gm i) (Nat.le_of_ble_eq_true rfl) rfl rfl (up_X3_toner z g gm i v) d hq kk
theorem g_X3_bins (hL : Cond.fieldLink own idx "CopierJobs$Plan" "bins" "I" ∈ lw_gt) (hi : i < dm 73) (d : decode cc pc = .ok (.getfield idx, 3)) (hq : pc + 3 = q) (kk : zJ p l e R s m args below meth c cc nL own z cells slots (wx z gm) fin ri Q q lv (.int (gi g 11 i 0) :: st) g M) : zJ p l e R s m args below meth c cc nL own z cells slots (wx z gm) fin ri Q pc lv (.ref (za z 73 i) :: st) g M := j_get (ci := 3) (k := 73) (f := 2) rfl hin_X3 (by decide) hL hi (cel_73 z g gm i) rfl d hq kk
theorem gN_X3_bins (hL : Cond.fieldLinkNest own idx "CopierJobs$Plan" "bins" "I" host ∈ lw_nt) (hi : i < dm 73) (d : decode cc pc = .ok (.getfield idx, 3)) (hq : pc + 3 = q) (kk : zJ p l e R s m args below meth c cc nL own z cells slots (wx z gm) fin ri Q q lv (.int (gi g 11 i 0) :: st) g M) : zJ p l e R s m args below meth c cc nL own z cells slots (wx z gm) fin ri Q pc lv (.ref (za z 73 i) :: st) g M := j_getN (ci := 3) (k := 73) (f := 2) rfl hin_X3 (by decide) hL hi (cel_73 z g gm i) rfl d hq kk
theorem up_X3_bins (z : zE) (x m : zG) (i : Nat) (v : Int32) : ∀ a b, b < dm a → upc (wx z m x) 73 i (.inr (3, [.ref (za z 16 i), .int (gi x 10 i 0), .int v, .ref (za z 81 i), .int (gi x 12 i 0), .ref (za z 17 i), .int (gi x 13 i 0), .int (gi x 14 i 0), .int (gi x 15 i 0)])) a b = wx z m (ui x 11 i 0 v) a b := by
  intro a b hb
  by_cases ha : a = 73
  · subst ha; by_cases h : b = i
    · subst h; simp [upc, cel_73, gi_ui, gl_ui, gn_ui, gi_ul, gl_ul, gn_ul, gi_un, gl_un, gn_un]
    · simp [upc, cel_73, gi_ui, gl_ui, gn_ui, gi_ul, gl_ul, gn_ul, gi_un, gl_un, gn_un, h]
  · rw [upc, if_neg (fun h => ha h.1)]
    rcases dm_cases hb with rfl | rfl | rfl | rfl | rfl | rfl | rfl | rfl | rfl | rfl | rfl | rfl | rfl | rfl | rfl | rfl | rfl | rfl | rfl | rfl | rfl | rfl | rfl | rfl | rfl | rfl | rfl | rfl | rfl | rfl | rfl | rfl | rfl | rfl | rfl | rfl | rfl | rfl <;> first | rfl | exact absurd rfl ha
theorem p_X3_bins {v : Int32} (hL : Cond.fieldLink own idx "CopierJobs$Plan" "bins" "I" ∈ lw_gt) (hi : i < dm 73) (d : decode cc pc = .ok (.putfield idx, 3)) (hq : pc + 3 = q) (kk : ∀ g1, zJ p l e R s m args below meth c cc nL own z cells slots (wx z gm) fin ri Q q lv st g1 (F g1)) : zJ p l e R s m args below meth c cc nL own z cells slots (wx z gm) fin ri Q pc lv (.int v :: .ref (za z 73 i) :: st) g (bd (ui g 11 i 0 v) F) := j_put (ci := 3) (k := 73) (f := 2) rfl hin_X3 tyX3 tyX3_ok nmX3 (by decide) rfl (ty := .int) (by decide +kernel) hL hi (cel_73 z g gm i) (Nat.le_of_ble_eq_true rfl) rfl rfl (up_X3_bins z g gm i v) d hq kk
theorem pN_X3_bins {v : Int32} (hL : Cond.fieldLinkNest own idx "CopierJobs$Plan" "bins" "I" host ∈ lw_nt) (hi : i < dm 73) (d : decode cc pc = .ok (.putfield idx, 3)) (hq : pc + 3 = q) (kk : ∀ g1, zJ p l e R s m args below meth c cc nL own z cells slots (wx z gm) fin ri Q q lv st g1 (F g1)) : zJ p l e R s m args below meth c cc nL own z cells slots (wx z gm) fin ri Q pc lv (.int v :: .ref (za z 73 i) :: st) g (bd (ui g 11 i 0 v) F) := j_putN (ci := 3) (k := 73) (f := 2) rfl hin_X3 tyX3 tyX3_ok nmX3 (by decide) rfl (ty := .int) (by decide +kernel) hL hi (cel_73 z g gm i) (Nat.le_of_ble_eq_true rfl) rfl rfl (up_X3_bins z g gm i v) d hq kk
theorem g_X3_jobs (hL : Cond.fieldLink own idx "CopierJobs$Plan" "jobs" "[LCopierJobs$Job;" ∈ lw_gt) (hi : i < dm 73) (d : decode cc pc = .ok (.getfield idx, 3)) (hq : pc + 3 = q) (kk : zJ p l e R s m args below meth c cc nL own z cells slots (wx z gm) fin ri Q q lv (.ref (za z 81 i) :: st) g M) : zJ p l e R s m args below meth c cc nL own z cells slots (wx z gm) fin ri Q pc lv (.ref (za z 73 i) :: st) g M := j_get (ci := 3) (k := 73) (f := 3) rfl hin_X3 (by decide) hL hi (cel_73 z g gm i) rfl d hq kk
theorem gN_X3_jobs (hL : Cond.fieldLinkNest own idx "CopierJobs$Plan" "jobs" "[LCopierJobs$Job;" host ∈ lw_nt) (hi : i < dm 73) (d : decode cc pc = .ok (.getfield idx, 3)) (hq : pc + 3 = q) (kk : zJ p l e R s m args below meth c cc nL own z cells slots (wx z gm) fin ri Q q lv (.ref (za z 81 i) :: st) g M) : zJ p l e R s m args below meth c cc nL own z cells slots (wx z gm) fin ri Q pc lv (.ref (za z 73 i) :: st) g M := j_getN (ci := 3) (k := 73) (f := 3) rfl hin_X3 (by decide) hL hi (cel_73 z g gm i) rfl d hq kk
theorem g_X3_jobCount (hL : Cond.fieldLink own idx "CopierJobs$Plan" "jobCount" "I" ∈ lw_gt) (hi : i < dm 73) (d : decode cc pc = .ok (.getfield idx, 3)) (hq : pc + 3 = q) (kk : zJ p l e R s m args below meth c cc nL own z cells slots (wx z gm) fin ri Q q lv (.int (gi g 12 i 0) :: st) g M) : zJ p l e R s m args below meth c cc nL own z cells slots (wx z gm) fin ri Q pc lv (.ref (za z 73 i) :: st) g M := j_get (ci := 3) (k := 73) (f := 4) rfl hin_X3 (by decide) hL hi (cel_73 z g gm i) rfl d hq kk
theorem gN_X3_jobCount (hL : Cond.fieldLinkNest own idx "CopierJobs$Plan" "jobCount" "I" host ∈ lw_nt) (hi : i < dm 73) (d : decode cc pc = .ok (.getfield idx, 3)) (hq : pc + 3 = q) (kk : zJ p l e R s m args below meth c cc nL own z cells slots (wx z gm) fin ri Q q lv (.int (gi g 12 i 0) :: st) g M) : zJ p l e R s m args below meth c cc nL own z cells slots (wx z gm) fin ri Q pc lv (.ref (za z 73 i) :: st) g M := j_getN (ci := 3) (k := 73) (f := 4) rfl hin_X3 (by decide) hL hi (cel_73 z g gm i) rfl d hq kk
theorem up_X3_jobCount (z : zE) (x m : zG) (i : Nat) (v : Int32) : ∀ a b, b < dm a → upc (wx z m x) 73 i (.inr (3, [.ref (za z 16 i), .int (gi x 10 i 0), .int (gi x 11 i 0), .ref (za z 81 i), .int v, .ref (za z 17 i), .int (gi x 13 i 0), .int (gi x 14 i 0), .int (gi x 15 i 0)])) a b = wx z m (ui x 12 i 0 v) a b := by
  intro a b hb
  by_cases ha : a = 73
  · subst ha; by_cases h : b = i
    · subst h; simp [upc, cel_73, gi_ui, gl_ui, gn_ui, gi_ul, gl_ul, gn_ul, gi_un, gl_un, gn_un]
    · simp [upc, cel_73, gi_ui, gl_ui, gn_ui, gi_ul, gl_ul, gn_ul, gi_un, gl_un, gn_un, h]
  · rw [upc, if_neg (fun h => ha h.1)]
    rcases dm_cases hb with rfl | rfl | rfl | rfl | rfl | rfl | rfl | rfl | rfl | rfl | rfl | rfl | rfl | rfl | rfl | rfl | rfl | rfl | rfl | rfl | rfl | rfl | rfl | rfl | rfl | rfl | rfl | rfl | rfl | rfl | rfl | rfl | rfl | rfl | rfl | rfl | rfl | rfl <;> first | rfl | exact absurd rfl ha
theorem p_X3_jobCount {v : Int32} (hL : Cond.fieldLink own idx "CopierJobs$Plan" "jobCount" "I" ∈ lw_gt) (hi : i < dm 73) (d : decode cc pc = .ok (.putfield idx, 3)) (hq : pc + 3 = q) (kk : ∀ g1, zJ p l e R s m args below meth c cc nL own z cells slots (wx z gm) fin ri Q q lv st g1 (F g1)) : zJ p l e R s m args below meth c cc nL own z cells slots (wx z gm) fin ri Q pc lv (.int v :: .ref (za z 73 i) :: st) g (bd (ui g 12 i 0 v) F) := j_put (ci := 3) (k := 73) (f := 4) rfl hin_X3 tyX3 tyX3_ok nmX3 (by decide) rfl (ty := .int) (by decide +kernel) hL hi (cel_73 z g gm i) (Nat.le_of_ble_eq_true rfl) rfl rfl (up_X3_jobCount z g gm i v) d hq kk
theorem pN_X3_jobCount {v : Int32} (hL : Cond.fieldLinkNest own idx "CopierJobs$Plan" "jobCount" "I" host ∈ lw_nt) (hi : i < dm 73) (d : decode cc pc = .ok (.putfield idx, 3)) (hq : pc + 3 = q) (kk : ∀ g1, zJ p l e R s m args below meth c cc nL own z cells slots (wx z gm) fin ri Q q lv st g1 (F g1)) : zJ p l e R s m args below meth c cc nL own z cells slots (wx z gm) fin ri Q pc lv (.int v :: .ref (za z 73 i) :: st) g (bd (ui g 12 i 0 v) F) := j_putN (ci := 3) (k := 73) (f := 4) rfl hin_X3 tyX3 tyX3_ok nmX3 (by decide) rfl (ty := .int) (by decide +kernel) hL hi (cel_73 z g gm i) (Nat.le_of_ble_eq_true rfl) rfl rfl (up_X3_jobCount z g gm i v) d hq kk
theorem g_X3_numbers (hL : Cond.fieldLink own idx "CopierJobs$Plan" "numbers" "[I" ∈ lw_gt) (hi : i < dm 73) (d : decode cc pc = .ok (.getfield idx, 3)) (hq : pc + 3 = q) (kk : zJ p l e R s m args below meth c cc nL own z cells slots (wx z gm) fin ri Q q lv (.ref (za z 17 i) :: st) g M) : zJ p l e R s m args below meth c cc nL own z cells slots (wx z gm) fin ri Q pc lv (.ref (za z 73 i) :: st) g M := j_get (ci := 3) (k := 73) (f := 5) rfl hin_X3 (by decide) hL hi (cel_73 z g gm i) rfl d hq kk
theorem gN_X3_numbers (hL : Cond.fieldLinkNest own idx "CopierJobs$Plan" "numbers" "[I" host ∈ lw_nt) (hi : i < dm 73) (d : decode cc pc = .ok (.getfield idx, 3)) (hq : pc + 3 = q) (kk : zJ p l e R s m args below meth c cc nL own z cells slots (wx z gm) fin ri Q q lv (.ref (za z 17 i) :: st) g M) : zJ p l e R s m args below meth c cc nL own z cells slots (wx z gm) fin ri Q pc lv (.ref (za z 73 i) :: st) g M := j_getN (ci := 3) (k := 73) (f := 5) rfl hin_X3 (by decide) hL hi (cel_73 z g gm i) rfl d hq kk
theorem g_X3_traysTold (hL : Cond.fieldLink own idx "CopierJobs$Plan" "traysTold" "Z" ∈ lw_gt) (hi : i < dm 73) (d : decode cc pc = .ok (.getfield idx, 3)) (hq : pc + 3 = q) (kk : zJ p l e R s m args below meth c cc nL own z cells slots (wx z gm) fin ri Q q lv (.int (gi g 13 i 0) :: st) g M) : zJ p l e R s m args below meth c cc nL own z cells slots (wx z gm) fin ri Q pc lv (.ref (za z 73 i) :: st) g M := j_get (ci := 3) (k := 73) (f := 6) rfl hin_X3 (by decide) hL hi (cel_73 z g gm i) rfl d hq kk
theorem gN_X3_traysTold (hL : Cond.fieldLinkNest own idx "CopierJobs$Plan" "traysTold" "Z" host ∈ lw_nt) (hi : i < dm 73) (d : decode cc pc = .ok (.getfield idx, 3)) (hq : pc + 3 = q) (kk : zJ p l e R s m args below meth c cc nL own z cells slots (wx z gm) fin ri Q q lv (.int (gi g 13 i 0) :: st) g M) : zJ p l e R s m args below meth c cc nL own z cells slots (wx z gm) fin ri Q pc lv (.ref (za z 73 i) :: st) g M := j_getN (ci := 3) (k := 73) (f := 6) rfl hin_X3 (by decide) hL hi (cel_73 z g gm i) rfl d hq kk
theorem up_X3_traysTold (z : zE) (x m : zG) (i : Nat) (v : Int32) : ∀ a b, b < dm a → upc (wx z m x) 73 i (.inr (3, [.ref (za z 16 i), .int (gi x 10 i 0), .int (gi x 11 i 0), .ref (za z 81 i), .int (gi x 12 i 0), .ref (za z 17 i), .int v, .int (gi x 14 i 0), .int (gi x 15 i 0)])) a b = wx z m (ui x 13 i 0 v) a b := by
  intro a b hb
  by_cases ha : a = 73
  · subst ha; by_cases h : b = i
    · subst h; simp [upc, cel_73, gi_ui, gl_ui, gn_ui, gi_ul, gl_ul, gn_ul, gi_un, gl_un, gn_un]
    · simp [upc, cel_73, gi_ui, gl_ui, gn_ui, gi_ul, gl_ul, gn_ul, gi_un, gl_un, gn_un, h]
  · rw [upc, if_neg (fun h => ha h.1)]
    rcases dm_cases hb with rfl | rfl | rfl | rfl | rfl | rfl | rfl | rfl | rfl | rfl | rfl | rfl | rfl | rfl | rfl | rfl | rfl | rfl | rfl | rfl | rfl | rfl | rfl | rfl | rfl | rfl | rfl | rfl | rfl | rfl | rfl | rfl | rfl | rfl | rfl | rfl | rfl | rfl <;> first | rfl | exact absurd rfl ha
theorem p_X3_traysTold {v : Int32} (hL : Cond.fieldLink own idx "CopierJobs$Plan" "traysTold" "Z" ∈ lw_gt) (hi : i < dm 73) (d : decode cc pc = .ok (.putfield idx, 3)) (hq : pc + 3 = q) (kk : ∀ g1, zJ p l e R s m args below meth c cc nL own z cells slots (wx z gm) fin ri Q q lv st g1 (F g1)) : zJ p l e R s m args below meth c cc nL own z cells slots (wx z gm) fin ri Q pc lv (.int v :: .ref (za z 73 i) :: st) g (gd (isb v = true) (bd (ui g 13 i 0 v) F)) := j_gd (fun h => j_put (ci := 3) (k := 73) (f := 6) rfl hin_X3 tyX3 tyX3_ok nmX3 (by decide) rfl (ty := .boolean) (by decide +kernel) hL hi (cel_73 z g gm i) (Nat.le_of_ble_eq_true rfl) (isb_narrow h) (isb_fits h) (up_X3_traysTold z g gm i v) d hq kk)
theorem pN_X3_traysTold {v : Int32} (hL : Cond.fieldLinkNest own idx "CopierJobs$Plan" "traysTold" "Z" host ∈ lw_nt) (hi : i < dm 73) (d : decode cc pc = .ok (.putfield idx, 3)) (hq : pc + 3 = q) (kk : ∀ g1, zJ p l e R s m args below meth c cc nL own z cells slots (wx z gm) fin ri Q q lv st g1 (F g1)) : zJ p l e R s m args below meth c cc nL own z cells slots (wx z gm) fin ri Q pc lv (.int v :: .ref (za z 73 i) :: st) g (gd (isb v = true) (bd (ui g 13 i 0 v) F)) := j_gd (fun h => j_putN (ci := 3) (k := 73) (f := 6) rfl hin_X3 tyX3 tyX3_ok nmX3 (by decide) rfl (ty := .boolean) (by decide +kernel) hL hi (cel_73 z g gm i) (Nat.le_of_ble_eq_true rfl) (isb_narrow h) (isb_fits h) (up_X3_traysTold z g gm i v) d hq kk)
theorem g_X3_tonerTold (hL : Cond.fieldLink own idx "CopierJobs$Plan" "tonerTold" "Z" ∈ lw_gt) (hi : i < dm 73) (d : decode cc pc = .ok (.getfield idx, 3)) (hq : pc + 3 = q) (kk : zJ p l e R s m args below meth c cc nL own z cells slots (wx z gm) fin ri Q q lv (.int (gi g 14 i 0) :: st) g M) : zJ p l e R s m args below meth c cc nL own z cells slots (wx z gm) fin ri Q pc lv (.ref (za z 73 i) :: st) g M := j_get (ci := 3) (k := 73) (f := 7) rfl hin_X3 (by decide) hL hi (cel_73 z g gm i) rfl d hq kk
theorem gN_X3_tonerTold (hL : Cond.fieldLinkNest own idx "CopierJobs$Plan" "tonerTold" "Z" host ∈ lw_nt) (hi : i < dm 73) (d : decode cc pc = .ok (.getfield idx, 3)) (hq : pc + 3 = q) (kk : zJ p l e R s m args below meth c cc nL own z cells slots (wx z gm) fin ri Q q lv (.int (gi g 14 i 0) :: st) g M) : zJ p l e R s m args below meth c cc nL own z cells slots (wx z gm) fin ri Q pc lv (.ref (za z 73 i) :: st) g M := j_getN (ci := 3) (k := 73) (f := 7) rfl hin_X3 (by decide) hL hi (cel_73 z g gm i) rfl d hq kk
theorem up_X3_tonerTold (z : zE) (x m : zG) (i : Nat) (v : Int32) : ∀ a b, b < dm a → upc (wx z m x) 73 i (.inr (3, [.ref (za z 16 i), .int (gi x 10 i 0), .int (gi x 11 i 0), .ref (za z 81 i), .int (gi x 12 i 0), .ref (za z 17 i), .int (gi x 13 i 0), .int v, .int (gi x 15 i 0)])) a b = wx z m (ui x 14 i 0 v) a b := by
  intro a b hb
  by_cases ha : a = 73
  · subst ha; by_cases h : b = i
    · subst h; simp [upc, cel_73, gi_ui, gl_ui, gn_ui, gi_ul, gl_ul, gn_ul, gi_un, gl_un, gn_un]
    · simp [upc, cel_73, gi_ui, gl_ui, gn_ui, gi_ul, gl_ul, gn_ul, gi_un, gl_un, gn_un, h]
  · rw [upc, if_neg (fun h => ha h.1)]
    rcases dm_cases hb with rfl | rfl | rfl | rfl | rfl | rfl | rfl | rfl | rfl | rfl | rfl | rfl | rfl | rfl | rfl | rfl | rfl | rfl | rfl | rfl | rfl | rfl | rfl | rfl | rfl | rfl | rfl | rfl | rfl | rfl | rfl | rfl | rfl | rfl | rfl | rfl | rfl | rfl <;> first | rfl | exact absurd rfl ha
theorem p_X3_tonerTold {v : Int32} (hL : Cond.fieldLink own idx "CopierJobs$Plan" "tonerTold" "Z" ∈ lw_gt) (hi : i < dm 73) (d : decode cc pc = .ok (.putfield idx, 3)) (hq : pc + 3 = q) (kk : ∀ g1, zJ p l e R s m args below meth c cc nL own z cells slots (wx z gm) fin ri Q q lv st g1 (F g1)) : zJ p l e R s m args below meth c cc nL own z cells slots (wx z gm) fin ri Q pc lv (.int v :: .ref (za z 73 i) :: st) g (gd (isb v = true) (bd (ui g 14 i 0 v) F)) := j_gd (fun h => j_put (ci := 3) (k := 73) (f := 7) rfl hin_X3 tyX3 tyX3_ok nmX3 (by decide) rfl (ty := .boolean) (by decide +kernel) hL hi (cel_73 z g gm i) (Nat.le_of_ble_eq_true rfl) (isb_narrow h) (isb_fits h) (up_X3_tonerTold z g gm i v) d hq kk)
theorem pN_X3_tonerTold {v : Int32} (hL : Cond.fieldLinkNest own idx "CopierJobs$Plan" "tonerTold" "Z" host ∈ lw_nt) (hi : i < dm 73) (d : decode cc pc = .ok (.putfield idx, 3)) (hq : pc + 3 = q) (kk : ∀ g1, zJ p l e R s m args below meth c cc nL own z cells slots (wx z gm) fin ri Q q lv st g1 (F g1)) : zJ p l e R s m args below meth c cc nL own z cells slots (wx z gm) fin ri Q pc lv (.int v :: .ref (za z 73 i) :: st) g (gd (isb v = true) (bd (ui g 14 i 0 v) F)) := j_gd (fun h => j_putN (ci := 3) (k := 73) (f := 7) rfl hin_X3 tyX3 tyX3_ok nmX3 (by decide) rfl (ty := .boolean) (by decide +kernel) hL hi (cel_73 z g gm i) (Nat.le_of_ble_eq_true rfl) (isb_narrow h) (isb_fits h) (up_X3_tonerTold z g gm i v) d hq kk)
theorem g_X3_binsTold (hL : Cond.fieldLink own idx "CopierJobs$Plan" "binsTold" "Z" ∈ lw_gt) (hi : i < dm 73) (d : decode cc pc = .ok (.getfield idx, 3)) (hq : pc + 3 = q) (kk : zJ p l e R s m args below meth c cc nL own z cells slots (wx z gm) fin ri Q q lv (.int (gi g 15 i 0) :: st) g M) : zJ p l e R s m args below meth c cc nL own z cells slots (wx z gm) fin ri Q pc lv (.ref (za z 73 i) :: st) g M := j_get (ci := 3) (k := 73) (f := 8) rfl hin_X3 (by decide) hL hi (cel_73 z g gm i) rfl d hq kk
theorem gN_X3_binsTold (hL : Cond.fieldLinkNest own idx "CopierJobs$Plan" "binsTold" "Z" host ∈ lw_nt) (hi : i < dm 73) (d : decode cc pc = .ok (.getfield idx, 3)) (hq : pc + 3 = q) (kk : zJ p l e R s m args below meth c cc nL own z cells slots (wx z gm) fin ri Q q lv (.int (gi g 15 i 0) :: st) g M) : zJ p l e R s m args below meth c cc nL own z cells slots (wx z gm) fin ri Q pc lv (.ref (za z 73 i) :: st) g M := j_getN (ci := 3) (k := 73) (f := 8) rfl hin_X3 (by decide) hL hi (cel_73 z g gm i) rfl d hq kk
theorem up_X3_binsTold (z : zE) (x m : zG) (i : Nat) (v : Int32) : ∀ a b, b < dm a → upc (wx z m x) 73 i (.inr (3, [.ref (za z 16 i), .int (gi x 10 i 0), .int (gi x 11 i 0), .ref (za z 81 i), .int (gi x 12 i 0), .ref (za z 17 i), .int (gi x 13 i 0), .int (gi x 14 i 0), .int v])) a b = wx z m (ui x 15 i 0 v) a b := by
  intro a b hb
  by_cases ha : a = 73
  · subst ha; by_cases h : b = i
    · subst h; simp [upc, cel_73, gi_ui, gl_ui, gn_ui, gi_ul, gl_ul, gn_ul, gi_un, gl_un, gn_un]
    · simp [upc, cel_73, gi_ui, gl_ui, gn_ui, gi_ul, gl_ul, gn_ul, gi_un, gl_un, gn_un, h]
  · rw [upc, if_neg (fun h => ha h.1)]
    rcases dm_cases hb with rfl | rfl | rfl | rfl | rfl | rfl | rfl | rfl | rfl | rfl | rfl | rfl | rfl | rfl | rfl | rfl | rfl | rfl | rfl | rfl | rfl | rfl | rfl | rfl | rfl | rfl | rfl | rfl | rfl | rfl | rfl | rfl | rfl | rfl | rfl | rfl | rfl | rfl <;> first | rfl | exact absurd rfl ha
theorem p_X3_binsTold {v : Int32} (hL : Cond.fieldLink own idx "CopierJobs$Plan" "binsTold" "Z" ∈ lw_gt) (hi : i < dm 73) (d : decode cc pc = .ok (.putfield idx, 3)) (hq : pc + 3 = q) (kk : ∀ g1, zJ p l e R s m args below meth c cc nL own z cells slots (wx z gm) fin ri Q q lv st g1 (F g1)) : zJ p l e R s m args below meth c cc nL own z cells slots (wx z gm) fin ri Q pc lv (.int v :: .ref (za z 73 i) :: st) g (gd (isb v = true) (bd (ui g 15 i 0 v) F)) := j_gd (fun h => j_put (ci := 3) (k := 73) (f := 8) rfl hin_X3 tyX3 tyX3_ok nmX3 (by decide) rfl (ty := .boolean) (by decide +kernel) hL hi (cel_73 z g gm i) (Nat.le_of_ble_eq_true rfl) (isb_narrow h) (isb_fits h) (up_X3_binsTold z g gm i v) d hq kk)
theorem pN_X3_binsTold {v : Int32} (hL : Cond.fieldLinkNest own idx "CopierJobs$Plan" "binsTold" "Z" host ∈ lw_nt) (hi : i < dm 73) (d : decode cc pc = .ok (.putfield idx, 3)) (hq : pc + 3 = q) (kk : ∀ g1, zJ p l e R s m args below meth c cc nL own z cells slots (wx z gm) fin ri Q q lv st g1 (F g1)) : zJ p l e R s m args below meth c cc nL own z cells slots (wx z gm) fin ri Q pc lv (.int v :: .ref (za z 73 i) :: st) g (gd (isb v = true) (bd (ui g 15 i 0 v) F)) := j_gd (fun h => j_putN (ci := 3) (k := 73) (f := 8) rfl hin_X3 tyX3 tyX3_ok nmX3 (by decide) rfl (ty := .boolean) (by decide +kernel) hL hi (cel_73 z g gm i) (Nat.le_of_ble_eq_true rfl) (isb_narrow h) (isb_fits h) (up_X3_binsTold z g gm i v) d hq kk)
end FLDX3
section FLDX4
variable {p : Program} {l : Launch} {e : Env} {R : Room} {s : State} {m : MethodId} {args : Array Value} {below : List Frame} {meth : Method} {c : Code} {cc : ByteArray} {nL : Nat} {own host : String} {z : zE} {cells slots : Nat} {ρ : Type} {gm gx : zG} {fin : ρ → zG → List Value → Prop} {ri : Instr} {Q : ρ → State → Prop} {pc q i idx : Nat} {lv : List (Nat × Value)} {st : List Value} {g : zG} {M : Option ρ} {F : zG → Option ρ}
theorem g_X4_sheets (hL : Cond.fieldLink own idx "CopierJobs$Seen" "sheets" "[I" ∈ lw_gt) (hi : i < dm 74) (d : decode cc pc = .ok (.getfield idx, 3)) (hq : pc + 3 = q) (kk : zJ p l e R s m args below meth c cc nL own z cells slots (wx z gm) fin ri Q q lv (.ref (za z 41 i) :: st) g M) : zJ p l e R s m args below meth c cc nL own z cells slots (wx z gm) fin ri Q pc lv (.ref (za z 74 i) :: st) g M := j_get (ci := 4) (k := 74) (f := 0) rfl hin_X4 (by decide) hL hi (cel_74 z g gm i) rfl d hq kk
theorem gN_X4_sheets (hL : Cond.fieldLinkNest own idx "CopierJobs$Seen" "sheets" "[I" host ∈ lw_nt) (hi : i < dm 74) (d : decode cc pc = .ok (.getfield idx, 3)) (hq : pc + 3 = q) (kk : zJ p l e R s m args below meth c cc nL own z cells slots (wx z gm) fin ri Q q lv (.ref (za z 41 i) :: st) g M) : zJ p l e R s m args below meth c cc nL own z cells slots (wx z gm) fin ri Q pc lv (.ref (za z 74 i) :: st) g M := j_getN (ci := 4) (k := 74) (f := 0) rfl hin_X4 (by decide) hL hi (cel_74 z g gm i) rfl d hq kk
theorem g_X4_pages (hL : Cond.fieldLink own idx "CopierJobs$Seen" "pages" "[I" ∈ lw_gt) (hi : i < dm 74) (d : decode cc pc = .ok (.getfield idx, 3)) (hq : pc + 3 = q) (kk : zJ p l e R s m args below meth c cc nL own z cells slots (wx z gm) fin ri Q q lv (.ref (za z 42 i) :: st) g M) : zJ p l e R s m args below meth c cc nL own z cells slots (wx z gm) fin ri Q pc lv (.ref (za z 74 i) :: st) g M := j_get (ci := 4) (k := 74) (f := 1) rfl hin_X4 (by decide) hL hi (cel_74 z g gm i) rfl d hq kk
theorem gN_X4_pages (hL : Cond.fieldLinkNest own idx "CopierJobs$Seen" "pages" "[I" host ∈ lw_nt) (hi : i < dm 74) (d : decode cc pc = .ok (.getfield idx, 3)) (hq : pc + 3 = q) (kk : zJ p l e R s m args below meth c cc nL own z cells slots (wx z gm) fin ri Q q lv (.ref (za z 42 i) :: st) g M) : zJ p l e R s m args below meth c cc nL own z cells slots (wx z gm) fin ri Q pc lv (.ref (za z 74 i) :: st) g M := j_getN (ci := 4) (k := 74) (f := 1) rfl hin_X4 (by decide) hL hi (cel_74 z g gm i) rfl d hq kk
theorem g_X4_there (hL : Cond.fieldLink own idx "CopierJobs$Seen" "there" "[I" ∈ lw_gt) (hi : i < dm 74) (d : decode cc pc = .ok (.getfield idx, 3)) (hq : pc + 3 = q) (kk : zJ p l e R s m args below meth c cc nL own z cells slots (wx z gm) fin ri Q q lv (.ref (za z 43 i) :: st) g M) : zJ p l e R s m args below meth c cc nL own z cells slots (wx z gm) fin ri Q pc lv (.ref (za z 74 i) :: st) g M := j_get (ci := 4) (k := 74) (f := 2) rfl hin_X4 (by decide) hL hi (cel_74 z g gm i) rfl d hq kk
theorem gN_X4_there (hL : Cond.fieldLinkNest own idx "CopierJobs$Seen" "there" "[I" host ∈ lw_nt) (hi : i < dm 74) (d : decode cc pc = .ok (.getfield idx, 3)) (hq : pc + 3 = q) (kk : zJ p l e R s m args below meth c cc nL own z cells slots (wx z gm) fin ri Q q lv (.ref (za z 43 i) :: st) g M) : zJ p l e R s m args below meth c cc nL own z cells slots (wx z gm) fin ri Q pc lv (.ref (za z 74 i) :: st) g M := j_getN (ci := 4) (k := 74) (f := 2) rfl hin_X4 (by decide) hL hi (cel_74 z g gm i) rfl d hq kk
theorem g_X4_size (hL : Cond.fieldLink own idx "CopierJobs$Seen" "size" "I" ∈ lw_gt) (hi : i < dm 74) (d : decode cc pc = .ok (.getfield idx, 3)) (hq : pc + 3 = q) (kk : zJ p l e R s m args below meth c cc nL own z cells slots (wx z gm) fin ri Q q lv (.int (gi g 40 i 0) :: st) g M) : zJ p l e R s m args below meth c cc nL own z cells slots (wx z gm) fin ri Q pc lv (.ref (za z 74 i) :: st) g M := j_get (ci := 4) (k := 74) (f := 3) rfl hin_X4 (by decide) hL hi (cel_74 z g gm i) rfl d hq kk
theorem gN_X4_size (hL : Cond.fieldLinkNest own idx "CopierJobs$Seen" "size" "I" host ∈ lw_nt) (hi : i < dm 74) (d : decode cc pc = .ok (.getfield idx, 3)) (hq : pc + 3 = q) (kk : zJ p l e R s m args below meth c cc nL own z cells slots (wx z gm) fin ri Q q lv (.int (gi g 40 i 0) :: st) g M) : zJ p l e R s m args below meth c cc nL own z cells slots (wx z gm) fin ri Q pc lv (.ref (za z 74 i) :: st) g M := j_getN (ci := 4) (k := 74) (f := 3) rfl hin_X4 (by decide) hL hi (cel_74 z g gm i) rfl d hq kk
theorem up_X4_size (z : zE) (x m : zG) (i : Nat) (v : Int32) : ∀ a b, b < dm a → upc (wx z m x) 74 i (.inr (4, [.ref (za z 41 i), .ref (za z 42 i), .ref (za z 43 i), .int v, .ref (za z 44 i)])) a b = wx z m (ui x 40 i 0 v) a b := by
  intro a b hb
  by_cases ha : a = 74
  · subst ha; by_cases h : b = i
    · subst h; simp [upc, cel_74, gi_ui, gl_ui, gn_ui, gi_ul, gl_ul, gn_ul, gi_un, gl_un, gn_un]
    · simp [upc, cel_74, gi_ui, gl_ui, gn_ui, gi_ul, gl_ul, gn_ul, gi_un, gl_un, gn_un, h]
  · rw [upc, if_neg (fun h => ha h.1)]
    rcases dm_cases hb with rfl | rfl | rfl | rfl | rfl | rfl | rfl | rfl | rfl | rfl | rfl | rfl | rfl | rfl | rfl | rfl | rfl | rfl | rfl | rfl | rfl | rfl | rfl | rfl | rfl | rfl | rfl | rfl | rfl | rfl | rfl | rfl | rfl | rfl | rfl | rfl | rfl | rfl <;> first | rfl | exact absurd rfl ha
theorem p_X4_size {v : Int32} (hL : Cond.fieldLink own idx "CopierJobs$Seen" "size" "I" ∈ lw_gt) (hi : i < dm 74) (d : decode cc pc = .ok (.putfield idx, 3)) (hq : pc + 3 = q) (kk : ∀ g1, zJ p l e R s m args below meth c cc nL own z cells slots (wx z gm) fin ri Q q lv st g1 (F g1)) : zJ p l e R s m args below meth c cc nL own z cells slots (wx z gm) fin ri Q pc lv (.int v :: .ref (za z 74 i) :: st) g (bd (ui g 40 i 0 v) F) := j_put (ci := 4) (k := 74) (f := 3) rfl hin_X4 tyX4 tyX4_ok nmX4 (by decide) rfl (ty := .int) (by decide +kernel) hL hi (cel_74 z g gm i) (Nat.le_of_ble_eq_true rfl) rfl rfl (up_X4_size z g gm i v) d hq kk
theorem pN_X4_size {v : Int32} (hL : Cond.fieldLinkNest own idx "CopierJobs$Seen" "size" "I" host ∈ lw_nt) (hi : i < dm 74) (d : decode cc pc = .ok (.putfield idx, 3)) (hq : pc + 3 = q) (kk : ∀ g1, zJ p l e R s m args below meth c cc nL own z cells slots (wx z gm) fin ri Q q lv st g1 (F g1)) : zJ p l e R s m args below meth c cc nL own z cells slots (wx z gm) fin ri Q pc lv (.int v :: .ref (za z 74 i) :: st) g (bd (ui g 40 i 0 v) F) := j_putN (ci := 4) (k := 74) (f := 3) rfl hin_X4 tyX4 tyX4_ok nmX4 (by decide) rfl (ty := .int) (by decide +kernel) hL hi (cel_74 z g gm i) (Nat.le_of_ble_eq_true rfl) rfl rfl (up_X4_size z g gm i v) d hq kk
theorem g_X4_withFront (hL : Cond.fieldLink own idx "CopierJobs$Seen" "withFront" "[I" ∈ lw_gt) (hi : i < dm 74) (d : decode cc pc = .ok (.getfield idx, 3)) (hq : pc + 3 = q) (kk : zJ p l e R s m args below meth c cc nL own z cells slots (wx z gm) fin ri Q q lv (.ref (za z 44 i) :: st) g M) : zJ p l e R s m args below meth c cc nL own z cells slots (wx z gm) fin ri Q pc lv (.ref (za z 74 i) :: st) g M := j_get (ci := 4) (k := 74) (f := 4) rfl hin_X4 (by decide) hL hi (cel_74 z g gm i) rfl d hq kk
theorem gN_X4_withFront (hL : Cond.fieldLinkNest own idx "CopierJobs$Seen" "withFront" "[I" host ∈ lw_nt) (hi : i < dm 74) (d : decode cc pc = .ok (.getfield idx, 3)) (hq : pc + 3 = q) (kk : zJ p l e R s m args below meth c cc nL own z cells slots (wx z gm) fin ri Q q lv (.ref (za z 44 i) :: st) g M) : zJ p l e R s m args below meth c cc nL own z cells slots (wx z gm) fin ri Q pc lv (.ref (za z 74 i) :: st) g M := j_getN (ci := 4) (k := 74) (f := 4) rfl hin_X4 (by decide) hL hi (cel_74 z g gm i) rfl d hq kk
end FLDX4
section FLDX5
variable {p : Program} {l : Launch} {e : Env} {R : Room} {s : State} {m : MethodId} {args : Array Value} {below : List Frame} {meth : Method} {c : Code} {cc : ByteArray} {nL : Nat} {own host : String} {z : zE} {cells slots : Nat} {ρ : Type} {gm gx : zG} {fin : ρ → zG → List Value → Prop} {ri : Instr} {Q : ρ → State → Prop} {pc q i idx : Nat} {lv : List (Nat × Value)} {st : List Value} {g : zG} {M : Option ρ} {F : zG → Option ρ}
theorem g_X5_bytes (hL : Cond.fieldLink own idx "CopierJobs$Text" "bytes" "[I" ∈ lw_gt) (hi : i < dm 75) (d : decode cc pc = .ok (.getfield idx, 3)) (hq : pc + 3 = q) (kk : zJ p l e R s m args below meth c cc nL own z cells slots (wx z gm) fin ri Q q lv (.ref (za z 55 i) :: st) g M) : zJ p l e R s m args below meth c cc nL own z cells slots (wx z gm) fin ri Q pc lv (.ref (za z 75 i) :: st) g M := j_get (ci := 5) (k := 75) (f := 0) rfl hin_X5 (by decide) hL hi (cel_75 z g gm i) rfl d hq kk
theorem gN_X5_bytes (hL : Cond.fieldLinkNest own idx "CopierJobs$Text" "bytes" "[I" host ∈ lw_nt) (hi : i < dm 75) (d : decode cc pc = .ok (.getfield idx, 3)) (hq : pc + 3 = q) (kk : zJ p l e R s m args below meth c cc nL own z cells slots (wx z gm) fin ri Q q lv (.ref (za z 55 i) :: st) g M) : zJ p l e R s m args below meth c cc nL own z cells slots (wx z gm) fin ri Q pc lv (.ref (za z 75 i) :: st) g M := j_getN (ci := 5) (k := 75) (f := 0) rfl hin_X5 (by decide) hL hi (cel_75 z g gm i) rfl d hq kk
theorem g_X5_length (hL : Cond.fieldLink own idx "CopierJobs$Text" "length" "I" ∈ lw_gt) (hi : i < dm 75) (d : decode cc pc = .ok (.getfield idx, 3)) (hq : pc + 3 = q) (kk : zJ p l e R s m args below meth c cc nL own z cells slots (wx z gm) fin ri Q q lv (.int (gi g 50 i 0) :: st) g M) : zJ p l e R s m args below meth c cc nL own z cells slots (wx z gm) fin ri Q pc lv (.ref (za z 75 i) :: st) g M := j_get (ci := 5) (k := 75) (f := 1) rfl hin_X5 (by decide) hL hi (cel_75 z g gm i) rfl d hq kk
theorem gN_X5_length (hL : Cond.fieldLinkNest own idx "CopierJobs$Text" "length" "I" host ∈ lw_nt) (hi : i < dm 75) (d : decode cc pc = .ok (.getfield idx, 3)) (hq : pc + 3 = q) (kk : zJ p l e R s m args below meth c cc nL own z cells slots (wx z gm) fin ri Q q lv (.int (gi g 50 i 0) :: st) g M) : zJ p l e R s m args below meth c cc nL own z cells slots (wx z gm) fin ri Q pc lv (.ref (za z 75 i) :: st) g M := j_getN (ci := 5) (k := 75) (f := 1) rfl hin_X5 (by decide) hL hi (cel_75 z g gm i) rfl d hq kk
theorem up_X5_length (z : zE) (x m : zG) (i : Nat) (v : Int32) : ∀ a b, b < dm a → upc (wx z m x) 75 i (.inr (5, [.ref (za z 55 i), .int v, .int (gi x 51 i 0), .int (gi x 52 i 0), .int (gi x 53 i 0), .int (gi x 54 i 0)])) a b = wx z m (ui x 50 i 0 v) a b := by
  intro a b hb
  by_cases ha : a = 75
  · subst ha; by_cases h : b = i
    · subst h; simp [upc, cel_75, gi_ui, gl_ui, gn_ui, gi_ul, gl_ul, gn_ul, gi_un, gl_un, gn_un]
    · simp [upc, cel_75, gi_ui, gl_ui, gn_ui, gi_ul, gl_ul, gn_ul, gi_un, gl_un, gn_un, h]
  · rw [upc, if_neg (fun h => ha h.1)]
    rcases dm_cases hb with rfl | rfl | rfl | rfl | rfl | rfl | rfl | rfl | rfl | rfl | rfl | rfl | rfl | rfl | rfl | rfl | rfl | rfl | rfl | rfl | rfl | rfl | rfl | rfl | rfl | rfl | rfl | rfl | rfl | rfl | rfl | rfl | rfl | rfl | rfl | rfl | rfl | rfl <;> first | rfl | exact absurd rfl ha
theorem p_X5_length {v : Int32} (hL : Cond.fieldLink own idx "CopierJobs$Text" "length" "I" ∈ lw_gt) (hi : i < dm 75) (d : decode cc pc = .ok (.putfield idx, 3)) (hq : pc + 3 = q) (kk : ∀ g1, zJ p l e R s m args below meth c cc nL own z cells slots (wx z gm) fin ri Q q lv st g1 (F g1)) : zJ p l e R s m args below meth c cc nL own z cells slots (wx z gm) fin ri Q pc lv (.int v :: .ref (za z 75 i) :: st) g (bd (ui g 50 i 0 v) F) := j_put (ci := 5) (k := 75) (f := 1) rfl hin_X5 tyX5 tyX5_ok nmX5 (by decide) rfl (ty := .int) (by decide +kernel) hL hi (cel_75 z g gm i) (Nat.le_of_ble_eq_true rfl) rfl rfl (up_X5_length z g gm i v) d hq kk
theorem pN_X5_length {v : Int32} (hL : Cond.fieldLinkNest own idx "CopierJobs$Text" "length" "I" host ∈ lw_nt) (hi : i < dm 75) (d : decode cc pc = .ok (.putfield idx, 3)) (hq : pc + 3 = q) (kk : ∀ g1, zJ p l e R s m args below meth c cc nL own z cells slots (wx z gm) fin ri Q q lv st g1 (F g1)) : zJ p l e R s m args below meth c cc nL own z cells slots (wx z gm) fin ri Q pc lv (.int v :: .ref (za z 75 i) :: st) g (bd (ui g 50 i 0 v) F) := j_putN (ci := 5) (k := 75) (f := 1) rfl hin_X5 tyX5 tyX5_ok nmX5 (by decide) rfl (ty := .int) (by decide +kernel) hL hi (cel_75 z g gm i) (Nat.le_of_ble_eq_true rfl) rfl rfl (up_X5_length z g gm i v) d hq kk
theorem g_X5_place (hL : Cond.fieldLink own idx "CopierJobs$Text" "place" "I" ∈ lw_gt) (hi : i < dm 75) (d : decode cc pc = .ok (.getfield idx, 3)) (hq : pc + 3 = q) (kk : zJ p l e R s m args below meth c cc nL own z cells slots (wx z gm) fin ri Q q lv (.int (gi g 51 i 0) :: st) g M) : zJ p l e R s m args below meth c cc nL own z cells slots (wx z gm) fin ri Q pc lv (.ref (za z 75 i) :: st) g M := j_get (ci := 5) (k := 75) (f := 2) rfl hin_X5 (by decide) hL hi (cel_75 z g gm i) rfl d hq kk
theorem gN_X5_place (hL : Cond.fieldLinkNest own idx "CopierJobs$Text" "place" "I" host ∈ lw_nt) (hi : i < dm 75) (d : decode cc pc = .ok (.getfield idx, 3)) (hq : pc + 3 = q) (kk : zJ p l e R s m args below meth c cc nL own z cells slots (wx z gm) fin ri Q q lv (.int (gi g 51 i 0) :: st) g M) : zJ p l e R s m args below meth c cc nL own z cells slots (wx z gm) fin ri Q pc lv (.ref (za z 75 i) :: st) g M := j_getN (ci := 5) (k := 75) (f := 2) rfl hin_X5 (by decide) hL hi (cel_75 z g gm i) rfl d hq kk
theorem up_X5_place (z : zE) (x m : zG) (i : Nat) (v : Int32) : ∀ a b, b < dm a → upc (wx z m x) 75 i (.inr (5, [.ref (za z 55 i), .int (gi x 50 i 0), .int v, .int (gi x 52 i 0), .int (gi x 53 i 0), .int (gi x 54 i 0)])) a b = wx z m (ui x 51 i 0 v) a b := by
  intro a b hb
  by_cases ha : a = 75
  · subst ha; by_cases h : b = i
    · subst h; simp [upc, cel_75, gi_ui, gl_ui, gn_ui, gi_ul, gl_ul, gn_ul, gi_un, gl_un, gn_un]
    · simp [upc, cel_75, gi_ui, gl_ui, gn_ui, gi_ul, gl_ul, gn_ul, gi_un, gl_un, gn_un, h]
  · rw [upc, if_neg (fun h => ha h.1)]
    rcases dm_cases hb with rfl | rfl | rfl | rfl | rfl | rfl | rfl | rfl | rfl | rfl | rfl | rfl | rfl | rfl | rfl | rfl | rfl | rfl | rfl | rfl | rfl | rfl | rfl | rfl | rfl | rfl | rfl | rfl | rfl | rfl | rfl | rfl | rfl | rfl | rfl | rfl | rfl | rfl <;> first | rfl | exact absurd rfl ha
theorem p_X5_place {v : Int32} (hL : Cond.fieldLink own idx "CopierJobs$Text" "place" "I" ∈ lw_gt) (hi : i < dm 75) (d : decode cc pc = .ok (.putfield idx, 3)) (hq : pc + 3 = q) (kk : ∀ g1, zJ p l e R s m args below meth c cc nL own z cells slots (wx z gm) fin ri Q q lv st g1 (F g1)) : zJ p l e R s m args below meth c cc nL own z cells slots (wx z gm) fin ri Q pc lv (.int v :: .ref (za z 75 i) :: st) g (bd (ui g 51 i 0 v) F) := j_put (ci := 5) (k := 75) (f := 2) rfl hin_X5 tyX5 tyX5_ok nmX5 (by decide) rfl (ty := .int) (by decide +kernel) hL hi (cel_75 z g gm i) (Nat.le_of_ble_eq_true rfl) rfl rfl (up_X5_place z g gm i v) d hq kk
theorem pN_X5_place {v : Int32} (hL : Cond.fieldLinkNest own idx "CopierJobs$Text" "place" "I" host ∈ lw_nt) (hi : i < dm 75) (d : decode cc pc = .ok (.putfield idx, 3)) (hq : pc + 3 = q) (kk : ∀ g1, zJ p l e R s m args below meth c cc nL own z cells slots (wx z gm) fin ri Q q lv st g1 (F g1)) : zJ p l e R s m args below meth c cc nL own z cells slots (wx z gm) fin ri Q pc lv (.int v :: .ref (za z 75 i) :: st) g (bd (ui g 51 i 0 v) F) := j_putN (ci := 5) (k := 75) (f := 2) rfl hin_X5 tyX5 tyX5_ok nmX5 (by decide) rfl (ty := .int) (by decide +kernel) hL hi (cel_75 z g gm i) (Nat.le_of_ble_eq_true rfl) rfl rfl (up_X5_place z g gm i v) d hq kk
theorem g_X5_token (hL : Cond.fieldLink own idx "CopierJobs$Text" "token" "I" ∈ lw_gt) (hi : i < dm 75) (d : decode cc pc = .ok (.getfield idx, 3)) (hq : pc + 3 = q) (kk : zJ p l e R s m args below meth c cc nL own z cells slots (wx z gm) fin ri Q q lv (.int (gi g 52 i 0) :: st) g M) : zJ p l e R s m args below meth c cc nL own z cells slots (wx z gm) fin ri Q pc lv (.ref (za z 75 i) :: st) g M := j_get (ci := 5) (k := 75) (f := 3) rfl hin_X5 (by decide) hL hi (cel_75 z g gm i) rfl d hq kk
theorem gN_X5_token (hL : Cond.fieldLinkNest own idx "CopierJobs$Text" "token" "I" host ∈ lw_nt) (hi : i < dm 75) (d : decode cc pc = .ok (.getfield idx, 3)) (hq : pc + 3 = q) (kk : zJ p l e R s m args below meth c cc nL own z cells slots (wx z gm) fin ri Q q lv (.int (gi g 52 i 0) :: st) g M) : zJ p l e R s m args below meth c cc nL own z cells slots (wx z gm) fin ri Q pc lv (.ref (za z 75 i) :: st) g M := j_getN (ci := 5) (k := 75) (f := 3) rfl hin_X5 (by decide) hL hi (cel_75 z g gm i) rfl d hq kk
theorem up_X5_token (z : zE) (x m : zG) (i : Nat) (v : Int32) : ∀ a b, b < dm a → upc (wx z m x) 75 i (.inr (5, [.ref (za z 55 i), .int (gi x 50 i 0), .int (gi x 51 i 0), .int v, .int (gi x 53 i 0), .int (gi x 54 i 0)])) a b = wx z m (ui x 52 i 0 v) a b := by
  intro a b hb
  by_cases ha : a = 75
  · subst ha; by_cases h : b = i
    · subst h; simp [upc, cel_75, gi_ui, gl_ui, gn_ui, gi_ul, gl_ul, gn_ul, gi_un, gl_un, gn_un]
    · simp [upc, cel_75, gi_ui, gl_ui, gn_ui, gi_ul, gl_ul, gn_ul, gi_un, gl_un, gn_un, h]
  · rw [upc, if_neg (fun h => ha h.1)]
    rcases dm_cases hb with rfl | rfl | rfl | rfl | rfl | rfl | rfl | rfl | rfl | rfl | rfl | rfl | rfl | rfl | rfl | rfl | rfl | rfl | rfl | rfl | rfl | rfl | rfl | rfl | rfl | rfl | rfl | rfl | rfl | rfl | rfl | rfl | rfl | rfl | rfl | rfl | rfl | rfl <;> first | rfl | exact absurd rfl ha
theorem p_X5_token {v : Int32} (hL : Cond.fieldLink own idx "CopierJobs$Text" "token" "I" ∈ lw_gt) (hi : i < dm 75) (d : decode cc pc = .ok (.putfield idx, 3)) (hq : pc + 3 = q) (kk : ∀ g1, zJ p l e R s m args below meth c cc nL own z cells slots (wx z gm) fin ri Q q lv st g1 (F g1)) : zJ p l e R s m args below meth c cc nL own z cells slots (wx z gm) fin ri Q pc lv (.int v :: .ref (za z 75 i) :: st) g (bd (ui g 52 i 0 v) F) := j_put (ci := 5) (k := 75) (f := 3) rfl hin_X5 tyX5 tyX5_ok nmX5 (by decide) rfl (ty := .int) (by decide +kernel) hL hi (cel_75 z g gm i) (Nat.le_of_ble_eq_true rfl) rfl rfl (up_X5_token z g gm i v) d hq kk
theorem pN_X5_token {v : Int32} (hL : Cond.fieldLinkNest own idx "CopierJobs$Text" "token" "I" host ∈ lw_nt) (hi : i < dm 75) (d : decode cc pc = .ok (.putfield idx, 3)) (hq : pc + 3 = q) (kk : ∀ g1, zJ p l e R s m args below meth c cc nL own z cells slots (wx z gm) fin ri Q q lv st g1 (F g1)) : zJ p l e R s m args below meth c cc nL own z cells slots (wx z gm) fin ri Q pc lv (.int v :: .ref (za z 75 i) :: st) g (bd (ui g 52 i 0 v) F) := j_putN (ci := 5) (k := 75) (f := 3) rfl hin_X5 tyX5 tyX5_ok nmX5 (by decide) rfl (ty := .int) (by decide +kernel) hL hi (cel_75 z g gm i) (Nat.le_of_ble_eq_true rfl) rfl rfl (up_X5_token z g gm i v) d hq kk
theorem g_X5_start (hL : Cond.fieldLink own idx "CopierJobs$Text" "start" "I" ∈ lw_gt) (hi : i < dm 75) (d : decode cc pc = .ok (.getfield idx, 3)) (hq : pc + 3 = q) (kk : zJ p l e R s m args below meth c cc nL own z cells slots (wx z gm) fin ri Q q lv (.int (gi g 53 i 0) :: st) g M) : zJ p l e R s m args below meth c cc nL own z cells slots (wx z gm) fin ri Q pc lv (.ref (za z 75 i) :: st) g M := j_get (ci := 5) (k := 75) (f := 4) rfl hin_X5 (by decide) hL hi (cel_75 z g gm i) rfl d hq kk
theorem gN_X5_start (hL : Cond.fieldLinkNest own idx "CopierJobs$Text" "start" "I" host ∈ lw_nt) (hi : i < dm 75) (d : decode cc pc = .ok (.getfield idx, 3)) (hq : pc + 3 = q) (kk : zJ p l e R s m args below meth c cc nL own z cells slots (wx z gm) fin ri Q q lv (.int (gi g 53 i 0) :: st) g M) : zJ p l e R s m args below meth c cc nL own z cells slots (wx z gm) fin ri Q pc lv (.ref (za z 75 i) :: st) g M := j_getN (ci := 5) (k := 75) (f := 4) rfl hin_X5 (by decide) hL hi (cel_75 z g gm i) rfl d hq kk
theorem up_X5_start (z : zE) (x m : zG) (i : Nat) (v : Int32) : ∀ a b, b < dm a → upc (wx z m x) 75 i (.inr (5, [.ref (za z 55 i), .int (gi x 50 i 0), .int (gi x 51 i 0), .int (gi x 52 i 0), .int v, .int (gi x 54 i 0)])) a b = wx z m (ui x 53 i 0 v) a b := by
  intro a b hb
  by_cases ha : a = 75
  · subst ha; by_cases h : b = i
    · subst h; simp [upc, cel_75, gi_ui, gl_ui, gn_ui, gi_ul, gl_ul, gn_ul, gi_un, gl_un, gn_un]
    · simp [upc, cel_75, gi_ui, gl_ui, gn_ui, gi_ul, gl_ul, gn_ul, gi_un, gl_un, gn_un, h]
  · rw [upc, if_neg (fun h => ha h.1)]
    rcases dm_cases hb with rfl | rfl | rfl | rfl | rfl | rfl | rfl | rfl | rfl | rfl | rfl | rfl | rfl | rfl | rfl | rfl | rfl | rfl | rfl | rfl | rfl | rfl | rfl | rfl | rfl | rfl | rfl | rfl | rfl | rfl | rfl | rfl | rfl | rfl | rfl | rfl | rfl | rfl <;> first | rfl | exact absurd rfl ha
theorem p_X5_start {v : Int32} (hL : Cond.fieldLink own idx "CopierJobs$Text" "start" "I" ∈ lw_gt) (hi : i < dm 75) (d : decode cc pc = .ok (.putfield idx, 3)) (hq : pc + 3 = q) (kk : ∀ g1, zJ p l e R s m args below meth c cc nL own z cells slots (wx z gm) fin ri Q q lv st g1 (F g1)) : zJ p l e R s m args below meth c cc nL own z cells slots (wx z gm) fin ri Q pc lv (.int v :: .ref (za z 75 i) :: st) g (bd (ui g 53 i 0 v) F) := j_put (ci := 5) (k := 75) (f := 4) rfl hin_X5 tyX5 tyX5_ok nmX5 (by decide) rfl (ty := .int) (by decide +kernel) hL hi (cel_75 z g gm i) (Nat.le_of_ble_eq_true rfl) rfl rfl (up_X5_start z g gm i v) d hq kk
theorem pN_X5_start {v : Int32} (hL : Cond.fieldLinkNest own idx "CopierJobs$Text" "start" "I" host ∈ lw_nt) (hi : i < dm 75) (d : decode cc pc = .ok (.putfield idx, 3)) (hq : pc + 3 = q) (kk : ∀ g1, zJ p l e R s m args below meth c cc nL own z cells slots (wx z gm) fin ri Q q lv st g1 (F g1)) : zJ p l e R s m args below meth c cc nL own z cells slots (wx z gm) fin ri Q pc lv (.int v :: .ref (za z 75 i) :: st) g (bd (ui g 53 i 0 v) F) := j_putN (ci := 5) (k := 75) (f := 4) rfl hin_X5 tyX5 tyX5_ok nmX5 (by decide) rfl (ty := .int) (by decide +kernel) hL hi (cel_75 z g gm i) (Nat.le_of_ble_eq_true rfl) rfl rfl (up_X5_start z g gm i v) d hq kk
theorem g_X5_value (hL : Cond.fieldLink own idx "CopierJobs$Text" "value" "I" ∈ lw_gt) (hi : i < dm 75) (d : decode cc pc = .ok (.getfield idx, 3)) (hq : pc + 3 = q) (kk : zJ p l e R s m args below meth c cc nL own z cells slots (wx z gm) fin ri Q q lv (.int (gi g 54 i 0) :: st) g M) : zJ p l e R s m args below meth c cc nL own z cells slots (wx z gm) fin ri Q pc lv (.ref (za z 75 i) :: st) g M := j_get (ci := 5) (k := 75) (f := 5) rfl hin_X5 (by decide) hL hi (cel_75 z g gm i) rfl d hq kk
theorem gN_X5_value (hL : Cond.fieldLinkNest own idx "CopierJobs$Text" "value" "I" host ∈ lw_nt) (hi : i < dm 75) (d : decode cc pc = .ok (.getfield idx, 3)) (hq : pc + 3 = q) (kk : zJ p l e R s m args below meth c cc nL own z cells slots (wx z gm) fin ri Q q lv (.int (gi g 54 i 0) :: st) g M) : zJ p l e R s m args below meth c cc nL own z cells slots (wx z gm) fin ri Q pc lv (.ref (za z 75 i) :: st) g M := j_getN (ci := 5) (k := 75) (f := 5) rfl hin_X5 (by decide) hL hi (cel_75 z g gm i) rfl d hq kk
theorem up_X5_value (z : zE) (x m : zG) (i : Nat) (v : Int32) : ∀ a b, b < dm a → upc (wx z m x) 75 i (.inr (5, [.ref (za z 55 i), .int (gi x 50 i 0), .int (gi x 51 i 0), .int (gi x 52 i 0), .int (gi x 53 i 0), .int v])) a b = wx z m (ui x 54 i 0 v) a b := by
  intro a b hb
  by_cases ha : a = 75
  · subst ha; by_cases h : b = i
    · subst h; simp [upc, cel_75, gi_ui, gl_ui, gn_ui, gi_ul, gl_ul, gn_ul, gi_un, gl_un, gn_un]
    · simp [upc, cel_75, gi_ui, gl_ui, gn_ui, gi_ul, gl_ul, gn_ul, gi_un, gl_un, gn_un, h]
  · rw [upc, if_neg (fun h => ha h.1)]
    rcases dm_cases hb with rfl | rfl | rfl | rfl | rfl | rfl | rfl | rfl | rfl | rfl | rfl | rfl | rfl | rfl | rfl | rfl | rfl | rfl | rfl | rfl | rfl | rfl | rfl | rfl | rfl | rfl | rfl | rfl | rfl | rfl | rfl | rfl | rfl | rfl | rfl | rfl | rfl | rfl <;> first | rfl | exact absurd rfl ha
theorem p_X5_value {v : Int32} (hL : Cond.fieldLink own idx "CopierJobs$Text" "value" "I" ∈ lw_gt) (hi : i < dm 75) (d : decode cc pc = .ok (.putfield idx, 3)) (hq : pc + 3 = q) (kk : ∀ g1, zJ p l e R s m args below meth c cc nL own z cells slots (wx z gm) fin ri Q q lv st g1 (F g1)) : zJ p l e R s m args below meth c cc nL own z cells slots (wx z gm) fin ri Q pc lv (.int v :: .ref (za z 75 i) :: st) g (bd (ui g 54 i 0 v) F) := j_put (ci := 5) (k := 75) (f := 5) rfl hin_X5 tyX5 tyX5_ok nmX5 (by decide) rfl (ty := .int) (by decide +kernel) hL hi (cel_75 z g gm i) (Nat.le_of_ble_eq_true rfl) rfl rfl (up_X5_value z g gm i v) d hq kk
theorem pN_X5_value {v : Int32} (hL : Cond.fieldLinkNest own idx "CopierJobs$Text" "value" "I" host ∈ lw_nt) (hi : i < dm 75) (d : decode cc pc = .ok (.putfield idx, 3)) (hq : pc + 3 = q) (kk : ∀ g1, zJ p l e R s m args below meth c cc nL own z cells slots (wx z gm) fin ri Q q lv st g1 (F g1)) : zJ p l e R s m args below meth c cc nL own z cells slots (wx z gm) fin ri Q pc lv (.int v :: .ref (za z 75 i) :: st) g (bd (ui g 54 i 0 v) F) := j_putN (ci := 5) (k := 75) (f := 5) rfl hin_X5 tyX5 tyX5_ok nmX5 (by decide) rfl (ty := .int) (by decide +kernel) hL hi (cel_75 z g gm i) (Nat.le_of_ble_eq_true rfl) rfl rfl (up_X5_value z g gm i v) d hq kk
end FLDX5
section FLDX6
variable {p : Program} {l : Launch} {e : Env} {R : Room} {s : State} {m : MethodId} {args : Array Value} {below : List Frame} {meth : Method} {c : Code} {cc : ByteArray} {nL : Nat} {own host : String} {z : zE} {cells slots : Nat} {ρ : Type} {gm gx : zG} {fin : ρ → zG → List Value → Prop} {ri : Instr} {Q : ρ → State → Prop} {pc q i idx : Nat} {lv : List (Nat × Value)} {st : List Value} {g : zG} {M : Option ρ} {F : zG → Option ρ}
theorem g_X6_text (hL : Cond.fieldLink own idx "CopierJobs" "text" "LCopierJobs$Text;" ∈ lw_gt) (hi : i < dm 76) (d : decode cc pc = .ok (.getfield idx, 3)) (hq : pc + 3 = q) (kk : zJ p l e R s m args below meth c cc nL own z cells slots (wx z gm) fin ri Q q lv (.ref (za z 75 0) :: st) g M) : zJ p l e R s m args below meth c cc nL own z cells slots (wx z gm) fin ri Q pc lv (.ref (za z 76 i) :: st) g M := j_get (ci := 6) (k := 76) (f := 0) rfl hin_X6 (by decide) hL hi (cel_76 z g gm i) rfl d hq kk
theorem gN_X6_text (hL : Cond.fieldLinkNest own idx "CopierJobs" "text" "LCopierJobs$Text;" host ∈ lw_nt) (hi : i < dm 76) (d : decode cc pc = .ok (.getfield idx, 3)) (hq : pc + 3 = q) (kk : zJ p l e R s m args below meth c cc nL own z cells slots (wx z gm) fin ri Q q lv (.ref (za z 75 0) :: st) g M) : zJ p l e R s m args below meth c cc nL own z cells slots (wx z gm) fin ri Q pc lv (.ref (za z 76 i) :: st) g M := j_getN (ci := 6) (k := 76) (f := 0) rfl hin_X6 (by decide) hL hi (cel_76 z g gm i) rfl d hq kk
theorem g_X6_course (hL : Cond.fieldLink own idx "CopierJobs" "course" "LCopierJobs$Course;" ∈ lw_gt) (hi : i < dm 76) (d : decode cc pc = .ok (.getfield idx, 3)) (hq : pc + 3 = q) (kk : zJ p l e R s m args below meth c cc nL own z cells slots (wx z gm) fin ri Q q lv (.ref (za z 70 0) :: st) g M) : zJ p l e R s m args below meth c cc nL own z cells slots (wx z gm) fin ri Q pc lv (.ref (za z 76 i) :: st) g M := j_get (ci := 6) (k := 76) (f := 1) rfl hin_X6 (by decide) hL hi (cel_76 z g gm i) rfl d hq kk
theorem gN_X6_course (hL : Cond.fieldLinkNest own idx "CopierJobs" "course" "LCopierJobs$Course;" host ∈ lw_nt) (hi : i < dm 76) (d : decode cc pc = .ok (.getfield idx, 3)) (hq : pc + 3 = q) (kk : zJ p l e R s m args below meth c cc nL own z cells slots (wx z gm) fin ri Q q lv (.ref (za z 70 0) :: st) g M) : zJ p l e R s m args below meth c cc nL own z cells slots (wx z gm) fin ri Q pc lv (.ref (za z 76 i) :: st) g M := j_getN (ci := 6) (k := 76) (f := 1) rfl hin_X6 (by decide) hL hi (cel_76 z g gm i) rfl d hq kk
theorem g_X6_trial (hL : Cond.fieldLink own idx "CopierJobs" "trial" "LCopierJobs$Now;" ∈ lw_gt) (hi : i < dm 76) (d : decode cc pc = .ok (.getfield idx, 3)) (hq : pc + 3 = q) (kk : zJ p l e R s m args below meth c cc nL own z cells slots (wx z gm) fin ri Q q lv (.ref (za z 72 33) :: st) g M) : zJ p l e R s m args below meth c cc nL own z cells slots (wx z gm) fin ri Q pc lv (.ref (za z 76 i) :: st) g M := j_get (ci := 6) (k := 76) (f := 2) rfl hin_X6 (by decide) hL hi (cel_76 z g gm i) rfl d hq kk
theorem gN_X6_trial (hL : Cond.fieldLinkNest own idx "CopierJobs" "trial" "LCopierJobs$Now;" host ∈ lw_nt) (hi : i < dm 76) (d : decode cc pc = .ok (.getfield idx, 3)) (hq : pc + 3 = q) (kk : zJ p l e R s m args below meth c cc nL own z cells slots (wx z gm) fin ri Q q lv (.ref (za z 72 33) :: st) g M) : zJ p l e R s m args below meth c cc nL own z cells slots (wx z gm) fin ri Q pc lv (.ref (za z 76 i) :: st) g M := j_getN (ci := 6) (k := 76) (f := 2) rfl hin_X6 (by decide) hL hi (cel_76 z g gm i) rfl d hq kk
theorem g_X6_seen (hL : Cond.fieldLink own idx "CopierJobs" "seen" "LCopierJobs$Seen;" ∈ lw_gt) (hi : i < dm 76) (d : decode cc pc = .ok (.getfield idx, 3)) (hq : pc + 3 = q) (kk : zJ p l e R s m args below meth c cc nL own z cells slots (wx z gm) fin ri Q q lv (.ref (za z 74 0) :: st) g M) : zJ p l e R s m args below meth c cc nL own z cells slots (wx z gm) fin ri Q pc lv (.ref (za z 76 i) :: st) g M := j_get (ci := 6) (k := 76) (f := 3) rfl hin_X6 (by decide) hL hi (cel_76 z g gm i) rfl d hq kk
theorem gN_X6_seen (hL : Cond.fieldLinkNest own idx "CopierJobs" "seen" "LCopierJobs$Seen;" host ∈ lw_nt) (hi : i < dm 76) (d : decode cc pc = .ok (.getfield idx, 3)) (hq : pc + 3 = q) (kk : zJ p l e R s m args below meth c cc nL own z cells slots (wx z gm) fin ri Q q lv (.ref (za z 74 0) :: st) g M) : zJ p l e R s m args below meth c cc nL own z cells slots (wx z gm) fin ri Q pc lv (.ref (za z 76 i) :: st) g M := j_getN (ci := 6) (k := 76) (f := 3) rfl hin_X6 (by decide) hL hi (cel_76 z g gm i) rfl d hq kk
theorem g_X6_images (hL : Cond.fieldLink own idx "CopierJobs" "images" "[LCopierJobs$Course;" ∈ lw_gt) (hi : i < dm 76) (d : decode cc pc = .ok (.getfield idx, 3)) (hq : pc + 3 = q) (kk : zJ p l e R s m args below meth c cc nL own z cells slots (wx z gm) fin ri Q q lv (.ref (za z 82 0) :: st) g M) : zJ p l e R s m args below meth c cc nL own z cells slots (wx z gm) fin ri Q pc lv (.ref (za z 76 i) :: st) g M := j_get (ci := 6) (k := 76) (f := 4) rfl hin_X6 (by decide) hL hi (cel_76 z g gm i) rfl d hq kk
theorem gN_X6_images (hL : Cond.fieldLinkNest own idx "CopierJobs" "images" "[LCopierJobs$Course;" host ∈ lw_nt) (hi : i < dm 76) (d : decode cc pc = .ok (.getfield idx, 3)) (hq : pc + 3 = q) (kk : zJ p l e R s m args below meth c cc nL own z cells slots (wx z gm) fin ri Q q lv (.ref (za z 82 0) :: st) g M) : zJ p l e R s m args below meth c cc nL own z cells slots (wx z gm) fin ri Q pc lv (.ref (za z 76 i) :: st) g M := j_getN (ci := 6) (k := 76) (f := 4) rfl hin_X6 (by decide) hL hi (cel_76 z g gm i) rfl d hq kk
theorem g_X6_kept (hL : Cond.fieldLink own idx "CopierJobs" "kept" "[Z" ∈ lw_gt) (hi : i < dm 76) (d : decode cc pc = .ok (.getfield idx, 3)) (hq : pc + 3 = q) (kk : zJ p l e R s m args below meth c cc nL own z cells slots (wx z gm) fin ri Q q lv (.ref (za z 60 0) :: st) g M) : zJ p l e R s m args below meth c cc nL own z cells slots (wx z gm) fin ri Q pc lv (.ref (za z 76 i) :: st) g M := j_get (ci := 6) (k := 76) (f := 5) rfl hin_X6 (by decide) hL hi (cel_76 z g gm i) rfl d hq kk
theorem gN_X6_kept (hL : Cond.fieldLinkNest own idx "CopierJobs" "kept" "[Z" host ∈ lw_nt) (hi : i < dm 76) (d : decode cc pc = .ok (.getfield idx, 3)) (hq : pc + 3 = q) (kk : zJ p l e R s m args below meth c cc nL own z cells slots (wx z gm) fin ri Q q lv (.ref (za z 60 0) :: st) g M) : zJ p l e R s m args below meth c cc nL own z cells slots (wx z gm) fin ri Q pc lv (.ref (za z 76 i) :: st) g M := j_getN (ci := 6) (k := 76) (f := 5) rfl hin_X6 (by decide) hL hi (cel_76 z g gm i) rfl d hq kk
theorem g_X6_plan (hL : Cond.fieldLink own idx "CopierJobs" "plan" "LCopierJobs$Plan;" ∈ lw_gt) (hi : i < dm 76) (d : decode cc pc = .ok (.getfield idx, 3)) (hq : pc + 3 = q) (kk : zJ p l e R s m args below meth c cc nL own z cells slots (wx z gm) fin ri Q q lv (.ref (za z 73 (gn g 0)) :: st) g M) : zJ p l e R s m args below meth c cc nL own z cells slots (wx z gm) fin ri Q pc lv (.ref (za z 76 i) :: st) g M := j_get (ci := 6) (k := 76) (f := 6) rfl hin_X6 (by decide) hL hi (cel_76 z g gm i) rfl d hq kk
theorem gN_X6_plan (hL : Cond.fieldLinkNest own idx "CopierJobs" "plan" "LCopierJobs$Plan;" host ∈ lw_nt) (hi : i < dm 76) (d : decode cc pc = .ok (.getfield idx, 3)) (hq : pc + 3 = q) (kk : zJ p l e R s m args below meth c cc nL own z cells slots (wx z gm) fin ri Q q lv (.ref (za z 73 (gn g 0)) :: st) g M) : zJ p l e R s m args below meth c cc nL own z cells slots (wx z gm) fin ri Q pc lv (.ref (za z 76 i) :: st) g M := j_getN (ci := 6) (k := 76) (f := 6) rfl hin_X6 (by decide) hL hi (cel_76 z g gm i) rfl d hq kk
theorem up_X6_plan (z : zE) (x m : zG) (i : Nat) (hi : i < dm 76) (v : Nat) : ∀ a b, b < dm a → upc (wx z m x) 76 i (.inr (6, [.ref (za z 75 0), .ref (za z 70 0), .ref (za z 72 33), .ref (za z 74 0), .ref (za z 82 0), .ref (za z 60 0), .ref (za z 73 v), .ref (za z 73 (gn x 1)), .long (gl x 0)])) a b = wx z m (un x 0 v) a b := by
  intro a b hb
  by_cases ha : a = 76
  · subst ha
    have hb0 : b = 0 := by have h9 : b < 1 := hb; omega
    have hi0 : i = 0 := by have h9 : i < 1 := hi; omega
    subst hb0; subst hi0; simp [upc, cel_76, gi_ui, gl_ui, gn_ui, gi_ul, gl_ul, gn_ul, gi_un, gl_un, gn_un]
  · rw [upc, if_neg (fun h => ha h.1)]
    rcases dm_cases hb with rfl | rfl | rfl | rfl | rfl | rfl | rfl | rfl | rfl | rfl | rfl | rfl | rfl | rfl | rfl | rfl | rfl | rfl | rfl | rfl | rfl | rfl | rfl | rfl | rfl | rfl | rfl | rfl | rfl | rfl | rfl | rfl | rfl | rfl | rfl | rfl | rfl | rfl <;> first | rfl | exact absurd rfl ha
theorem p_X6_plan {v : Nat} (hL : Cond.fieldLink own idx "CopierJobs" "plan" "LCopierJobs$Plan;" ∈ lw_gt) (hi : i < dm 76) (d : decode cc pc = .ok (.putfield idx, 3)) (hq : pc + 3 = q) (kk : ∀ g1, zJ p l e R s m args below meth c cc nL own z cells slots (wx z gm) fin ri Q q lv st g1 (F g1)) : zJ p l e R s m args below meth c cc nL own z cells slots (wx z gm) fin ri Q pc lv (.ref (za z 73 v) :: .ref (za z 76 i) :: st) g (bd (un g 0 v) F) := j_put (ci := 6) (k := 76) (f := 6) rfl hin_X6 tyX6 tyX6_ok nmX6 (by decide) rfl (ty := .object "CopierJobs$Plan") (by decide +kernel) hL hi (cel_76 z g gm i) (Nat.le_of_ble_eq_true rfl) rfl rfl (up_X6_plan z g gm i hi v) d hq kk
theorem pN_X6_plan {v : Nat} (hL : Cond.fieldLinkNest own idx "CopierJobs" "plan" "LCopierJobs$Plan;" host ∈ lw_nt) (hi : i < dm 76) (d : decode cc pc = .ok (.putfield idx, 3)) (hq : pc + 3 = q) (kk : ∀ g1, zJ p l e R s m args below meth c cc nL own z cells slots (wx z gm) fin ri Q q lv st g1 (F g1)) : zJ p l e R s m args below meth c cc nL own z cells slots (wx z gm) fin ri Q pc lv (.ref (za z 73 v) :: .ref (za z 76 i) :: st) g (bd (un g 0 v) F) := j_putN (ci := 6) (k := 76) (f := 6) rfl hin_X6 tyX6 tyX6_ok nmX6 (by decide) rfl (ty := .object "CopierJobs$Plan") (by decide +kernel) hL hi (cel_76 z g gm i) (Nat.le_of_ble_eq_true rfl) rfl rfl (up_X6_plan z g gm i hi v) d hq kk
theorem g_X6_nextPlan (hL : Cond.fieldLink own idx "CopierJobs" "nextPlan" "LCopierJobs$Plan;" ∈ lw_gt) (hi : i < dm 76) (d : decode cc pc = .ok (.getfield idx, 3)) (hq : pc + 3 = q) (kk : zJ p l e R s m args below meth c cc nL own z cells slots (wx z gm) fin ri Q q lv (.ref (za z 73 (gn g 1)) :: st) g M) : zJ p l e R s m args below meth c cc nL own z cells slots (wx z gm) fin ri Q pc lv (.ref (za z 76 i) :: st) g M := j_get (ci := 6) (k := 76) (f := 7) rfl hin_X6 (by decide) hL hi (cel_76 z g gm i) rfl d hq kk
theorem gN_X6_nextPlan (hL : Cond.fieldLinkNest own idx "CopierJobs" "nextPlan" "LCopierJobs$Plan;" host ∈ lw_nt) (hi : i < dm 76) (d : decode cc pc = .ok (.getfield idx, 3)) (hq : pc + 3 = q) (kk : zJ p l e R s m args below meth c cc nL own z cells slots (wx z gm) fin ri Q q lv (.ref (za z 73 (gn g 1)) :: st) g M) : zJ p l e R s m args below meth c cc nL own z cells slots (wx z gm) fin ri Q pc lv (.ref (za z 76 i) :: st) g M := j_getN (ci := 6) (k := 76) (f := 7) rfl hin_X6 (by decide) hL hi (cel_76 z g gm i) rfl d hq kk
theorem up_X6_nextPlan (z : zE) (x m : zG) (i : Nat) (hi : i < dm 76) (v : Nat) : ∀ a b, b < dm a → upc (wx z m x) 76 i (.inr (6, [.ref (za z 75 0), .ref (za z 70 0), .ref (za z 72 33), .ref (za z 74 0), .ref (za z 82 0), .ref (za z 60 0), .ref (za z 73 (gn x 0)), .ref (za z 73 v), .long (gl x 0)])) a b = wx z m (un x 1 v) a b := by
  intro a b hb
  by_cases ha : a = 76
  · subst ha
    have hb0 : b = 0 := by have h9 : b < 1 := hb; omega
    have hi0 : i = 0 := by have h9 : i < 1 := hi; omega
    subst hb0; subst hi0; simp [upc, cel_76, gi_ui, gl_ui, gn_ui, gi_ul, gl_ul, gn_ul, gi_un, gl_un, gn_un]
  · rw [upc, if_neg (fun h => ha h.1)]
    rcases dm_cases hb with rfl | rfl | rfl | rfl | rfl | rfl | rfl | rfl | rfl | rfl | rfl | rfl | rfl | rfl | rfl | rfl | rfl | rfl | rfl | rfl | rfl | rfl | rfl | rfl | rfl | rfl | rfl | rfl | rfl | rfl | rfl | rfl | rfl | rfl | rfl | rfl | rfl | rfl <;> first | rfl | exact absurd rfl ha
theorem p_X6_nextPlan {v : Nat} (hL : Cond.fieldLink own idx "CopierJobs" "nextPlan" "LCopierJobs$Plan;" ∈ lw_gt) (hi : i < dm 76) (d : decode cc pc = .ok (.putfield idx, 3)) (hq : pc + 3 = q) (kk : ∀ g1, zJ p l e R s m args below meth c cc nL own z cells slots (wx z gm) fin ri Q q lv st g1 (F g1)) : zJ p l e R s m args below meth c cc nL own z cells slots (wx z gm) fin ri Q pc lv (.ref (za z 73 v) :: .ref (za z 76 i) :: st) g (bd (un g 1 v) F) := j_put (ci := 6) (k := 76) (f := 7) rfl hin_X6 tyX6 tyX6_ok nmX6 (by decide) rfl (ty := .object "CopierJobs$Plan") (by decide +kernel) hL hi (cel_76 z g gm i) (Nat.le_of_ble_eq_true rfl) rfl rfl (up_X6_nextPlan z g gm i hi v) d hq kk
theorem pN_X6_nextPlan {v : Nat} (hL : Cond.fieldLinkNest own idx "CopierJobs" "nextPlan" "LCopierJobs$Plan;" host ∈ lw_nt) (hi : i < dm 76) (d : decode cc pc = .ok (.putfield idx, 3)) (hq : pc + 3 = q) (kk : ∀ g1, zJ p l e R s m args below meth c cc nL own z cells slots (wx z gm) fin ri Q q lv st g1 (F g1)) : zJ p l e R s m args below meth c cc nL own z cells slots (wx z gm) fin ri Q pc lv (.ref (za z 73 v) :: .ref (za z 76 i) :: st) g (bd (un g 1 v) F) := j_putN (ci := 6) (k := 76) (f := 7) rfl hin_X6 tyX6 tyX6_ok nmX6 (by decide) rfl (ty := .object "CopierJobs$Plan") (by decide +kernel) hL hi (cel_76 z g gm i) (Nat.le_of_ble_eq_true rfl) rfl rfl (up_X6_nextPlan z g gm i hi v) d hq kk
theorem g_X6_traced (hL : Cond.fieldLink own idx "CopierJobs" "traced" "J" ∈ lw_gt) (hi : i < dm 76) (d : decode cc pc = .ok (.getfield idx, 3)) (hq : pc + 3 = q) (kk : zJ p l e R s m args below meth c cc nL own z cells slots (wx z gm) fin ri Q q lv (.long (gl g 0) :: st) g M) : zJ p l e R s m args below meth c cc nL own z cells slots (wx z gm) fin ri Q pc lv (.ref (za z 76 i) :: st) g M := j_get (ci := 6) (k := 76) (f := 8) rfl hin_X6 (by decide) hL hi (cel_76 z g gm i) rfl d hq kk
theorem gN_X6_traced (hL : Cond.fieldLinkNest own idx "CopierJobs" "traced" "J" host ∈ lw_nt) (hi : i < dm 76) (d : decode cc pc = .ok (.getfield idx, 3)) (hq : pc + 3 = q) (kk : zJ p l e R s m args below meth c cc nL own z cells slots (wx z gm) fin ri Q q lv (.long (gl g 0) :: st) g M) : zJ p l e R s m args below meth c cc nL own z cells slots (wx z gm) fin ri Q pc lv (.ref (za z 76 i) :: st) g M := j_getN (ci := 6) (k := 76) (f := 8) rfl hin_X6 (by decide) hL hi (cel_76 z g gm i) rfl d hq kk
theorem up_X6_traced (z : zE) (x m : zG) (i : Nat) (hi : i < dm 76) (v : Int64) : ∀ a b, b < dm a → upc (wx z m x) 76 i (.inr (6, [.ref (za z 75 0), .ref (za z 70 0), .ref (za z 72 33), .ref (za z 74 0), .ref (za z 82 0), .ref (za z 60 0), .ref (za z 73 (gn x 0)), .ref (za z 73 (gn x 1)), .long v])) a b = wx z m (ul x 0 v) a b := by
  intro a b hb
  by_cases ha : a = 76
  · subst ha
    have hb0 : b = 0 := by have h9 : b < 1 := hb; omega
    have hi0 : i = 0 := by have h9 : i < 1 := hi; omega
    subst hb0; subst hi0; simp [upc, cel_76, gi_ui, gl_ui, gn_ui, gi_ul, gl_ul, gn_ul, gi_un, gl_un, gn_un]
  · rw [upc, if_neg (fun h => ha h.1)]
    rcases dm_cases hb with rfl | rfl | rfl | rfl | rfl | rfl | rfl | rfl | rfl | rfl | rfl | rfl | rfl | rfl | rfl | rfl | rfl | rfl | rfl | rfl | rfl | rfl | rfl | rfl | rfl | rfl | rfl | rfl | rfl | rfl | rfl | rfl | rfl | rfl | rfl | rfl | rfl | rfl <;> first | rfl | exact absurd rfl ha
theorem p_X6_traced {v : Int64} (hL : Cond.fieldLink own idx "CopierJobs" "traced" "J" ∈ lw_gt) (hi : i < dm 76) (d : decode cc pc = .ok (.putfield idx, 3)) (hq : pc + 3 = q) (kk : ∀ g1, zJ p l e R s m args below meth c cc nL own z cells slots (wx z gm) fin ri Q q lv st g1 (F g1)) : zJ p l e R s m args below meth c cc nL own z cells slots (wx z gm) fin ri Q pc lv (.long v :: .ref (za z 76 i) :: st) g (bd (ul g 0 v) F) := j_put (ci := 6) (k := 76) (f := 8) rfl hin_X6 tyX6 tyX6_ok nmX6 (by decide) rfl (ty := .long) (by decide +kernel) hL hi (cel_76 z g gm i) (Nat.le_of_ble_eq_true rfl) rfl rfl (up_X6_traced z g gm i hi v) d hq kk
theorem pN_X6_traced {v : Int64} (hL : Cond.fieldLinkNest own idx "CopierJobs" "traced" "J" host ∈ lw_nt) (hi : i < dm 76) (d : decode cc pc = .ok (.putfield idx, 3)) (hq : pc + 3 = q) (kk : ∀ g1, zJ p l e R s m args below meth c cc nL own z cells slots (wx z gm) fin ri Q q lv st g1 (F g1)) : zJ p l e R s m args below meth c cc nL own z cells slots (wx z gm) fin ri Q pc lv (.long v :: .ref (za z 76 i) :: st) g (bd (ul g 0 v) F) := j_putN (ci := 6) (k := 76) (f := 8) rfl hin_X6 tyX6 tyX6_ok nmX6 (by decide) rfl (ty := .long) (by decide +kernel) hL hi (cel_76 z g gm i) (Nat.le_of_ble_eq_true rfl) rfl rfl (up_X6_traced z g gm i hi v) d hq kk
end FLDX6
section FLDX7
variable {p : Program} {l : Launch} {e : Env} {R : Room} {s : State} {m : MethodId} {args : Array Value} {below : List Frame} {meth : Method} {c : Code} {cc : ByteArray} {nL : Nat} {own host : String} {z : zE} {cells slots : Nat} {ρ : Type} {gm gx : zG} {fin : ρ → zG → List Value → Prop} {ri : Instr} {Q : ρ → State → Prop} {pc q i idx : Nat} {lv : List (Nat × Value)} {st : List Value} {g : zG} {M : Option ρ} {F : zG → Option ρ}
theorem g_X7_pages (hL : Cond.fieldLink own idx "CopierJobsModel" "pages" "[I" ∈ lw_gt) (hi : i < dm 77) (d : decode cc pc = .ok (.getfield idx, 3)) (hq : pc + 3 = q) (kk : zJ p l e R s m args below meth c cc nL own z cells slots (wm z gx) fin ri Q q lv (.ref (za z 100 0) :: st) g M) : zJ p l e R s m args below meth c cc nL own z cells slots (wm z gx) fin ri Q pc lv (.ref (za z 77 i) :: st) g M := j_get (ci := 7) (k := 77) (f := 0) rfl hin_X7 (by decide) hL hi (cel_77 z gx g i) rfl d hq kk
theorem g_X7_copies (hL : Cond.fieldLink own idx "CopierJobsModel" "copies" "[I" ∈ lw_gt) (hi : i < dm 77) (d : decode cc pc = .ok (.getfield idx, 3)) (hq : pc + 3 = q) (kk : zJ p l e R s m args below meth c cc nL own z cells slots (wm z gx) fin ri Q q lv (.ref (za z 101 0) :: st) g M) : zJ p l e R s m args below meth c cc nL own z cells slots (wm z gx) fin ri Q pc lv (.ref (za z 77 i) :: st) g M := j_get (ci := 7) (k := 77) (f := 1) rfl hin_X7 (by decide) hL hi (cel_77 z gx g i) rfl d hq kk
theorem g_X7_both (hL : Cond.fieldLink own idx "CopierJobsModel" "both" "[I" ∈ lw_gt) (hi : i < dm 77) (d : decode cc pc = .ok (.getfield idx, 3)) (hq : pc + 3 = q) (kk : zJ p l e R s m args below meth c cc nL own z cells slots (wm z gx) fin ri Q q lv (.ref (za z 102 0) :: st) g M) : zJ p l e R s m args below meth c cc nL own z cells slots (wm z gx) fin ri Q pc lv (.ref (za z 77 i) :: st) g M := j_get (ci := 7) (k := 77) (f := 2) rfl hin_X7 (by decide) hL hi (cel_77 z gx g i) rfl d hq kk
theorem g_X7_sorted (hL : Cond.fieldLink own idx "CopierJobsModel" "sorted" "[I" ∈ lw_gt) (hi : i < dm 77) (d : decode cc pc = .ok (.getfield idx, 3)) (hq : pc + 3 = q) (kk : zJ p l e R s m args below meth c cc nL own z cells slots (wm z gx) fin ri Q q lv (.ref (za z 103 0) :: st) g M) : zJ p l e R s m args below meth c cc nL own z cells slots (wm z gx) fin ri Q pc lv (.ref (za z 77 i) :: st) g M := j_get (ci := 7) (k := 77) (f := 3) rfl hin_X7 (by decide) hL hi (cel_77 z gx g i) rfl d hq kk
theorem g_X7_trays (hL : Cond.fieldLink own idx "CopierJobsModel" "trays" "[I" ∈ lw_gt) (hi : i < dm 77) (d : decode cc pc = .ok (.getfield idx, 3)) (hq : pc + 3 = q) (kk : zJ p l e R s m args below meth c cc nL own z cells slots (wm z gx) fin ri Q q lv (.ref (za z 104 0) :: st) g M) : zJ p l e R s m args below meth c cc nL own z cells slots (wm z gx) fin ri Q pc lv (.ref (za z 77 i) :: st) g M := j_get (ci := 7) (k := 77) (f := 4) rfl hin_X7 (by decide) hL hi (cel_77 z gx g i) rfl d hq kk
theorem g_X7_jobs (hL : Cond.fieldLink own idx "CopierJobsModel" "jobs" "I" ∈ lw_gt) (hi : i < dm 77) (d : decode cc pc = .ok (.getfield idx, 3)) (hq : pc + 3 = q) (kk : zJ p l e R s m args below meth c cc nL own z cells slots (wm z gx) fin ri Q q lv (.int (gi g 120 i 0) :: st) g M) : zJ p l e R s m args below meth c cc nL own z cells slots (wm z gx) fin ri Q pc lv (.ref (za z 77 i) :: st) g M := j_get (ci := 7) (k := 77) (f := 5) rfl hin_X7 (by decide) hL hi (cel_77 z gx g i) rfl d hq kk
theorem up_X7_jobs (z : zE) (x m : zG) (i : Nat) (v : Int32) : ∀ a b, b < dm a → upc (wm z x m) 77 i (.inr (7, [.ref (za z 100 0), .ref (za z 101 0), .ref (za z 102 0), .ref (za z 103 0), .ref (za z 104 0), .int v, .int (gi m 121 i 0), .ref (za z 105 0), .ref (za z 106 0), .int (gi m 122 i 0), .ref (za z 107 0), .int (gi m 123 i 0), .long (gl m 0), .ref (za z 108 0), .int (gi m 124 i 0), .int (gi m 125 i 0), .int (gi m 126 i 0), .int (gi m 127 i 0), .int (gi m 128 i 0), .ref (za z 109 0), .int (gi m 129 i 0), .int (gi m 130 i 0), .ref (za z 110 0), .int (gi m 131 i 0), .int (gi m 132 i 0), .ref (za z 111 0), .ref (za z 112 0), .ref (za z 113 0)])) a b = wm z x (ui m 120 i 0 v) a b := by
  intro a b hb
  by_cases ha : a = 77
  · subst ha; by_cases h : b = i
    · subst h; simp [upc, cel_77, gi_ui, gl_ui, gn_ui, gi_ul, gl_ul, gn_ul, gi_un, gl_un, gn_un]
    · simp [upc, cel_77, gi_ui, gl_ui, gn_ui, gi_ul, gl_ul, gn_ul, gi_un, gl_un, gn_un, h]
  · rw [upc, if_neg (fun h => ha h.1)]
    rcases dm_cases hb with rfl | rfl | rfl | rfl | rfl | rfl | rfl | rfl | rfl | rfl | rfl | rfl | rfl | rfl | rfl | rfl | rfl | rfl | rfl | rfl | rfl | rfl | rfl | rfl | rfl | rfl | rfl | rfl | rfl | rfl | rfl | rfl | rfl | rfl | rfl | rfl | rfl | rfl <;> first | rfl | exact absurd rfl ha
theorem p_X7_jobs {v : Int32} (hL : Cond.fieldLink own idx "CopierJobsModel" "jobs" "I" ∈ lw_gt) (hi : i < dm 77) (d : decode cc pc = .ok (.putfield idx, 3)) (hq : pc + 3 = q) (kk : ∀ g1, zJ p l e R s m args below meth c cc nL own z cells slots (wm z gx) fin ri Q q lv st g1 (F g1)) : zJ p l e R s m args below meth c cc nL own z cells slots (wm z gx) fin ri Q pc lv (.int v :: .ref (za z 77 i) :: st) g (bd (ui g 120 i 0 v) F) := j_put (ci := 7) (k := 77) (f := 5) rfl hin_X7 tyX7 tyX7_ok nmX7 (by decide) rfl (ty := .int) (by decide +kernel) hL hi (cel_77 z gx g i) (Nat.le_of_ble_eq_true rfl) rfl rfl (up_X7_jobs z gx g i v) d hq kk
theorem g_X7_bins (hL : Cond.fieldLink own idx "CopierJobsModel" "bins" "I" ∈ lw_gt) (hi : i < dm 77) (d : decode cc pc = .ok (.getfield idx, 3)) (hq : pc + 3 = q) (kk : zJ p l e R s m args below meth c cc nL own z cells slots (wm z gx) fin ri Q q lv (.int (gi g 121 i 0) :: st) g M) : zJ p l e R s m args below meth c cc nL own z cells slots (wm z gx) fin ri Q pc lv (.ref (za z 77 i) :: st) g M := j_get (ci := 7) (k := 77) (f := 6) rfl hin_X7 (by decide) hL hi (cel_77 z gx g i) rfl d hq kk
theorem up_X7_bins (z : zE) (x m : zG) (i : Nat) (v : Int32) : ∀ a b, b < dm a → upc (wm z x m) 77 i (.inr (7, [.ref (za z 100 0), .ref (za z 101 0), .ref (za z 102 0), .ref (za z 103 0), .ref (za z 104 0), .int (gi m 120 i 0), .int v, .ref (za z 105 0), .ref (za z 106 0), .int (gi m 122 i 0), .ref (za z 107 0), .int (gi m 123 i 0), .long (gl m 0), .ref (za z 108 0), .int (gi m 124 i 0), .int (gi m 125 i 0), .int (gi m 126 i 0), .int (gi m 127 i 0), .int (gi m 128 i 0), .ref (za z 109 0), .int (gi m 129 i 0), .int (gi m 130 i 0), .ref (za z 110 0), .int (gi m 131 i 0), .int (gi m 132 i 0), .ref (za z 111 0), .ref (za z 112 0), .ref (za z 113 0)])) a b = wm z x (ui m 121 i 0 v) a b := by
  intro a b hb
  by_cases ha : a = 77
  · subst ha; by_cases h : b = i
    · subst h; simp [upc, cel_77, gi_ui, gl_ui, gn_ui, gi_ul, gl_ul, gn_ul, gi_un, gl_un, gn_un]
    · simp [upc, cel_77, gi_ui, gl_ui, gn_ui, gi_ul, gl_ul, gn_ul, gi_un, gl_un, gn_un, h]
  · rw [upc, if_neg (fun h => ha h.1)]
    rcases dm_cases hb with rfl | rfl | rfl | rfl | rfl | rfl | rfl | rfl | rfl | rfl | rfl | rfl | rfl | rfl | rfl | rfl | rfl | rfl | rfl | rfl | rfl | rfl | rfl | rfl | rfl | rfl | rfl | rfl | rfl | rfl | rfl | rfl | rfl | rfl | rfl | rfl | rfl | rfl <;> first | rfl | exact absurd rfl ha
theorem p_X7_bins {v : Int32} (hL : Cond.fieldLink own idx "CopierJobsModel" "bins" "I" ∈ lw_gt) (hi : i < dm 77) (d : decode cc pc = .ok (.putfield idx, 3)) (hq : pc + 3 = q) (kk : ∀ g1, zJ p l e R s m args below meth c cc nL own z cells slots (wm z gx) fin ri Q q lv st g1 (F g1)) : zJ p l e R s m args below meth c cc nL own z cells slots (wm z gx) fin ri Q pc lv (.int v :: .ref (za z 77 i) :: st) g (bd (ui g 121 i 0 v) F) := j_put (ci := 7) (k := 77) (f := 6) rfl hin_X7 tyX7 tyX7_ok nmX7 (by decide) rfl (ty := .int) (by decide +kernel) hL hi (cel_77 z gx g i) (Nat.le_of_ble_eq_true rfl) rfl rfl (up_X7_bins z gx g i v) d hq kk
theorem g_X7_st (hL : Cond.fieldLink own idx "CopierJobsModel" "st" "[I" ∈ lw_gt) (hi : i < dm 77) (d : decode cc pc = .ok (.getfield idx, 3)) (hq : pc + 3 = q) (kk : zJ p l e R s m args below meth c cc nL own z cells slots (wm z gx) fin ri Q q lv (.ref (za z 105 0) :: st) g M) : zJ p l e R s m args below meth c cc nL own z cells slots (wm z gx) fin ri Q pc lv (.ref (za z 77 i) :: st) g M := j_get (ci := 7) (k := 77) (f := 7) rfl hin_X7 (by decide) hL hi (cel_77 z gx g i) rfl d hq kk
theorem g_X7_past (hL : Cond.fieldLink own idx "CopierJobsModel" "past" "[I" ∈ lw_gt) (hi : i < dm 77) (d : decode cc pc = .ok (.getfield idx, 3)) (hq : pc + 3 = q) (kk : zJ p l e R s m args below meth c cc nL own z cells slots (wm z gx) fin ri Q q lv (.ref (za z 106 0) :: st) g M) : zJ p l e R s m args below meth c cc nL own z cells slots (wm z gx) fin ri Q pc lv (.ref (za z 77 i) :: st) g M := j_get (ci := 7) (k := 77) (f := 8) rfl hin_X7 (by decide) hL hi (cel_77 z gx g i) rfl d hq kk
theorem g_X7_undoMany (hL : Cond.fieldLink own idx "CopierJobsModel" "undoMany" "I" ∈ lw_gt) (hi : i < dm 77) (d : decode cc pc = .ok (.getfield idx, 3)) (hq : pc + 3 = q) (kk : zJ p l e R s m args below meth c cc nL own z cells slots (wm z gx) fin ri Q q lv (.int (gi g 122 i 0) :: st) g M) : zJ p l e R s m args below meth c cc nL own z cells slots (wm z gx) fin ri Q pc lv (.ref (za z 77 i) :: st) g M := j_get (ci := 7) (k := 77) (f := 9) rfl hin_X7 (by decide) hL hi (cel_77 z gx g i) rfl d hq kk
theorem up_X7_undoMany (z : zE) (x m : zG) (i : Nat) (v : Int32) : ∀ a b, b < dm a → upc (wm z x m) 77 i (.inr (7, [.ref (za z 100 0), .ref (za z 101 0), .ref (za z 102 0), .ref (za z 103 0), .ref (za z 104 0), .int (gi m 120 i 0), .int (gi m 121 i 0), .ref (za z 105 0), .ref (za z 106 0), .int v, .ref (za z 107 0), .int (gi m 123 i 0), .long (gl m 0), .ref (za z 108 0), .int (gi m 124 i 0), .int (gi m 125 i 0), .int (gi m 126 i 0), .int (gi m 127 i 0), .int (gi m 128 i 0), .ref (za z 109 0), .int (gi m 129 i 0), .int (gi m 130 i 0), .ref (za z 110 0), .int (gi m 131 i 0), .int (gi m 132 i 0), .ref (za z 111 0), .ref (za z 112 0), .ref (za z 113 0)])) a b = wm z x (ui m 122 i 0 v) a b := by
  intro a b hb
  by_cases ha : a = 77
  · subst ha; by_cases h : b = i
    · subst h; simp [upc, cel_77, gi_ui, gl_ui, gn_ui, gi_ul, gl_ul, gn_ul, gi_un, gl_un, gn_un]
    · simp [upc, cel_77, gi_ui, gl_ui, gn_ui, gi_ul, gl_ul, gn_ul, gi_un, gl_un, gn_un, h]
  · rw [upc, if_neg (fun h => ha h.1)]
    rcases dm_cases hb with rfl | rfl | rfl | rfl | rfl | rfl | rfl | rfl | rfl | rfl | rfl | rfl | rfl | rfl | rfl | rfl | rfl | rfl | rfl | rfl | rfl | rfl | rfl | rfl | rfl | rfl | rfl | rfl | rfl | rfl | rfl | rfl | rfl | rfl | rfl | rfl | rfl | rfl <;> first | rfl | exact absurd rfl ha
theorem p_X7_undoMany {v : Int32} (hL : Cond.fieldLink own idx "CopierJobsModel" "undoMany" "I" ∈ lw_gt) (hi : i < dm 77) (d : decode cc pc = .ok (.putfield idx, 3)) (hq : pc + 3 = q) (kk : ∀ g1, zJ p l e R s m args below meth c cc nL own z cells slots (wm z gx) fin ri Q q lv st g1 (F g1)) : zJ p l e R s m args below meth c cc nL own z cells slots (wm z gx) fin ri Q pc lv (.int v :: .ref (za z 77 i) :: st) g (bd (ui g 122 i 0 v) F) := j_put (ci := 7) (k := 77) (f := 9) rfl hin_X7 tyX7 tyX7_ok nmX7 (by decide) rfl (ty := .int) (by decide +kernel) hL hi (cel_77 z gx g i) (Nat.le_of_ble_eq_true rfl) rfl rfl (up_X7_undoMany z gx g i v) d hq kk
theorem g_X7_seen (hL : Cond.fieldLink own idx "CopierJobsModel" "seen" "[I" ∈ lw_gt) (hi : i < dm 77) (d : decode cc pc = .ok (.getfield idx, 3)) (hq : pc + 3 = q) (kk : zJ p l e R s m args below meth c cc nL own z cells slots (wm z gx) fin ri Q q lv (.ref (za z 107 0) :: st) g M) : zJ p l e R s m args below meth c cc nL own z cells slots (wm z gx) fin ri Q pc lv (.ref (za z 77 i) :: st) g M := j_get (ci := 7) (k := 77) (f := 10) rfl hin_X7 (by decide) hL hi (cel_77 z gx g i) rfl d hq kk
theorem g_X7_seenMany (hL : Cond.fieldLink own idx "CopierJobsModel" "seenMany" "I" ∈ lw_gt) (hi : i < dm 77) (d : decode cc pc = .ok (.getfield idx, 3)) (hq : pc + 3 = q) (kk : zJ p l e R s m args below meth c cc nL own z cells slots (wm z gx) fin ri Q q lv (.int (gi g 123 i 0) :: st) g M) : zJ p l e R s m args below meth c cc nL own z cells slots (wm z gx) fin ri Q pc lv (.ref (za z 77 i) :: st) g M := j_get (ci := 7) (k := 77) (f := 11) rfl hin_X7 (by decide) hL hi (cel_77 z gx g i) rfl d hq kk
theorem up_X7_seenMany (z : zE) (x m : zG) (i : Nat) (v : Int32) : ∀ a b, b < dm a → upc (wm z x m) 77 i (.inr (7, [.ref (za z 100 0), .ref (za z 101 0), .ref (za z 102 0), .ref (za z 103 0), .ref (za z 104 0), .int (gi m 120 i 0), .int (gi m 121 i 0), .ref (za z 105 0), .ref (za z 106 0), .int (gi m 122 i 0), .ref (za z 107 0), .int v, .long (gl m 0), .ref (za z 108 0), .int (gi m 124 i 0), .int (gi m 125 i 0), .int (gi m 126 i 0), .int (gi m 127 i 0), .int (gi m 128 i 0), .ref (za z 109 0), .int (gi m 129 i 0), .int (gi m 130 i 0), .ref (za z 110 0), .int (gi m 131 i 0), .int (gi m 132 i 0), .ref (za z 111 0), .ref (za z 112 0), .ref (za z 113 0)])) a b = wm z x (ui m 123 i 0 v) a b := by
  intro a b hb
  by_cases ha : a = 77
  · subst ha; by_cases h : b = i
    · subst h; simp [upc, cel_77, gi_ui, gl_ui, gn_ui, gi_ul, gl_ul, gn_ul, gi_un, gl_un, gn_un]
    · simp [upc, cel_77, gi_ui, gl_ui, gn_ui, gi_ul, gl_ul, gn_ul, gi_un, gl_un, gn_un, h]
  · rw [upc, if_neg (fun h => ha h.1)]
    rcases dm_cases hb with rfl | rfl | rfl | rfl | rfl | rfl | rfl | rfl | rfl | rfl | rfl | rfl | rfl | rfl | rfl | rfl | rfl | rfl | rfl | rfl | rfl | rfl | rfl | rfl | rfl | rfl | rfl | rfl | rfl | rfl | rfl | rfl | rfl | rfl | rfl | rfl | rfl | rfl <;> first | rfl | exact absurd rfl ha
theorem p_X7_seenMany {v : Int32} (hL : Cond.fieldLink own idx "CopierJobsModel" "seenMany" "I" ∈ lw_gt) (hi : i < dm 77) (d : decode cc pc = .ok (.putfield idx, 3)) (hq : pc + 3 = q) (kk : ∀ g1, zJ p l e R s m args below meth c cc nL own z cells slots (wm z gx) fin ri Q q lv st g1 (F g1)) : zJ p l e R s m args below meth c cc nL own z cells slots (wm z gx) fin ri Q pc lv (.int v :: .ref (za z 77 i) :: st) g (bd (ui g 123 i 0 v) F) := j_put (ci := 7) (k := 77) (f := 11) rfl hin_X7 tyX7 tyX7_ok nmX7 (by decide) rfl (ty := .int) (by decide +kernel) hL hi (cel_77 z gx g i) (Nat.le_of_ble_eq_true rfl) rfl rfl (up_X7_seenMany z gx g i v) d hq kk
theorem g_X7_trace (hL : Cond.fieldLink own idx "CopierJobsModel" "trace" "J" ∈ lw_gt) (hi : i < dm 77) (d : decode cc pc = .ok (.getfield idx, 3)) (hq : pc + 3 = q) (kk : zJ p l e R s m args below meth c cc nL own z cells slots (wm z gx) fin ri Q q lv (.long (gl g 0) :: st) g M) : zJ p l e R s m args below meth c cc nL own z cells slots (wm z gx) fin ri Q pc lv (.ref (za z 77 i) :: st) g M := j_get (ci := 7) (k := 77) (f := 12) rfl hin_X7 (by decide) hL hi (cel_77 z gx g i) rfl d hq kk
theorem up_X7_trace (z : zE) (x m : zG) (i : Nat) (hi : i < dm 77) (v : Int64) : ∀ a b, b < dm a → upc (wm z x m) 77 i (.inr (7, [.ref (za z 100 0), .ref (za z 101 0), .ref (za z 102 0), .ref (za z 103 0), .ref (za z 104 0), .int (gi m 120 i 0), .int (gi m 121 i 0), .ref (za z 105 0), .ref (za z 106 0), .int (gi m 122 i 0), .ref (za z 107 0), .int (gi m 123 i 0), .long v, .ref (za z 108 0), .int (gi m 124 i 0), .int (gi m 125 i 0), .int (gi m 126 i 0), .int (gi m 127 i 0), .int (gi m 128 i 0), .ref (za z 109 0), .int (gi m 129 i 0), .int (gi m 130 i 0), .ref (za z 110 0), .int (gi m 131 i 0), .int (gi m 132 i 0), .ref (za z 111 0), .ref (za z 112 0), .ref (za z 113 0)])) a b = wm z x (ul m 0 v) a b := by
  intro a b hb
  by_cases ha : a = 77
  · subst ha
    have hb0 : b = 0 := by have h9 : b < 1 := hb; omega
    have hi0 : i = 0 := by have h9 : i < 1 := hi; omega
    subst hb0; subst hi0; simp [upc, cel_77, gi_ui, gl_ui, gn_ui, gi_ul, gl_ul, gn_ul, gi_un, gl_un, gn_un]
  · rw [upc, if_neg (fun h => ha h.1)]
    rcases dm_cases hb with rfl | rfl | rfl | rfl | rfl | rfl | rfl | rfl | rfl | rfl | rfl | rfl | rfl | rfl | rfl | rfl | rfl | rfl | rfl | rfl | rfl | rfl | rfl | rfl | rfl | rfl | rfl | rfl | rfl | rfl | rfl | rfl | rfl | rfl | rfl | rfl | rfl | rfl <;> first | rfl | exact absurd rfl ha
theorem p_X7_trace {v : Int64} (hL : Cond.fieldLink own idx "CopierJobsModel" "trace" "J" ∈ lw_gt) (hi : i < dm 77) (d : decode cc pc = .ok (.putfield idx, 3)) (hq : pc + 3 = q) (kk : ∀ g1, zJ p l e R s m args below meth c cc nL own z cells slots (wm z gx) fin ri Q q lv st g1 (F g1)) : zJ p l e R s m args below meth c cc nL own z cells slots (wm z gx) fin ri Q pc lv (.long v :: .ref (za z 77 i) :: st) g (bd (ul g 0 v) F) := j_put (ci := 7) (k := 77) (f := 12) rfl hin_X7 tyX7 tyX7_ok nmX7 (by decide) rfl (ty := .long) (by decide +kernel) hL hi (cel_77 z gx g i) (Nat.le_of_ble_eq_true rfl) rfl rfl (up_X7_trace z gx g i hi v) d hq kk
theorem g_X7_text (hL : Cond.fieldLink own idx "CopierJobsModel" "text" "[I" ∈ lw_gt) (hi : i < dm 77) (d : decode cc pc = .ok (.getfield idx, 3)) (hq : pc + 3 = q) (kk : zJ p l e R s m args below meth c cc nL own z cells slots (wm z gx) fin ri Q q lv (.ref (za z 108 0) :: st) g M) : zJ p l e R s m args below meth c cc nL own z cells slots (wm z gx) fin ri Q pc lv (.ref (za z 77 i) :: st) g M := j_get (ci := 7) (k := 77) (f := 13) rfl hin_X7 (by decide) hL hi (cel_77 z gx g i) rfl d hq kk
theorem g_X7_length (hL : Cond.fieldLink own idx "CopierJobsModel" "length" "I" ∈ lw_gt) (hi : i < dm 77) (d : decode cc pc = .ok (.getfield idx, 3)) (hq : pc + 3 = q) (kk : zJ p l e R s m args below meth c cc nL own z cells slots (wm z gx) fin ri Q q lv (.int (gi g 124 i 0) :: st) g M) : zJ p l e R s m args below meth c cc nL own z cells slots (wm z gx) fin ri Q pc lv (.ref (za z 77 i) :: st) g M := j_get (ci := 7) (k := 77) (f := 14) rfl hin_X7 (by decide) hL hi (cel_77 z gx g i) rfl d hq kk
theorem up_X7_length (z : zE) (x m : zG) (i : Nat) (v : Int32) : ∀ a b, b < dm a → upc (wm z x m) 77 i (.inr (7, [.ref (za z 100 0), .ref (za z 101 0), .ref (za z 102 0), .ref (za z 103 0), .ref (za z 104 0), .int (gi m 120 i 0), .int (gi m 121 i 0), .ref (za z 105 0), .ref (za z 106 0), .int (gi m 122 i 0), .ref (za z 107 0), .int (gi m 123 i 0), .long (gl m 0), .ref (za z 108 0), .int v, .int (gi m 125 i 0), .int (gi m 126 i 0), .int (gi m 127 i 0), .int (gi m 128 i 0), .ref (za z 109 0), .int (gi m 129 i 0), .int (gi m 130 i 0), .ref (za z 110 0), .int (gi m 131 i 0), .int (gi m 132 i 0), .ref (za z 111 0), .ref (za z 112 0), .ref (za z 113 0)])) a b = wm z x (ui m 124 i 0 v) a b := by
  intro a b hb
  by_cases ha : a = 77
  · subst ha; by_cases h : b = i
    · subst h; simp [upc, cel_77, gi_ui, gl_ui, gn_ui, gi_ul, gl_ul, gn_ul, gi_un, gl_un, gn_un]
    · simp [upc, cel_77, gi_ui, gl_ui, gn_ui, gi_ul, gl_ul, gn_ul, gi_un, gl_un, gn_un, h]
  · rw [upc, if_neg (fun h => ha h.1)]
    rcases dm_cases hb with rfl | rfl | rfl | rfl | rfl | rfl | rfl | rfl | rfl | rfl | rfl | rfl | rfl | rfl | rfl | rfl | rfl | rfl | rfl | rfl | rfl | rfl | rfl | rfl | rfl | rfl | rfl | rfl | rfl | rfl | rfl | rfl | rfl | rfl | rfl | rfl | rfl | rfl <;> first | rfl | exact absurd rfl ha
theorem p_X7_length {v : Int32} (hL : Cond.fieldLink own idx "CopierJobsModel" "length" "I" ∈ lw_gt) (hi : i < dm 77) (d : decode cc pc = .ok (.putfield idx, 3)) (hq : pc + 3 = q) (kk : ∀ g1, zJ p l e R s m args below meth c cc nL own z cells slots (wm z gx) fin ri Q q lv st g1 (F g1)) : zJ p l e R s m args below meth c cc nL own z cells slots (wm z gx) fin ri Q pc lv (.int v :: .ref (za z 77 i) :: st) g (bd (ui g 124 i 0 v) F) := j_put (ci := 7) (k := 77) (f := 14) rfl hin_X7 tyX7 tyX7_ok nmX7 (by decide) rfl (ty := .int) (by decide +kernel) hL hi (cel_77 z gx g i) (Nat.le_of_ble_eq_true rfl) rfl rfl (up_X7_length z gx g i v) d hq kk
theorem g_X7_place (hL : Cond.fieldLink own idx "CopierJobsModel" "place" "I" ∈ lw_gt) (hi : i < dm 77) (d : decode cc pc = .ok (.getfield idx, 3)) (hq : pc + 3 = q) (kk : zJ p l e R s m args below meth c cc nL own z cells slots (wm z gx) fin ri Q q lv (.int (gi g 125 i 0) :: st) g M) : zJ p l e R s m args below meth c cc nL own z cells slots (wm z gx) fin ri Q pc lv (.ref (za z 77 i) :: st) g M := j_get (ci := 7) (k := 77) (f := 15) rfl hin_X7 (by decide) hL hi (cel_77 z gx g i) rfl d hq kk
theorem up_X7_place (z : zE) (x m : zG) (i : Nat) (v : Int32) : ∀ a b, b < dm a → upc (wm z x m) 77 i (.inr (7, [.ref (za z 100 0), .ref (za z 101 0), .ref (za z 102 0), .ref (za z 103 0), .ref (za z 104 0), .int (gi m 120 i 0), .int (gi m 121 i 0), .ref (za z 105 0), .ref (za z 106 0), .int (gi m 122 i 0), .ref (za z 107 0), .int (gi m 123 i 0), .long (gl m 0), .ref (za z 108 0), .int (gi m 124 i 0), .int v, .int (gi m 126 i 0), .int (gi m 127 i 0), .int (gi m 128 i 0), .ref (za z 109 0), .int (gi m 129 i 0), .int (gi m 130 i 0), .ref (za z 110 0), .int (gi m 131 i 0), .int (gi m 132 i 0), .ref (za z 111 0), .ref (za z 112 0), .ref (za z 113 0)])) a b = wm z x (ui m 125 i 0 v) a b := by
  intro a b hb
  by_cases ha : a = 77
  · subst ha; by_cases h : b = i
    · subst h; simp [upc, cel_77, gi_ui, gl_ui, gn_ui, gi_ul, gl_ul, gn_ul, gi_un, gl_un, gn_un]
    · simp [upc, cel_77, gi_ui, gl_ui, gn_ui, gi_ul, gl_ul, gn_ul, gi_un, gl_un, gn_un, h]
  · rw [upc, if_neg (fun h => ha h.1)]
    rcases dm_cases hb with rfl | rfl | rfl | rfl | rfl | rfl | rfl | rfl | rfl | rfl | rfl | rfl | rfl | rfl | rfl | rfl | rfl | rfl | rfl | rfl | rfl | rfl | rfl | rfl | rfl | rfl | rfl | rfl | rfl | rfl | rfl | rfl | rfl | rfl | rfl | rfl | rfl | rfl <;> first | rfl | exact absurd rfl ha
theorem p_X7_place {v : Int32} (hL : Cond.fieldLink own idx "CopierJobsModel" "place" "I" ∈ lw_gt) (hi : i < dm 77) (d : decode cc pc = .ok (.putfield idx, 3)) (hq : pc + 3 = q) (kk : ∀ g1, zJ p l e R s m args below meth c cc nL own z cells slots (wm z gx) fin ri Q q lv st g1 (F g1)) : zJ p l e R s m args below meth c cc nL own z cells slots (wm z gx) fin ri Q pc lv (.int v :: .ref (za z 77 i) :: st) g (bd (ui g 125 i 0 v) F) := j_put (ci := 7) (k := 77) (f := 15) rfl hin_X7 tyX7 tyX7_ok nmX7 (by decide) rfl (ty := .int) (by decide +kernel) hL hi (cel_77 z gx g i) (Nat.le_of_ble_eq_true rfl) rfl rfl (up_X7_place z gx g i v) d hq kk
theorem g_X7_from (hL : Cond.fieldLink own idx "CopierJobsModel" "from" "I" ∈ lw_gt) (hi : i < dm 77) (d : decode cc pc = .ok (.getfield idx, 3)) (hq : pc + 3 = q) (kk : zJ p l e R s m args below meth c cc nL own z cells slots (wm z gx) fin ri Q q lv (.int (gi g 126 i 0) :: st) g M) : zJ p l e R s m args below meth c cc nL own z cells slots (wm z gx) fin ri Q pc lv (.ref (za z 77 i) :: st) g M := j_get (ci := 7) (k := 77) (f := 16) rfl hin_X7 (by decide) hL hi (cel_77 z gx g i) rfl d hq kk
theorem up_X7_from (z : zE) (x m : zG) (i : Nat) (v : Int32) : ∀ a b, b < dm a → upc (wm z x m) 77 i (.inr (7, [.ref (za z 100 0), .ref (za z 101 0), .ref (za z 102 0), .ref (za z 103 0), .ref (za z 104 0), .int (gi m 120 i 0), .int (gi m 121 i 0), .ref (za z 105 0), .ref (za z 106 0), .int (gi m 122 i 0), .ref (za z 107 0), .int (gi m 123 i 0), .long (gl m 0), .ref (za z 108 0), .int (gi m 124 i 0), .int (gi m 125 i 0), .int v, .int (gi m 127 i 0), .int (gi m 128 i 0), .ref (za z 109 0), .int (gi m 129 i 0), .int (gi m 130 i 0), .ref (za z 110 0), .int (gi m 131 i 0), .int (gi m 132 i 0), .ref (za z 111 0), .ref (za z 112 0), .ref (za z 113 0)])) a b = wm z x (ui m 126 i 0 v) a b := by
  intro a b hb
  by_cases ha : a = 77
  · subst ha; by_cases h : b = i
    · subst h; simp [upc, cel_77, gi_ui, gl_ui, gn_ui, gi_ul, gl_ul, gn_ul, gi_un, gl_un, gn_un]
    · simp [upc, cel_77, gi_ui, gl_ui, gn_ui, gi_ul, gl_ul, gn_ul, gi_un, gl_un, gn_un, h]
  · rw [upc, if_neg (fun h => ha h.1)]
    rcases dm_cases hb with rfl | rfl | rfl | rfl | rfl | rfl | rfl | rfl | rfl | rfl | rfl | rfl | rfl | rfl | rfl | rfl | rfl | rfl | rfl | rfl | rfl | rfl | rfl | rfl | rfl | rfl | rfl | rfl | rfl | rfl | rfl | rfl | rfl | rfl | rfl | rfl | rfl | rfl <;> first | rfl | exact absurd rfl ha
theorem p_X7_from {v : Int32} (hL : Cond.fieldLink own idx "CopierJobsModel" "from" "I" ∈ lw_gt) (hi : i < dm 77) (d : decode cc pc = .ok (.putfield idx, 3)) (hq : pc + 3 = q) (kk : ∀ g1, zJ p l e R s m args below meth c cc nL own z cells slots (wm z gx) fin ri Q q lv st g1 (F g1)) : zJ p l e R s m args below meth c cc nL own z cells slots (wm z gx) fin ri Q pc lv (.int v :: .ref (za z 77 i) :: st) g (bd (ui g 126 i 0 v) F) := j_put (ci := 7) (k := 77) (f := 16) rfl hin_X7 tyX7 tyX7_ok nmX7 (by decide) rfl (ty := .int) (by decide +kernel) hL hi (cel_77 z gx g i) (Nat.le_of_ble_eq_true rfl) rfl rfl (up_X7_from z gx g i v) d hq kk
theorem g_X7_sort (hL : Cond.fieldLink own idx "CopierJobsModel" "sort" "I" ∈ lw_gt) (hi : i < dm 77) (d : decode cc pc = .ok (.getfield idx, 3)) (hq : pc + 3 = q) (kk : zJ p l e R s m args below meth c cc nL own z cells slots (wm z gx) fin ri Q q lv (.int (gi g 127 i 0) :: st) g M) : zJ p l e R s m args below meth c cc nL own z cells slots (wm z gx) fin ri Q pc lv (.ref (za z 77 i) :: st) g M := j_get (ci := 7) (k := 77) (f := 17) rfl hin_X7 (by decide) hL hi (cel_77 z gx g i) rfl d hq kk
theorem up_X7_sort (z : zE) (x m : zG) (i : Nat) (v : Int32) : ∀ a b, b < dm a → upc (wm z x m) 77 i (.inr (7, [.ref (za z 100 0), .ref (za z 101 0), .ref (za z 102 0), .ref (za z 103 0), .ref (za z 104 0), .int (gi m 120 i 0), .int (gi m 121 i 0), .ref (za z 105 0), .ref (za z 106 0), .int (gi m 122 i 0), .ref (za z 107 0), .int (gi m 123 i 0), .long (gl m 0), .ref (za z 108 0), .int (gi m 124 i 0), .int (gi m 125 i 0), .int (gi m 126 i 0), .int v, .int (gi m 128 i 0), .ref (za z 109 0), .int (gi m 129 i 0), .int (gi m 130 i 0), .ref (za z 110 0), .int (gi m 131 i 0), .int (gi m 132 i 0), .ref (za z 111 0), .ref (za z 112 0), .ref (za z 113 0)])) a b = wm z x (ui m 127 i 0 v) a b := by
  intro a b hb
  by_cases ha : a = 77
  · subst ha; by_cases h : b = i
    · subst h; simp [upc, cel_77, gi_ui, gl_ui, gn_ui, gi_ul, gl_ul, gn_ul, gi_un, gl_un, gn_un]
    · simp [upc, cel_77, gi_ui, gl_ui, gn_ui, gi_ul, gl_ul, gn_ul, gi_un, gl_un, gn_un, h]
  · rw [upc, if_neg (fun h => ha h.1)]
    rcases dm_cases hb with rfl | rfl | rfl | rfl | rfl | rfl | rfl | rfl | rfl | rfl | rfl | rfl | rfl | rfl | rfl | rfl | rfl | rfl | rfl | rfl | rfl | rfl | rfl | rfl | rfl | rfl | rfl | rfl | rfl | rfl | rfl | rfl | rfl | rfl | rfl | rfl | rfl | rfl <;> first | rfl | exact absurd rfl ha
theorem p_X7_sort {v : Int32} (hL : Cond.fieldLink own idx "CopierJobsModel" "sort" "I" ∈ lw_gt) (hi : i < dm 77) (d : decode cc pc = .ok (.putfield idx, 3)) (hq : pc + 3 = q) (kk : ∀ g1, zJ p l e R s m args below meth c cc nL own z cells slots (wm z gx) fin ri Q q lv st g1 (F g1)) : zJ p l e R s m args below meth c cc nL own z cells slots (wm z gx) fin ri Q pc lv (.int v :: .ref (za z 77 i) :: st) g (bd (ui g 127 i 0 v) F) := j_put (ci := 7) (k := 77) (f := 17) rfl hin_X7 tyX7 tyX7_ok nmX7 (by decide) rfl (ty := .int) (by decide +kernel) hL hi (cel_77 z gx g i) (Nat.le_of_ble_eq_true rfl) rfl rfl (up_X7_sort z gx g i v) d hq kk
theorem g_X7_value (hL : Cond.fieldLink own idx "CopierJobsModel" "value" "I" ∈ lw_gt) (hi : i < dm 77) (d : decode cc pc = .ok (.getfield idx, 3)) (hq : pc + 3 = q) (kk : zJ p l e R s m args below meth c cc nL own z cells slots (wm z gx) fin ri Q q lv (.int (gi g 128 i 0) :: st) g M) : zJ p l e R s m args below meth c cc nL own z cells slots (wm z gx) fin ri Q pc lv (.ref (za z 77 i) :: st) g M := j_get (ci := 7) (k := 77) (f := 18) rfl hin_X7 (by decide) hL hi (cel_77 z gx g i) rfl d hq kk
theorem up_X7_value (z : zE) (x m : zG) (i : Nat) (v : Int32) : ∀ a b, b < dm a → upc (wm z x m) 77 i (.inr (7, [.ref (za z 100 0), .ref (za z 101 0), .ref (za z 102 0), .ref (za z 103 0), .ref (za z 104 0), .int (gi m 120 i 0), .int (gi m 121 i 0), .ref (za z 105 0), .ref (za z 106 0), .int (gi m 122 i 0), .ref (za z 107 0), .int (gi m 123 i 0), .long (gl m 0), .ref (za z 108 0), .int (gi m 124 i 0), .int (gi m 125 i 0), .int (gi m 126 i 0), .int (gi m 127 i 0), .int v, .ref (za z 109 0), .int (gi m 129 i 0), .int (gi m 130 i 0), .ref (za z 110 0), .int (gi m 131 i 0), .int (gi m 132 i 0), .ref (za z 111 0), .ref (za z 112 0), .ref (za z 113 0)])) a b = wm z x (ui m 128 i 0 v) a b := by
  intro a b hb
  by_cases ha : a = 77
  · subst ha; by_cases h : b = i
    · subst h; simp [upc, cel_77, gi_ui, gl_ui, gn_ui, gi_ul, gl_ul, gn_ul, gi_un, gl_un, gn_un]
    · simp [upc, cel_77, gi_ui, gl_ui, gn_ui, gi_ul, gl_ul, gn_ul, gi_un, gl_un, gn_un, h]
  · rw [upc, if_neg (fun h => ha h.1)]
    rcases dm_cases hb with rfl | rfl | rfl | rfl | rfl | rfl | rfl | rfl | rfl | rfl | rfl | rfl | rfl | rfl | rfl | rfl | rfl | rfl | rfl | rfl | rfl | rfl | rfl | rfl | rfl | rfl | rfl | rfl | rfl | rfl | rfl | rfl | rfl | rfl | rfl | rfl | rfl | rfl <;> first | rfl | exact absurd rfl ha
theorem p_X7_value {v : Int32} (hL : Cond.fieldLink own idx "CopierJobsModel" "value" "I" ∈ lw_gt) (hi : i < dm 77) (d : decode cc pc = .ok (.putfield idx, 3)) (hq : pc + 3 = q) (kk : ∀ g1, zJ p l e R s m args below meth c cc nL own z cells slots (wm z gx) fin ri Q q lv st g1 (F g1)) : zJ p l e R s m args below meth c cc nL own z cells slots (wm z gx) fin ri Q pc lv (.int v :: .ref (za z 77 i) :: st) g (bd (ui g 128 i 0 v) F) := j_put (ci := 7) (k := 77) (f := 18) rfl hin_X7 tyX7 tyX7_ok nmX7 (by decide) rfl (ty := .int) (by decide +kernel) hL hi (cel_77 z gx g i) (Nat.le_of_ble_eq_true rfl) rfl rfl (up_X7_value z gx g i v) d hq kk
theorem g_X7_newTrays (hL : Cond.fieldLink own idx "CopierJobsModel" "newTrays" "[I" ∈ lw_gt) (hi : i < dm 77) (d : decode cc pc = .ok (.getfield idx, 3)) (hq : pc + 3 = q) (kk : zJ p l e R s m args below meth c cc nL own z cells slots (wm z gx) fin ri Q q lv (.ref (za z 109 0) :: st) g M) : zJ p l e R s m args below meth c cc nL own z cells slots (wm z gx) fin ri Q pc lv (.ref (za z 77 i) :: st) g M := j_get (ci := 7) (k := 77) (f := 19) rfl hin_X7 (by decide) hL hi (cel_77 z gx g i) rfl d hq kk
theorem g_X7_newInk (hL : Cond.fieldLink own idx "CopierJobsModel" "newInk" "I" ∈ lw_gt) (hi : i < dm 77) (d : decode cc pc = .ok (.getfield idx, 3)) (hq : pc + 3 = q) (kk : zJ p l e R s m args below meth c cc nL own z cells slots (wm z gx) fin ri Q q lv (.int (gi g 129 i 0) :: st) g M) : zJ p l e R s m args below meth c cc nL own z cells slots (wm z gx) fin ri Q pc lv (.ref (za z 77 i) :: st) g M := j_get (ci := 7) (k := 77) (f := 20) rfl hin_X7 (by decide) hL hi (cel_77 z gx g i) rfl d hq kk
theorem up_X7_newInk (z : zE) (x m : zG) (i : Nat) (v : Int32) : ∀ a b, b < dm a → upc (wm z x m) 77 i (.inr (7, [.ref (za z 100 0), .ref (za z 101 0), .ref (za z 102 0), .ref (za z 103 0), .ref (za z 104 0), .int (gi m 120 i 0), .int (gi m 121 i 0), .ref (za z 105 0), .ref (za z 106 0), .int (gi m 122 i 0), .ref (za z 107 0), .int (gi m 123 i 0), .long (gl m 0), .ref (za z 108 0), .int (gi m 124 i 0), .int (gi m 125 i 0), .int (gi m 126 i 0), .int (gi m 127 i 0), .int (gi m 128 i 0), .ref (za z 109 0), .int v, .int (gi m 130 i 0), .ref (za z 110 0), .int (gi m 131 i 0), .int (gi m 132 i 0), .ref (za z 111 0), .ref (za z 112 0), .ref (za z 113 0)])) a b = wm z x (ui m 129 i 0 v) a b := by
  intro a b hb
  by_cases ha : a = 77
  · subst ha; by_cases h : b = i
    · subst h; simp [upc, cel_77, gi_ui, gl_ui, gn_ui, gi_ul, gl_ul, gn_ul, gi_un, gl_un, gn_un]
    · simp [upc, cel_77, gi_ui, gl_ui, gn_ui, gi_ul, gl_ul, gn_ul, gi_un, gl_un, gn_un, h]
  · rw [upc, if_neg (fun h => ha h.1)]
    rcases dm_cases hb with rfl | rfl | rfl | rfl | rfl | rfl | rfl | rfl | rfl | rfl | rfl | rfl | rfl | rfl | rfl | rfl | rfl | rfl | rfl | rfl | rfl | rfl | rfl | rfl | rfl | rfl | rfl | rfl | rfl | rfl | rfl | rfl | rfl | rfl | rfl | rfl | rfl | rfl <;> first | rfl | exact absurd rfl ha
theorem p_X7_newInk {v : Int32} (hL : Cond.fieldLink own idx "CopierJobsModel" "newInk" "I" ∈ lw_gt) (hi : i < dm 77) (d : decode cc pc = .ok (.putfield idx, 3)) (hq : pc + 3 = q) (kk : ∀ g1, zJ p l e R s m args below meth c cc nL own z cells slots (wm z gx) fin ri Q q lv st g1 (F g1)) : zJ p l e R s m args below meth c cc nL own z cells slots (wm z gx) fin ri Q pc lv (.int v :: .ref (za z 77 i) :: st) g (bd (ui g 129 i 0 v) F) := j_put (ci := 7) (k := 77) (f := 20) rfl hin_X7 tyX7 tyX7_ok nmX7 (by decide) rfl (ty := .int) (by decide +kernel) hL hi (cel_77 z gx g i) (Nat.le_of_ble_eq_true rfl) rfl rfl (up_X7_newInk z gx g i v) d hq kk
theorem g_X7_newBins (hL : Cond.fieldLink own idx "CopierJobsModel" "newBins" "I" ∈ lw_gt) (hi : i < dm 77) (d : decode cc pc = .ok (.getfield idx, 3)) (hq : pc + 3 = q) (kk : zJ p l e R s m args below meth c cc nL own z cells slots (wm z gx) fin ri Q q lv (.int (gi g 130 i 0) :: st) g M) : zJ p l e R s m args below meth c cc nL own z cells slots (wm z gx) fin ri Q pc lv (.ref (za z 77 i) :: st) g M := j_get (ci := 7) (k := 77) (f := 21) rfl hin_X7 (by decide) hL hi (cel_77 z gx g i) rfl d hq kk
theorem up_X7_newBins (z : zE) (x m : zG) (i : Nat) (v : Int32) : ∀ a b, b < dm a → upc (wm z x m) 77 i (.inr (7, [.ref (za z 100 0), .ref (za z 101 0), .ref (za z 102 0), .ref (za z 103 0), .ref (za z 104 0), .int (gi m 120 i 0), .int (gi m 121 i 0), .ref (za z 105 0), .ref (za z 106 0), .int (gi m 122 i 0), .ref (za z 107 0), .int (gi m 123 i 0), .long (gl m 0), .ref (za z 108 0), .int (gi m 124 i 0), .int (gi m 125 i 0), .int (gi m 126 i 0), .int (gi m 127 i 0), .int (gi m 128 i 0), .ref (za z 109 0), .int (gi m 129 i 0), .int v, .ref (za z 110 0), .int (gi m 131 i 0), .int (gi m 132 i 0), .ref (za z 111 0), .ref (za z 112 0), .ref (za z 113 0)])) a b = wm z x (ui m 130 i 0 v) a b := by
  intro a b hb
  by_cases ha : a = 77
  · subst ha; by_cases h : b = i
    · subst h; simp [upc, cel_77, gi_ui, gl_ui, gn_ui, gi_ul, gl_ul, gn_ul, gi_un, gl_un, gn_un]
    · simp [upc, cel_77, gi_ui, gl_ui, gn_ui, gi_ul, gl_ul, gn_ul, gi_un, gl_un, gn_un, h]
  · rw [upc, if_neg (fun h => ha h.1)]
    rcases dm_cases hb with rfl | rfl | rfl | rfl | rfl | rfl | rfl | rfl | rfl | rfl | rfl | rfl | rfl | rfl | rfl | rfl | rfl | rfl | rfl | rfl | rfl | rfl | rfl | rfl | rfl | rfl | rfl | rfl | rfl | rfl | rfl | rfl | rfl | rfl | rfl | rfl | rfl | rfl <;> first | rfl | exact absurd rfl ha
theorem p_X7_newBins {v : Int32} (hL : Cond.fieldLink own idx "CopierJobsModel" "newBins" "I" ∈ lw_gt) (hi : i < dm 77) (d : decode cc pc = .ok (.putfield idx, 3)) (hq : pc + 3 = q) (kk : ∀ g1, zJ p l e R s m args below meth c cc nL own z cells slots (wm z gx) fin ri Q q lv st g1 (F g1)) : zJ p l e R s m args below meth c cc nL own z cells slots (wm z gx) fin ri Q pc lv (.int v :: .ref (za z 77 i) :: st) g (bd (ui g 130 i 0 v) F) := j_put (ci := 7) (k := 77) (f := 21) rfl hin_X7 tyX7 tyX7_ok nmX7 (by decide) rfl (ty := .int) (by decide +kernel) hL hi (cel_77 z gx g i) (Nat.le_of_ble_eq_true rfl) rfl rfl (up_X7_newBins z gx g i v) d hq kk
theorem g_X7_newJobs (hL : Cond.fieldLink own idx "CopierJobsModel" "newJobs" "[I" ∈ lw_gt) (hi : i < dm 77) (d : decode cc pc = .ok (.getfield idx, 3)) (hq : pc + 3 = q) (kk : zJ p l e R s m args below meth c cc nL own z cells slots (wm z gx) fin ri Q q lv (.ref (za z 110 0) :: st) g M) : zJ p l e R s m args below meth c cc nL own z cells slots (wm z gx) fin ri Q pc lv (.ref (za z 77 i) :: st) g M := j_get (ci := 7) (k := 77) (f := 22) rfl hin_X7 (by decide) hL hi (cel_77 z gx g i) rfl d hq kk
theorem g_X7_newMany (hL : Cond.fieldLink own idx "CopierJobsModel" "newMany" "I" ∈ lw_gt) (hi : i < dm 77) (d : decode cc pc = .ok (.getfield idx, 3)) (hq : pc + 3 = q) (kk : zJ p l e R s m args below meth c cc nL own z cells slots (wm z gx) fin ri Q q lv (.int (gi g 131 i 0) :: st) g M) : zJ p l e R s m args below meth c cc nL own z cells slots (wm z gx) fin ri Q pc lv (.ref (za z 77 i) :: st) g M := j_get (ci := 7) (k := 77) (f := 23) rfl hin_X7 (by decide) hL hi (cel_77 z gx g i) rfl d hq kk
theorem up_X7_newMany (z : zE) (x m : zG) (i : Nat) (v : Int32) : ∀ a b, b < dm a → upc (wm z x m) 77 i (.inr (7, [.ref (za z 100 0), .ref (za z 101 0), .ref (za z 102 0), .ref (za z 103 0), .ref (za z 104 0), .int (gi m 120 i 0), .int (gi m 121 i 0), .ref (za z 105 0), .ref (za z 106 0), .int (gi m 122 i 0), .ref (za z 107 0), .int (gi m 123 i 0), .long (gl m 0), .ref (za z 108 0), .int (gi m 124 i 0), .int (gi m 125 i 0), .int (gi m 126 i 0), .int (gi m 127 i 0), .int (gi m 128 i 0), .ref (za z 109 0), .int (gi m 129 i 0), .int (gi m 130 i 0), .ref (za z 110 0), .int v, .int (gi m 132 i 0), .ref (za z 111 0), .ref (za z 112 0), .ref (za z 113 0)])) a b = wm z x (ui m 131 i 0 v) a b := by
  intro a b hb
  by_cases ha : a = 77
  · subst ha; by_cases h : b = i
    · subst h; simp [upc, cel_77, gi_ui, gl_ui, gn_ui, gi_ul, gl_ul, gn_ul, gi_un, gl_un, gn_un]
    · simp [upc, cel_77, gi_ui, gl_ui, gn_ui, gi_ul, gl_ul, gn_ul, gi_un, gl_un, gn_un, h]
  · rw [upc, if_neg (fun h => ha h.1)]
    rcases dm_cases hb with rfl | rfl | rfl | rfl | rfl | rfl | rfl | rfl | rfl | rfl | rfl | rfl | rfl | rfl | rfl | rfl | rfl | rfl | rfl | rfl | rfl | rfl | rfl | rfl | rfl | rfl | rfl | rfl | rfl | rfl | rfl | rfl | rfl | rfl | rfl | rfl | rfl | rfl <;> first | rfl | exact absurd rfl ha
theorem p_X7_newMany {v : Int32} (hL : Cond.fieldLink own idx "CopierJobsModel" "newMany" "I" ∈ lw_gt) (hi : i < dm 77) (d : decode cc pc = .ok (.putfield idx, 3)) (hq : pc + 3 = q) (kk : ∀ g1, zJ p l e R s m args below meth c cc nL own z cells slots (wm z gx) fin ri Q q lv st g1 (F g1)) : zJ p l e R s m args below meth c cc nL own z cells slots (wm z gx) fin ri Q pc lv (.int v :: .ref (za z 77 i) :: st) g (bd (ui g 131 i 0 v) F) := j_put (ci := 7) (k := 77) (f := 23) rfl hin_X7 tyX7 tyX7_ok nmX7 (by decide) rfl (ty := .int) (by decide +kernel) hL hi (cel_77 z gx g i) (Nat.le_of_ble_eq_true rfl) rfl rfl (up_X7_newMany z gx g i v) d hq kk
theorem g_X7_told (hL : Cond.fieldLink own idx "CopierJobsModel" "told" "I" ∈ lw_gt) (hi : i < dm 77) (d : decode cc pc = .ok (.getfield idx, 3)) (hq : pc + 3 = q) (kk : zJ p l e R s m args below meth c cc nL own z cells slots (wm z gx) fin ri Q q lv (.int (gi g 132 i 0) :: st) g M) : zJ p l e R s m args below meth c cc nL own z cells slots (wm z gx) fin ri Q pc lv (.ref (za z 77 i) :: st) g M := j_get (ci := 7) (k := 77) (f := 24) rfl hin_X7 (by decide) hL hi (cel_77 z gx g i) rfl d hq kk
theorem up_X7_told (z : zE) (x m : zG) (i : Nat) (v : Int32) : ∀ a b, b < dm a → upc (wm z x m) 77 i (.inr (7, [.ref (za z 100 0), .ref (za z 101 0), .ref (za z 102 0), .ref (za z 103 0), .ref (za z 104 0), .int (gi m 120 i 0), .int (gi m 121 i 0), .ref (za z 105 0), .ref (za z 106 0), .int (gi m 122 i 0), .ref (za z 107 0), .int (gi m 123 i 0), .long (gl m 0), .ref (za z 108 0), .int (gi m 124 i 0), .int (gi m 125 i 0), .int (gi m 126 i 0), .int (gi m 127 i 0), .int (gi m 128 i 0), .ref (za z 109 0), .int (gi m 129 i 0), .int (gi m 130 i 0), .ref (za z 110 0), .int (gi m 131 i 0), .int v, .ref (za z 111 0), .ref (za z 112 0), .ref (za z 113 0)])) a b = wm z x (ui m 132 i 0 v) a b := by
  intro a b hb
  by_cases ha : a = 77
  · subst ha; by_cases h : b = i
    · subst h; simp [upc, cel_77, gi_ui, gl_ui, gn_ui, gi_ul, gl_ul, gn_ul, gi_un, gl_un, gn_un]
    · simp [upc, cel_77, gi_ui, gl_ui, gn_ui, gi_ul, gl_ul, gn_ul, gi_un, gl_un, gn_un, h]
  · rw [upc, if_neg (fun h => ha h.1)]
    rcases dm_cases hb with rfl | rfl | rfl | rfl | rfl | rfl | rfl | rfl | rfl | rfl | rfl | rfl | rfl | rfl | rfl | rfl | rfl | rfl | rfl | rfl | rfl | rfl | rfl | rfl | rfl | rfl | rfl | rfl | rfl | rfl | rfl | rfl | rfl | rfl | rfl | rfl | rfl | rfl <;> first | rfl | exact absurd rfl ha
theorem p_X7_told {v : Int32} (hL : Cond.fieldLink own idx "CopierJobsModel" "told" "I" ∈ lw_gt) (hi : i < dm 77) (d : decode cc pc = .ok (.putfield idx, 3)) (hq : pc + 3 = q) (kk : ∀ g1, zJ p l e R s m args below meth c cc nL own z cells slots (wm z gx) fin ri Q q lv st g1 (F g1)) : zJ p l e R s m args below meth c cc nL own z cells slots (wm z gx) fin ri Q pc lv (.int v :: .ref (za z 77 i) :: st) g (bd (ui g 132 i 0 v) F) := j_put (ci := 7) (k := 77) (f := 24) rfl hin_X7 tyX7 tyX7_ok nmX7 (by decide) rfl (ty := .int) (by decide +kernel) hL hi (cel_77 z gx g i) (Nat.le_of_ble_eq_true rfl) rfl rfl (up_X7_told z gx g i v) d hq kk
theorem g_X7_aside (hL : Cond.fieldLink own idx "CopierJobsModel" "aside" "[I" ∈ lw_gt) (hi : i < dm 77) (d : decode cc pc = .ok (.getfield idx, 3)) (hq : pc + 3 = q) (kk : zJ p l e R s m args below meth c cc nL own z cells slots (wm z gx) fin ri Q q lv (.ref (za z 111 0) :: st) g M) : zJ p l e R s m args below meth c cc nL own z cells slots (wm z gx) fin ri Q pc lv (.ref (za z 77 i) :: st) g M := j_get (ci := 7) (k := 77) (f := 25) rfl hin_X7 (by decide) hL hi (cel_77 z gx g i) rfl d hq kk
theorem g_X7_images (hL : Cond.fieldLink own idx "CopierJobsModel" "images" "[I" ∈ lw_gt) (hi : i < dm 77) (d : decode cc pc = .ok (.getfield idx, 3)) (hq : pc + 3 = q) (kk : zJ p l e R s m args below meth c cc nL own z cells slots (wm z gx) fin ri Q q lv (.ref (za z 112 0) :: st) g M) : zJ p l e R s m args below meth c cc nL own z cells slots (wm z gx) fin ri Q pc lv (.ref (za z 77 i) :: st) g M := j_get (ci := 7) (k := 77) (f := 26) rfl hin_X7 (by decide) hL hi (cel_77 z gx g i) rfl d hq kk
theorem g_X7_isKept (hL : Cond.fieldLink own idx "CopierJobsModel" "isKept" "[I" ∈ lw_gt) (hi : i < dm 77) (d : decode cc pc = .ok (.getfield idx, 3)) (hq : pc + 3 = q) (kk : zJ p l e R s m args below meth c cc nL own z cells slots (wm z gx) fin ri Q q lv (.ref (za z 113 0) :: st) g M) : zJ p l e R s m args below meth c cc nL own z cells slots (wm z gx) fin ri Q pc lv (.ref (za z 77 i) :: st) g M := j_get (ci := 7) (k := 77) (f := 27) rfl hin_X7 (by decide) hL hi (cel_77 z gx g i) rfl d hq kk
end FLDX7
section FLDAx
variable {p : Program} {l : Launch} {e : Env} {R : Room} {s : State} {m : MethodId} {args : Array Value} {below : List Frame} {meth : Method} {c : Code} {cc : ByteArray} {nL : Nat} {own host : String} {z : zE} {cells slots : Nat} {ρ : Type} {gm gx : zG} {fin : ρ → zG → List Value → Prop} {ri : Instr} {Q : ρ → State → Prop} {pc q i idx : Nat} {lv : List (Nat × Value)} {st : List Value} {g : zG} {M : Option ρ} {F : zG → Option ρ}
theorem ax_ld {k n : Nat} {ix : Int32} (hK : isX k) (hn : ln k = n) (hi : i < dm k) (d : decode cc pc = .ok (.iaload, 1)) (hq : pc + 1 = q) (kk : zJ p l e R s m args below meth c cc nL own z cells slots (wx z gm) fin ri Q q lv (.int (gi g k i ix.toNatClampNeg) :: st) g M) : zJ p l e R s m args below meth c cc nL own z cells slots (wx z gm) fin ri Q pc lv (.int ix :: .ref (za z k i) :: st) g (gd (inb ix n = true) M) := by
  subst hn
  exact j_iald hi (cel_x hK) d hq kk
theorem ax_st {k n : Nat} {ix x : Int32} (hK : isX k) (hn : ln k = n) (hi : i < dm k) (d : decode cc pc = .ok (.iastore, 1)) (hq : pc + 1 = q) (kk : ∀ g1, zJ p l e R s m args below meth c cc nL own z cells slots (wx z gm) fin ri Q q lv st g1 (F g1)) : zJ p l e R s m args below meth c cc nL own z cells slots (wx z gm) fin ri Q pc lv (.int x :: .int ix :: .ref (za z k i) :: st) g (gd (inb ix n = true) (bd (ui g k i ix.toNatClampNeg x) F)) := by
  subst hn
  exact j_iast hi (cel_x hK) (up_x hK) d hq kk
theorem ax_len {k : Nat} {v : Int32} (hK : isX k) (hv : Int32.ofNat (ln k) = v) (hi : i < dm k) (d : decode cc pc = .ok (.arraylength, 1)) (hq : pc + 1 = q) (kk : zJ p l e R s m args below meth c cc nL own z cells slots (wx z gm) fin ri Q q lv (.int v :: st) g M) : zJ p l e R s m args below meth c cc nL own z cells slots (wx z gm) fin ri Q pc lv (.ref (za z k i) :: st) g M := j_alen (t := 0) hi (cel_x hK) rfl hv d hq kk
/-- a row of the class, or a written-out one -/
def isR (k i : Nat) : Prop := (isX k ∧ i < dm k) ∨ (200 ≤ k ∧ k < 210 ∧ i = 0)
theorem isX_lt {k : Nat} (h : isX k) : k < 200 := by rcases h with rfl | rfl | rfl | rfl | rfl | rfl | rfl | rfl | rfl | rfl | rfl | rfl <;> decide
theorem ar_ld {k n : Nat} {ix : Int32} (hK : isR k i) (hn : ln k = n) (d : decode cc pc = .ok (.iaload, 1)) (hq : pc + 1 = q) (kk : zJ p l e R s m args below meth c cc nL own z cells slots (wx z gm) fin ri Q q lv (.int (xr g k i ix.toNatClampNeg) :: st) g M) : zJ p l e R s m args below meth c cc nL own z cells slots (wx z gm) fin ri Q pc lv (.int ix :: .ref (za z k i) :: st) g (gd (inb ix n = true) M) := by
  subst hn
  rcases hK with ⟨h1, h2⟩ | ⟨h1, h2, rfl⟩
  · rw [xr, if_neg (Nat.not_le.mpr (isX_lt h1))] at kk
    exact j_iald h2 (cel_x h1) d hq kk
  · rw [xr, if_pos h1] at kk
    exact j_sld h1 h2 d hq kk
theorem ar_len {k : Nat} {v : Int32} (hK : isR k i) (hv : Int32.ofNat (ln k) = v) (d : decode cc pc = .ok (.arraylength, 1)) (hq : pc + 1 = q) (kk : zJ p l e R s m args below meth c cc nL own z cells slots (wx z gm) fin ri Q q lv (.int v :: st) g M) : zJ p l e R s m args below meth c cc nL own z cells slots (wx z gm) fin ri Q pc lv (.ref (za z k i) :: st) g M := by
  rcases hK with ⟨h1, h2⟩ | ⟨h1, h2, rfl⟩
  · exact j_alen (t := 0) h2 (cel_x h1) rfl hv d hq kk
  · exact j_slen h1 h2 hv d hq kk
theorem a80_len (hi : i < dm 80) (d : decode cc pc = .ok (.arraylength, 1)) (hq : pc + 1 = q) (kk : zJ p l e R s m args below meth c cc nL own z cells slots (wx z gm) fin ri Q q lv (.int 10 :: st) g M) : zJ p l e R s m args below meth c cc nL own z cells slots (wx z gm) fin ri Q pc lv (.ref (za z 80 i) :: st) g M := j_alen (t := 4) (n := 10) hi (cel_80 z g gm i) rfl rfl d hq kk
theorem a80_ld {ix : Int32} (hi : i < dm 80) (d : decode cc pc = .ok (.aaload, 1)) (hq : pc + 1 = q) (kk : zJ p l e R s m args below meth c cc nL own z cells slots (wx z gm) fin ri Q q lv (vr z 72 (some (11 * i + 1 + ix.toNatClampNeg)) :: st) g M) : zJ p l e R s m args below meth c cc nL own z cells slots (wx z gm) fin ri Q pc lv (.int ix :: .ref (za z 80 i) :: st) g (gd (inb ix 10 = true) M) := j_aald (t := 4) (n := 10) (r := some (11 * i + 1 + ix.toNatClampNeg)) hi (cel_80 z g gm i) rfl (fun h => if_pos (Nat.not_le.mp fun q => h (Or.inr q))) d hq kk
theorem a81_len (hi : i < dm 81) (d : decode cc pc = .ok (.arraylength, 1)) (hq : pc + 1 = q) (kk : zJ p l e R s m args below meth c cc nL own z cells slots (wx z gm) fin ri Q q lv (.int 6 :: st) g M) : zJ p l e R s m args below meth c cc nL own z cells slots (wx z gm) fin ri Q pc lv (.ref (za z 81 i) :: st) g M := j_alen (t := 3) (n := 6) hi (cel_81 z g gm i) rfl rfl d hq kk
theorem a81_ld {ix : Int32} (hi : i < dm 81) (d : decode cc pc = .ok (.aaload, 1)) (hq : pc + 1 = q) (kk : zJ p l e R s m args below meth c cc nL own z cells slots (wx z gm) fin ri Q q lv (vr z 71 (some (6 * i + ix.toNatClampNeg)) :: st) g M) : zJ p l e R s m args below meth c cc nL own z cells slots (wx z gm) fin ri Q pc lv (.int ix :: .ref (za z 81 i) :: st) g (gd (inb ix 6 = true) M) := j_aald (t := 3) (n := 6) (r := some (6 * i + ix.toNatClampNeg)) hi (cel_81 z g gm i) rfl (fun h => if_pos (Nat.not_le.mp fun q => h (Or.inr q))) d hq kk
theorem a82_len (hi : i < dm 82) (d : decode cc pc = .ok (.arraylength, 1)) (hq : pc + 1 = q) (kk : zJ p l e R s m args below meth c cc nL own z cells slots (wx z gm) fin ri Q q lv (.int 2 :: st) g M) : zJ p l e R s m args below meth c cc nL own z cells slots (wx z gm) fin ri Q pc lv (.ref (za z 82 i) :: st) g M := j_alen (t := 2) (n := 2) hi (cel_82 z g gm i) rfl rfl d hq kk
theorem a82_ld {ix : Int32} (hi : i < dm 82) (d : decode cc pc = .ok (.aaload, 1)) (hq : pc + 1 = q) (kk : zJ p l e R s m args below meth c cc nL own z cells slots (wx z gm) fin ri Q q lv (vr z 70 (some (1 + ix.toNatClampNeg)) :: st) g M) : zJ p l e R s m args below meth c cc nL own z cells slots (wx z gm) fin ri Q pc lv (.int ix :: .ref (za z 82 i) :: st) g (gd (inb ix 2 = true) M) := j_aald (t := 2) (n := 2) (r := some (1 + ix.toNatClampNeg)) hi (cel_82 z g gm i) rfl (fun h => if_pos (Nat.not_le.mp fun q => h (Or.inr q))) d hq kk
theorem up_60 (z : zE) (x m : zG) (i j : Nat) (v : Int32) : ∀ a b, b < dm a → upc (wx z m x) 60 i (.inl (zc z 1, 2, .inl (upd (gi x 60 i) j v))) a b = wx z m (ui x 60 i j v) a b := by
  intro a b hb
  by_cases hab : a = 60 ∧ b = i
  · rw [upc, if_pos hab, upd_row]; obtain ⟨rfl, rfl⟩ := hab; rfl
  · rw [upc, if_neg hab]
    rcases dm_cases hb with rfl | rfl | rfl | rfl | rfl | rfl | rfl | rfl | rfl | rfl | rfl | rfl | rfl | rfl | rfl | rfl | rfl | rfl | rfl | rfl | rfl | rfl | rfl | rfl | rfl | rfl | rfl | rfl | rfl | rfl | rfl | rfl | rfl | rfl | rfl | rfl | rfl | rfl <;> first | rfl | (show cel _ _ _ _ _ = cel _ _ _ _ _; rw [cel_60, cel_60, gi_row_ne hab])
theorem a60_len (hi : i < dm 60) (d : decode cc pc = .ok (.arraylength, 1)) (hq : pc + 1 = q) (kk : zJ p l e R s m args below meth c cc nL own z cells slots (wx z gm) fin ri Q q lv (.int 2 :: st) g M) : zJ p l e R s m args below meth c cc nL own z cells slots (wx z gm) fin ri Q pc lv (.ref (za z 60 i) :: st) g M := j_alen (t := 1) (n := 2) hi (cel_60 z g gm i) rfl rfl d hq kk
theorem a60_ld {ix : Int32} (hi : i < dm 60) (d : decode cc pc = .ok (.baload, 1)) (hq : pc + 1 = q) (kk : zJ p l e R s m args below meth c cc nL own z cells slots (wx z gm) fin ri Q q lv (.int (gi g 60 i ix.toNatClampNeg) :: st) g M) : zJ p l e R s m args below meth c cc nL own z cells slots (wx z gm) fin ri Q pc lv (.int ix :: .ref (za z 60 i) :: st) g (gd (inb ix 2 = true) M) := j_zald hi (cel_60 z g gm i) d hq kk
theorem a60_st {ix x : Int32} (hx : vp_nar .boolean x = x) (hi : i < dm 60) (d : decode cc pc = .ok (.bastore, 1)) (hq : pc + 1 = q) (kk : ∀ g1, zJ p l e R s m args below meth c cc nL own z cells slots (wx z gm) fin ri Q q lv st g1 (F g1)) : zJ p l e R s m args below meth c cc nL own z cells slots (wx z gm) fin ri Q pc lv (.int x :: .int ix :: .ref (za z 60 i) :: st) g (gd (inb ix 2 = true) (bd (ui g 60 i ix.toNatClampNeg x) F)) := j_zast hi (cel_60 z g gm i) (by rw [hx]; exact up_60 z g gm i _ x) d hq kk
end FLDAx
section FLDAm
variable {p : Program} {l : Launch} {e : Env} {R : Room} {s : State} {m : MethodId} {args : Array Value} {below : List Frame} {meth : Method} {c : Code} {cc : ByteArray} {nL : Nat} {own host : String} {z : zE} {cells slots : Nat} {ρ : Type} {gm gx : zG} {fin : ρ → zG → List Value → Prop} {ri : Instr} {Q : ρ → State → Prop} {pc q i idx : Nat} {lv : List (Nat × Value)} {st : List Value} {g : zG} {M : Option ρ} {F : zG → Option ρ}
theorem am_ld {k n : Nat} {ix : Int32} (hK : isM k) (hn : ln k = n) (hi : i < dm k) (d : decode cc pc = .ok (.iaload, 1)) (hq : pc + 1 = q) (kk : zJ p l e R s m args below meth c cc nL own z cells slots (wm z gx) fin ri Q q lv (.int (gi g k i ix.toNatClampNeg) :: st) g M) : zJ p l e R s m args below meth c cc nL own z cells slots (wm z gx) fin ri Q pc lv (.int ix :: .ref (za z k i) :: st) g (gd (inb ix n = true) M) := by
  subst hn
  exact j_iald hi (cel_m hK) d hq kk
theorem am_st {k n : Nat} {ix x : Int32} (hK : isM k) (hn : ln k = n) (hi : i < dm k) (d : decode cc pc = .ok (.iastore, 1)) (hq : pc + 1 = q) (kk : ∀ g1, zJ p l e R s m args below meth c cc nL own z cells slots (wm z gx) fin ri Q q lv st g1 (F g1)) : zJ p l e R s m args below meth c cc nL own z cells slots (wm z gx) fin ri Q pc lv (.int x :: .int ix :: .ref (za z k i) :: st) g (gd (inb ix n = true) (bd (ui g k i ix.toNatClampNeg x) F)) := by
  subst hn
  exact j_iast hi (cel_m hK) (up_m hK) d hq kk
theorem am_len {k : Nat} {v : Int32} (hK : isM k) (hv : Int32.ofNat (ln k) = v) (hi : i < dm k) (d : decode cc pc = .ok (.arraylength, 1)) (hq : pc + 1 = q) (kk : zJ p l e R s m args below meth c cc nL own z cells slots (wm z gx) fin ri Q q lv (.int v :: st) g M) : zJ p l e R s m args below meth c cc nL own z cells slots (wm z gx) fin ri Q pc lv (.ref (za z k i) :: st) g M := j_alen (t := 0) hi (cel_m hK) rfl hv d hq kk
end FLDAm
end
