-- ===== PART A: goes FIRST, ahead of the names: the tables' words, and 'selects' of the private methods out of them =====
/-- a private method of a class that the tables say can be made, by its rows of tables_1 -/
def lw_okq (q : MethodName × Nat) : Prop := (q.1.cls ≠ "java/lang/invoke/MethodHandle" ∧ q.1.cls ≠ "java/lang/invoke/VarHandle") ∧ Cond.instantiable q.1.cls q.2 ∈ tables_1 ∧ Cond.privateMethod q.1 ∈ tables_1 ∧ Cond.instanceMethod q.1 ∈ tables_1
theorem lw_p0 : lw_okq (⟨"CopierJobs$Plan", "untell", "()V"⟩, 9) := ⟨⟨by decide +kernel, by decide +kernel⟩, List.mem_of_getElem? (i := 140) (by decide +kernel), List.mem_of_getElem? (i := 185) (by decide +kernel), List.mem_of_getElem? (i := 186) (by decide +kernel)⟩
theorem lw_p1 : lw_okq (⟨"CopierJobs$Text", "readLetters", "()V"⟩, 6) := ⟨⟨by decide +kernel, by decide +kernel⟩, List.mem_of_getElem? (i := 21) (by decide +kernel), List.mem_of_getElem? (i := 311) (by decide +kernel), List.mem_of_getElem? (i := 312) (by decide +kernel)⟩
theorem lw_p2 : lw_okq (⟨"CopierJobs$Text", "readNumber", "()V"⟩, 6) := ⟨⟨by decide +kernel, by decide +kernel⟩, List.mem_of_getElem? (i := 21) (by decide +kernel), List.mem_of_getElem? (i := 318) (by decide +kernel), List.mem_of_getElem? (i := 319) (by decide +kernel)⟩
theorem lw_p3 : lw_okq (⟨"CopierJobs$Plan", "readItem", "(LCopierJobs$Text;)Z"⟩, 9) := ⟨⟨by decide +kernel, by decide +kernel⟩, List.mem_of_getElem? (i := 140) (by decide +kernel), List.mem_of_getElem? (i := 325) (by decide +kernel), List.mem_of_getElem? (i := 326) (by decide +kernel)⟩
theorem lw_p4 : lw_okq (⟨"CopierJobs$Plan", "readNumbers", "(LCopierJobs$Text;[I[I)Z"⟩, 9) := ⟨⟨by decide +kernel, by decide +kernel⟩, List.mem_of_getElem? (i := 140) (by decide +kernel), List.mem_of_getElem? (i := 333) (by decide +kernel), List.mem_of_getElem? (i := 334) (by decide +kernel)⟩
theorem lw_p5 : lw_okq (⟨"CopierJobs$Plan", "tellTrays", "()Z"⟩, 9) := ⟨⟨by decide +kernel, by decide +kernel⟩, List.mem_of_getElem? (i := 140) (by decide +kernel), List.mem_of_getElem? (i := 339) (by decide +kernel), List.mem_of_getElem? (i := 340) (by decide +kernel)⟩
theorem lw_p6 : lw_okq (⟨"CopierJobs$Plan", "tellToner", "()Z"⟩, 9) := ⟨⟨by decide +kernel, by decide +kernel⟩, List.mem_of_getElem? (i := 140) (by decide +kernel), List.mem_of_getElem? (i := 348) (by decide +kernel), List.mem_of_getElem? (i := 349) (by decide +kernel)⟩
theorem lw_p7 : lw_okq (⟨"CopierJobs$Plan", "tellBins", "()Z"⟩, 9) := ⟨⟨by decide +kernel, by decide +kernel⟩, List.mem_of_getElem? (i := 140) (by decide +kernel), List.mem_of_getElem? (i := 356) (by decide +kernel), List.mem_of_getElem? (i := 357) (by decide +kernel)⟩
theorem lw_p8 : lw_okq (⟨"CopierJobs$Plan", "tellJob", "()Z"⟩, 9) := ⟨⟨by decide +kernel, by decide +kernel⟩, List.mem_of_getElem? (i := 140) (by decide +kernel), List.mem_of_getElem? (i := 362) (by decide +kernel), List.mem_of_getElem? (i := 363) (by decide +kernel)⟩
theorem lw_p9 : lw_okq (⟨"CopierJobs", "endsIn", "(I)I"⟩, 9) := ⟨⟨by decide +kernel, by decide +kernel⟩, List.mem_of_getElem? (i := 13) (by decide +kernel), List.mem_of_getElem? (i := 401) (by decide +kernel), List.mem_of_getElem? (i := 402) (by decide +kernel)⟩
theorem lw_p10 : lw_okq (⟨"CopierJobs$Now", "bringSheet", "(LCopierJobs$Plan;LCopierJobs$Job;I)V"⟩, 9) := ⟨⟨by decide +kernel, by decide +kernel⟩, List.mem_of_getElem? (i := 57) (by decide +kernel), List.mem_of_getElem? (i := 445) (by decide +kernel), List.mem_of_getElem? (i := 446) (by decide +kernel)⟩
theorem lw_p11 : lw_okq (⟨"CopierJobs$Course", "knownAt", "(I)LCopierJobs$Now;"⟩, 4) := ⟨⟨by decide +kernel, by decide +kernel⟩, List.mem_of_getElem? (i := 51) (by decide +kernel), List.mem_of_getElem? (i := 519) (by decide +kernel), List.mem_of_getElem? (i := 520) (by decide +kernel)⟩
theorem lw_p12 : lw_okq (⟨"CopierJobs", "shortestBut", "(I)I"⟩, 9) := ⟨⟨by decide +kernel, by decide +kernel⟩, List.mem_of_getElem? (i := 13) (by decide +kernel), List.mem_of_getElem? (i := 577) (by decide +kernel), List.mem_of_getElem? (i := 578) (by decide +kernel)⟩
theorem lw_p13 : lw_okq (⟨"CopierJobs$Seen", "fits", "(LCopierJobs$Job;)Z"⟩, 5) := ⟨⟨by decide +kernel, by decide +kernel⟩, List.mem_of_getElem? (i := 115) (by decide +kernel), List.mem_of_getElem? (i := 616) (by decide +kernel), List.mem_of_getElem? (i := 617) (by decide +kernel)⟩
theorem lw_p14 : lw_okq (⟨"CopierJobs", "worthAs", "(ILCopierJobs$Job;II)I"⟩, 9) := ⟨⟨by decide +kernel, by decide +kernel⟩, List.mem_of_getElem? (i := 13) (by decide +kernel), List.mem_of_getElem? (i := 646) (by decide +kernel), List.mem_of_getElem? (i := 647) (by decide +kernel)⟩
theorem lw_p15 : lw_okq (⟨"CopierJobs", "imageAt", "(I)LCopierJobs$Course;"⟩, 9) := ⟨⟨by decide +kernel, by decide +kernel⟩, List.mem_of_getElem? (i := 13) (by decide +kernel), List.mem_of_getElem? (i := 656) (by decide +kernel), List.mem_of_getElem? (i := 657) (by decide +kernel)⟩
def lw_privs_1 : List (MethodName × Nat) := [(⟨"CopierJobs$Plan", "untell", "()V"⟩, 9), (⟨"CopierJobs$Text", "readLetters", "()V"⟩, 6), (⟨"CopierJobs$Text", "readNumber", "()V"⟩, 6), (⟨"CopierJobs$Plan", "readItem", "(LCopierJobs$Text;)Z"⟩, 9), (⟨"CopierJobs$Plan", "readNumbers", "(LCopierJobs$Text;[I[I)Z"⟩, 9), (⟨"CopierJobs$Plan", "tellTrays", "()Z"⟩, 9), (⟨"CopierJobs$Plan", "tellToner", "()Z"⟩, 9), (⟨"CopierJobs$Plan", "tellBins", "()Z"⟩, 9), (⟨"CopierJobs$Plan", "tellJob", "()Z"⟩, 9), (⟨"CopierJobs", "endsIn", "(I)I"⟩, 9), (⟨"CopierJobs$Now", "bringSheet", "(LCopierJobs$Plan;LCopierJobs$Job;I)V"⟩, 9), (⟨"CopierJobs$Course", "knownAt", "(I)LCopierJobs$Now;"⟩, 4), (⟨"CopierJobs", "shortestBut", "(I)I"⟩, 9), (⟨"CopierJobs$Seen", "fits", "(LCopierJobs$Job;)Z"⟩, 5), (⟨"CopierJobs", "worthAs", "(ILCopierJobs$Job;II)I"⟩, 9), (⟨"CopierJobs", "imageAt", "(I)LCopierJobs$Course;"⟩, 9)]
theorem lw_r1 : ∀ q ∈ lw_privs_1, lw_okq q := List.forall_mem_cons.mpr ⟨lw_p0, List.forall_mem_cons.mpr ⟨lw_p1, List.forall_mem_cons.mpr ⟨lw_p2, List.forall_mem_cons.mpr ⟨lw_p3, List.forall_mem_cons.mpr ⟨lw_p4, List.forall_mem_cons.mpr ⟨lw_p5, List.forall_mem_cons.mpr ⟨lw_p6, List.forall_mem_cons.mpr ⟨lw_p7, List.forall_mem_cons.mpr ⟨lw_p8, List.forall_mem_cons.mpr ⟨lw_p9, List.forall_mem_cons.mpr ⟨lw_p10, List.forall_mem_cons.mpr ⟨lw_p11, List.forall_mem_cons.mpr ⟨lw_p12, List.forall_mem_cons.mpr ⟨lw_p13, List.forall_mem_cons.mpr ⟨lw_p14, List.forall_mem_cons.mpr ⟨lw_p15, fun _ h => absurd h List.not_mem_nil⟩⟩⟩⟩⟩⟩⟩⟩⟩⟩⟩⟩⟩⟩⟩⟩
theorem lw_p16 : lw_okq (⟨"CopierJobsModel", "begin", "()V"⟩, 28) := ⟨⟨by decide +kernel, by decide +kernel⟩, List.mem_of_getElem? (i := 676) (by decide +kernel), List.mem_of_getElem? (i := 682) (by decide +kernel), List.mem_of_getElem? (i := 683) (by decide +kernel)⟩
theorem lw_p17 : lw_okq (⟨"CopierJobsModel", "next", "()V"⟩, 28) := ⟨⟨by decide +kernel, by decide +kernel⟩, List.mem_of_getElem? (i := 676) (by decide +kernel), List.mem_of_getElem? (i := 787) (by decide +kernel), List.mem_of_getElem? (i := 788) (by decide +kernel)⟩
theorem lw_p18 : lw_okq (⟨"CopierJobsModel", "letter", "()I"⟩, 28) := ⟨⟨by decide +kernel, by decide +kernel⟩, List.mem_of_getElem? (i := 676) (by decide +kernel), List.mem_of_getElem? (i := 791) (by decide +kernel), List.mem_of_getElem? (i := 792) (by decide +kernel)⟩
theorem lw_p19 : lw_okq (⟨"CopierJobsModel", "readNumber", "()V"⟩, 28) := ⟨⟨by decide +kernel, by decide +kernel⟩, List.mem_of_getElem? (i := 676) (by decide +kernel), List.mem_of_getElem? (i := 797) (by decide +kernel), List.mem_of_getElem? (i := 798) (by decide +kernel)⟩
theorem lw_p20 : lw_okq (⟨"CopierJobsModel", "readLetters", "()V"⟩, 28) := ⟨⟨by decide +kernel, by decide +kernel⟩, List.mem_of_getElem? (i := 676) (by decide +kernel), List.mem_of_getElem? (i := 803) (by decide +kernel), List.mem_of_getElem? (i := 804) (by decide +kernel)⟩
theorem lw_p21 : lw_okq (⟨"CopierJobsModel", "readItem", "()Z"⟩, 28) := ⟨⟨by decide +kernel, by decide +kernel⟩, List.mem_of_getElem? (i := 676) (by decide +kernel), List.mem_of_getElem? (i := 807) (by decide +kernel), List.mem_of_getElem? (i := 808) (by decide +kernel)⟩
theorem lw_p22 : lw_okq (⟨"CopierJobsModel", "readTrays", "()Z"⟩, 28) := ⟨⟨by decide +kernel, by decide +kernel⟩, List.mem_of_getElem? (i := 676) (by decide +kernel), List.mem_of_getElem? (i := 811) (by decide +kernel), List.mem_of_getElem? (i := 812) (by decide +kernel)⟩
theorem lw_p23 : lw_okq (⟨"CopierJobsModel", "takesNumber", "(II)Z"⟩, 28) := ⟨⟨by decide +kernel, by decide +kernel⟩, List.mem_of_getElem? (i := 676) (by decide +kernel), List.mem_of_getElem? (i := 815) (by decide +kernel), List.mem_of_getElem? (i := 816) (by decide +kernel)⟩
theorem lw_p24 : lw_okq (⟨"CopierJobsModel", "readJob", "()Z"⟩, 28) := ⟨⟨by decide +kernel, by decide +kernel⟩, List.mem_of_getElem? (i := 676) (by decide +kernel), List.mem_of_getElem? (i := 819) (by decide +kernel), List.mem_of_getElem? (i := 820) (by decide +kernel)⟩
theorem lw_p25 : lw_okq (⟨"CopierJobsModel", "ends", "()Z"⟩, 28) := ⟨⟨by decide +kernel, by decide +kernel⟩, List.mem_of_getElem? (i := 676) (by decide +kernel), List.mem_of_getElem? (i := 823) (by decide +kernel), List.mem_of_getElem? (i := 824) (by decide +kernel)⟩
theorem lw_p26 : lw_okq (⟨"CopierJobsModel", "isJob", "(I)Z"⟩, 28) := ⟨⟨by decide +kernel, by decide +kernel⟩, List.mem_of_getElem? (i := 676) (by decide +kernel), List.mem_of_getElem? (i := 831) (by decide +kernel), List.mem_of_getElem? (i := 832) (by decide +kernel)⟩
theorem lw_p27 : lw_okq (⟨"CopierJobsModel", "allOf", "(I)I"⟩, 28) := ⟨⟨by decide +kernel, by decide +kernel⟩, List.mem_of_getElem? (i := 676) (by decide +kernel), List.mem_of_getElem? (i := 835) (by decide +kernel), List.mem_of_getElem? (i := 836) (by decide +kernel)⟩
theorem lw_p28 : lw_okq (⟨"CopierJobsModel", "leaves", "(I)I"⟩, 28) := ⟨⟨by decide +kernel, by decide +kernel⟩, List.mem_of_getElem? (i := 676) (by decide +kernel), List.mem_of_getElem? (i := 839) (by decide +kernel), List.mem_of_getElem? (i := 840) (by decide +kernel)⟩
theorem lw_p29 : lw_okq (⟨"CopierJobsModel", "copyOf", "(II)I"⟩, 28) := ⟨⟨by decide +kernel, by decide +kernel⟩, List.mem_of_getElem? (i := 676) (by decide +kernel), List.mem_of_getElem? (i := 843) (by decide +kernel), List.mem_of_getElem? (i := 844) (by decide +kernel)⟩
theorem lw_p30 : lw_okq (⟨"CopierJobsModel", "frontOf", "(II)I"⟩, 28) := ⟨⟨by decide +kernel, by decide +kernel⟩, List.mem_of_getElem? (i := 676) (by decide +kernel), List.mem_of_getElem? (i := 847) (by decide +kernel), List.mem_of_getElem? (i := 848) (by decide +kernel)⟩
theorem lw_p31 : lw_okq (⟨"CopierJobsModel", "leafOf", "(II)I"⟩, 28) := ⟨⟨by decide +kernel, by decide +kernel⟩, List.mem_of_getElem? (i := 676) (by decide +kernel), List.mem_of_getElem? (i := 851) (by decide +kernel), List.mem_of_getElem? (i := 852) (by decide +kernel)⟩
def lw_privs_2 : List (MethodName × Nat) := [(⟨"CopierJobsModel", "begin", "()V"⟩, 28), (⟨"CopierJobsModel", "next", "()V"⟩, 28), (⟨"CopierJobsModel", "letter", "()I"⟩, 28), (⟨"CopierJobsModel", "readNumber", "()V"⟩, 28), (⟨"CopierJobsModel", "readLetters", "()V"⟩, 28), (⟨"CopierJobsModel", "readItem", "()Z"⟩, 28), (⟨"CopierJobsModel", "readTrays", "()Z"⟩, 28), (⟨"CopierJobsModel", "takesNumber", "(II)Z"⟩, 28), (⟨"CopierJobsModel", "readJob", "()Z"⟩, 28), (⟨"CopierJobsModel", "ends", "()Z"⟩, 28), (⟨"CopierJobsModel", "isJob", "(I)Z"⟩, 28), (⟨"CopierJobsModel", "allOf", "(I)I"⟩, 28), (⟨"CopierJobsModel", "leaves", "(I)I"⟩, 28), (⟨"CopierJobsModel", "copyOf", "(II)I"⟩, 28), (⟨"CopierJobsModel", "frontOf", "(II)I"⟩, 28), (⟨"CopierJobsModel", "leafOf", "(II)I"⟩, 28)]
theorem lw_r2 : ∀ q ∈ lw_privs_2, lw_okq q := List.forall_mem_cons.mpr ⟨lw_p16, List.forall_mem_cons.mpr ⟨lw_p17, List.forall_mem_cons.mpr ⟨lw_p18, List.forall_mem_cons.mpr ⟨lw_p19, List.forall_mem_cons.mpr ⟨lw_p20, List.forall_mem_cons.mpr ⟨lw_p21, List.forall_mem_cons.mpr ⟨lw_p22, List.forall_mem_cons.mpr ⟨lw_p23, List.forall_mem_cons.mpr ⟨lw_p24, List.forall_mem_cons.mpr ⟨lw_p25, List.forall_mem_cons.mpr ⟨lw_p26, List.forall_mem_cons.mpr ⟨lw_p27, List.forall_mem_cons.mpr ⟨lw_p28, List.forall_mem_cons.mpr ⟨lw_p29, List.forall_mem_cons.mpr ⟨lw_p30, List.forall_mem_cons.mpr ⟨lw_p31, fun _ h => absurd h List.not_mem_nil⟩⟩⟩⟩⟩⟩⟩⟩⟩⟩⟩⟩⟩⟩⟩⟩
theorem lw_p32 : lw_okq (⟨"CopierJobsModel", "backOf", "(II)I"⟩, 28) := ⟨⟨by decide +kernel, by decide +kernel⟩, List.mem_of_getElem? (i := 676) (by decide +kernel), List.mem_of_getElem? (i := 855) (by decide +kernel), List.mem_of_getElem? (i := 856) (by decide +kernel)⟩
theorem lw_p33 : lw_okq (⟨"CopierJobsModel", "binOf", "(II)I"⟩, 28) := ⟨⟨by decide +kernel, by decide +kernel⟩, List.mem_of_getElem? (i := 676) (by decide +kernel), List.mem_of_getElem? (i := 859) (by decide +kernel), List.mem_of_getElem? (i := 860) (by decide +kernel)⟩
theorem lw_p34 : lw_okq (⟨"CopierJobsModel", "isPage", "(II)Z"⟩, 28) := ⟨⟨by decide +kernel, by decide +kernel⟩, List.mem_of_getElem? (i := 676) (by decide +kernel), List.mem_of_getElem? (i := 867) (by decide +kernel), List.mem_of_getElem? (i := 868) (by decide +kernel)⟩
theorem lw_p35 : lw_okq (⟨"CopierJobsModel", "note", "()V"⟩, 28) := ⟨⟨by decide +kernel, by decide +kernel⟩, List.mem_of_getElem? (i := 676) (by decide +kernel), List.mem_of_getElem? (i := 876) (by decide +kernel), List.mem_of_getElem? (i := 877) (by decide +kernel)⟩
theorem lw_p36 : lw_okq (⟨"CopierJobsModel", "oneTick", "()I"⟩, 28) := ⟨⟨by decide +kernel, by decide +kernel⟩, List.mem_of_getElem? (i := 676) (by decide +kernel), List.mem_of_getElem? (i := 880) (by decide +kernel), List.mem_of_getElem? (i := 881) (by decide +kernel)⟩
theorem lw_p37 : lw_okq (⟨"CopierJobsModel", "stands", "()I"⟩, 28) := ⟨⟨by decide +kernel, by decide +kernel⟩, List.mem_of_getElem? (i := 676) (by decide +kernel), List.mem_of_getElem? (i := 884) (by decide +kernel), List.mem_of_getElem? (i := 885) (by decide +kernel)⟩
theorem lw_p38 : lw_okq (⟨"CopierJobsModel", "sidesOf", "(II)I"⟩, 28) := ⟨⟨by decide +kernel, by decide +kernel⟩, List.mem_of_getElem? (i := 676) (by decide +kernel), List.mem_of_getElem? (i := 888) (by decide +kernel), List.mem_of_getElem? (i := 889) (by decide +kernel)⟩
theorem lw_p39 : lw_okq (⟨"CopierJobsModel", "leaveAt", "(I)V"⟩, 28) := ⟨⟨by decide +kernel, by decide +kernel⟩, List.mem_of_getElem? (i := 676) (by decide +kernel), List.mem_of_getElem? (i := 892) (by decide +kernel), List.mem_of_getElem? (i := 893) (by decide +kernel)⟩
theorem lw_p40 : lw_okq (⟨"CopierJobsModel", "placeOf", "(I)I"⟩, 28) := ⟨⟨by decide +kernel, by decide +kernel⟩, List.mem_of_getElem? (i := 676) (by decide +kernel), List.mem_of_getElem? (i := 900) (by decide +kernel), List.mem_of_getElem? (i := 901) (by decide +kernel)⟩
theorem lw_p41 : lw_okq (⟨"CopierJobsModel", "inTicks", "(I)I"⟩, 28) := ⟨⟨by decide +kernel, by decide +kernel⟩, List.mem_of_getElem? (i := 676) (by decide +kernel), List.mem_of_getElem? (i := 931) (by decide +kernel), List.mem_of_getElem? (i := 932) (by decide +kernel)⟩
theorem lw_p42 : lw_okq (⟨"CopierJobsModel", "leftOf", "(I)I"⟩, 28) := ⟨⟨by decide +kernel, by decide +kernel⟩, List.mem_of_getElem? (i := 676) (by decide +kernel), List.mem_of_getElem? (i := 935) (by decide +kernel), List.mem_of_getElem? (i := 936) (by decide +kernel)⟩
theorem lw_p43 : lw_okq (⟨"CopierJobsModel", "wantsOf", "(I)I"⟩, 28) := ⟨⟨by decide +kernel, by decide +kernel⟩, List.mem_of_getElem? (i := 676) (by decide +kernel), List.mem_of_getElem? (i := 946) (by decide +kernel), List.mem_of_getElem? (i := 947) (by decide +kernel)⟩
theorem lw_p44 : lw_okq (⟨"CopierJobsModel", "inBins", "()I"⟩, 28) := ⟨⟨by decide +kernel, by decide +kernel⟩, List.mem_of_getElem? (i := 676) (by decide +kernel), List.mem_of_getElem? (i := 958) (by decide +kernel), List.mem_of_getElem? (i := 959) (by decide +kernel)⟩
theorem lw_p45 : lw_okq (⟨"CopierJobsModel", "wantsInk", "()I"⟩, 28) := ⟨⟨by decide +kernel, by decide +kernel⟩, List.mem_of_getElem? (i := 676) (by decide +kernel), List.mem_of_getElem? (i := 962) (by decide +kernel), List.mem_of_getElem? (i := 963) (by decide +kernel)⟩
theorem lw_p46 : lw_okq (⟨"CopierJobsModel", "shortest", "(I)I"⟩, 28) := ⟨⟨by decide +kernel, by decide +kernel⟩, List.mem_of_getElem? (i := 676) (by decide +kernel), List.mem_of_getElem? (i := 970) (by decide +kernel), List.mem_of_getElem? (i := 971) (by decide +kernel)⟩
theorem lw_p47 : lw_okq (⟨"CopierJobsModel", "hasInFront", "(III)Z"⟩, 28) := ⟨⟨by decide +kernel, by decide +kernel⟩, List.mem_of_getElem? (i := 676) (by decide +kernel), List.mem_of_getElem? (i := 996) (by decide +kernel), List.mem_of_getElem? (i := 997) (by decide +kernel)⟩
def lw_privs_3 : List (MethodName × Nat) := [(⟨"CopierJobsModel", "backOf", "(II)I"⟩, 28), (⟨"CopierJobsModel", "binOf", "(II)I"⟩, 28), (⟨"CopierJobsModel", "isPage", "(II)Z"⟩, 28), (⟨"CopierJobsModel", "note", "()V"⟩, 28), (⟨"CopierJobsModel", "oneTick", "()I"⟩, 28), (⟨"CopierJobsModel", "stands", "()I"⟩, 28), (⟨"CopierJobsModel", "sidesOf", "(II)I"⟩, 28), (⟨"CopierJobsModel", "leaveAt", "(I)V"⟩, 28), (⟨"CopierJobsModel", "placeOf", "(I)I"⟩, 28), (⟨"CopierJobsModel", "inTicks", "(I)I"⟩, 28), (⟨"CopierJobsModel", "leftOf", "(I)I"⟩, 28), (⟨"CopierJobsModel", "wantsOf", "(I)I"⟩, 28), (⟨"CopierJobsModel", "inBins", "()I"⟩, 28), (⟨"CopierJobsModel", "wantsInk", "()I"⟩, 28), (⟨"CopierJobsModel", "shortest", "(I)I"⟩, 28), (⟨"CopierJobsModel", "hasInFront", "(III)Z"⟩, 28)]
theorem lw_r3 : ∀ q ∈ lw_privs_3, lw_okq q := List.forall_mem_cons.mpr ⟨lw_p32, List.forall_mem_cons.mpr ⟨lw_p33, List.forall_mem_cons.mpr ⟨lw_p34, List.forall_mem_cons.mpr ⟨lw_p35, List.forall_mem_cons.mpr ⟨lw_p36, List.forall_mem_cons.mpr ⟨lw_p37, List.forall_mem_cons.mpr ⟨lw_p38, List.forall_mem_cons.mpr ⟨lw_p39, List.forall_mem_cons.mpr ⟨lw_p40, List.forall_mem_cons.mpr ⟨lw_p41, List.forall_mem_cons.mpr ⟨lw_p42, List.forall_mem_cons.mpr ⟨lw_p43, List.forall_mem_cons.mpr ⟨lw_p44, List.forall_mem_cons.mpr ⟨lw_p45, List.forall_mem_cons.mpr ⟨lw_p46, List.forall_mem_cons.mpr ⟨lw_p47, fun _ h => absurd h List.not_mem_nil⟩⟩⟩⟩⟩⟩⟩⟩⟩⟩⟩⟩⟩⟩⟩⟩
theorem lw_p48 : lw_okq (⟨"CopierJobsModel", "asJob", "(I)I"⟩, 28) := ⟨⟨by decide +kernel, by decide +kernel⟩, List.mem_of_getElem? (i := 676) (by decide +kernel), List.mem_of_getElem? (i := 1011) (by decide +kernel), List.mem_of_getElem? (i := 1012) (by decide +kernel)⟩
theorem lw_p49 : lw_okq (⟨"CopierJobsModel", "asMemo", "(I)I"⟩, 28) := ⟨⟨by decide +kernel, by decide +kernel⟩, List.mem_of_getElem? (i := 676) (by decide +kernel), List.mem_of_getElem? (i := 1015) (by decide +kernel), List.mem_of_getElem? (i := 1016) (by decide +kernel)⟩
theorem lw_p50 : lw_okq (⟨"CopierJobsModel", "asReport", "(I)I"⟩, 28) := ⟨⟨by decide +kernel, by decide +kernel⟩, List.mem_of_getElem? (i := 676) (by decide +kernel), List.mem_of_getElem? (i := 1020) (by decide +kernel), List.mem_of_getElem? (i := 1021) (by decide +kernel)⟩
theorem lw_p51 : lw_okq (⟨"CopierJobsModel", "asNotice", "(I)I"⟩, 28) := ⟨⟨by decide +kernel, by decide +kernel⟩, List.mem_of_getElem? (i := 676) (by decide +kernel), List.mem_of_getElem? (i := 1025) (by decide +kernel), List.mem_of_getElem? (i := 1026) (by decide +kernel)⟩
theorem lw_p52 : lw_okq (⟨"CopierJobsModel", "asLedger", "(I)I"⟩, 28) := ⟨⟨by decide +kernel, by decide +kernel⟩, List.mem_of_getElem? (i := 676) (by decide +kernel), List.mem_of_getElem? (i := 1030) (by decide +kernel), List.mem_of_getElem? (i := 1031) (by decide +kernel)⟩
theorem lw_p53 : lw_okq (⟨"CopierJobsModel", "asFlyer", "(I)I"⟩, 28) := ⟨⟨by decide +kernel, by decide +kernel⟩, List.mem_of_getElem? (i := 676) (by decide +kernel), List.mem_of_getElem? (i := 1035) (by decide +kernel), List.mem_of_getElem? (i := 1036) (by decide +kernel)⟩
def lw_privs_4 : List (MethodName × Nat) := [(⟨"CopierJobsModel", "asJob", "(I)I"⟩, 28), (⟨"CopierJobsModel", "asMemo", "(I)I"⟩, 28), (⟨"CopierJobsModel", "asReport", "(I)I"⟩, 28), (⟨"CopierJobsModel", "asNotice", "(I)I"⟩, 28), (⟨"CopierJobsModel", "asLedger", "(I)I"⟩, 28), (⟨"CopierJobsModel", "asFlyer", "(I)I"⟩, 28)]
theorem lw_r4 : ∀ q ∈ lw_privs_4, lw_okq q := List.forall_mem_cons.mpr ⟨lw_p48, List.forall_mem_cons.mpr ⟨lw_p49, List.forall_mem_cons.mpr ⟨lw_p50, List.forall_mem_cons.mpr ⟨lw_p51, List.forall_mem_cons.mpr ⟨lw_p52, List.forall_mem_cons.mpr ⟨lw_p53, fun _ h => absurd h List.not_mem_nil⟩⟩⟩⟩⟩⟩
def lw_privs : List (MethodName × Nat) := lw_privs_1 ++ (lw_privs_2 ++ (lw_privs_3 ++ (lw_privs_4)))
def lw_tbl : List Cond := k2_sels lw_privs ++ tables_1
theorem lw_privs_ok : ∀ q ∈ lw_privs, lw_okq q := by
  show ∀ q ∈ lw_privs_1 ++ (lw_privs_2 ++ (lw_privs_3 ++ (lw_privs_4))), lw_okq q
  exact List.forall_mem_append.mpr ⟨lw_r1, List.forall_mem_append.mpr ⟨lw_r2, List.forall_mem_append.mpr ⟨lw_r3, lw_r4⟩⟩⟩
def RX0 : String := "CopierJobs$Course"
def TX0 : u_T := fun k => match k with
  | 0 => ("CopierJobs$Course", "now", "LCopierJobs$Now;", true)
  | 1 => ("CopierJobs$Course", "known", "[LCopierJobs$Now;", true)
  | 2 => ("CopierJobs$Course", "oldest", "I", false)
  | _ => ("CopierJobs$Course", "knownCount", "I", false)
def tyX0 : Nat → FieldType := fun k => match k with
  | 0 => .object "CopierJobs$Now"
  | 1 => .array (.object "CopierJobs$Now")
  | 2 => .int
  | _ => .int
abbrev wsX00 : List Cond := u_ws RX0 TX0 4
theorem nmX0 : ∀ a, a < 4 → ∀ b, b < 4 → a ≠ b → (TX0 a).2.1 ≠ (TX0 b).2.1 := by decide +kernel
theorem tyX0_ok : ∀ k, k < 4 → parseFieldDescriptor (TX0 k).2.2.1 = some (tyX0 k) := by decide +kernel
abbrev cX0_init : ByteArray := prog_2_method_1_code
def yX0_init : MethodName := ⟨RX0, "<init>", "()V"⟩
abbrev cX0_begin : ByteArray := prog_2_method_2_code
def yX0_begin : MethodName := ⟨RX0, "begin", "(LCopierJobs$Plan;)V"⟩
abbrev cX0_knownAt : ByteArray := prog_2_method_3_code
def yX0_knownAt : MethodName := ⟨RX0, "knownAt", "(I)LCopierJobs$Now;"⟩
abbrev cX0_remember : ByteArray := prog_2_method_4_code
def yX0_remember : MethodName := ⟨RX0, "remember", "()V"⟩
abbrev cX0_takeBack : ByteArray := prog_2_method_5_code
def yX0_takeBack : MethodName := ⟨RX0, "takeBack", "()V"⟩
abbrev cX0_copyFrom : ByteArray := prog_2_method_6_code
def yX0_copyFrom : MethodName := ⟨RX0, "copyFrom", "(LCopierJobs$Course;)V"⟩
def RX1 : String := "CopierJobs$Job"
def TX1 : u_T := fun k => match k with
  | 0 => ("CopierJobs$Job", "pages", "I", false)
  | 1 => ("CopierJobs$Job", "copies", "I", false)
  | 2 => ("CopierJobs$Job", "both", "Z", false)
  | 3 => ("CopierJobs$Job", "sorted", "Z", false)
  | 4 => ("CopierJobs$Job", "tray", "I", false)
  | 5 => ("CopierJobs$Job", "leaves", "I", false)
  | _ => ("CopierJobs$Job", "run", "I", false)
def tyX1 : Nat → FieldType := fun k => match k with
  | 0 => .int
  | 1 => .int
  | 2 => .boolean
  | 3 => .boolean
  | 4 => .int
  | 5 => .int
  | _ => .int
abbrev wsX10 : List Cond := u_ws RX1 TX1 7
theorem nmX1 : ∀ a, a < 7 → ∀ b, b < 7 → a ≠ b → (TX1 a).2.1 ≠ (TX1 b).2.1 := by decide +kernel
theorem tyX1_ok : ∀ k, k < 7 → parseFieldDescriptor (TX1 k).2.2.1 = some (tyX1 k) := by decide +kernel
abbrev cX1_init : ByteArray := prog_3_method_1_code
def yX1_init : MethodName := ⟨RX1, "<init>", "()V"⟩
abbrev cX1_tell : ByteArray := prog_3_method_2_code
def yX1_tell : MethodName := ⟨RX1, "tell", "([I)V"⟩
abbrev cX1_all : ByteArray := prog_3_method_3_code
def yX1_all : MethodName := ⟨RX1, "all", "()I"⟩
abbrev cX1_hasSheet : ByteArray := prog_3_method_4_code
def yX1_hasSheet : MethodName := ⟨RX1, "hasSheet", "(I)Z"⟩
abbrev cX1_hasPage : ByteArray := prog_3_method_5_code
def yX1_hasPage : MethodName := ⟨RX1, "hasPage", "(I)Z"⟩
abbrev cX1_copyOf : ByteArray := prog_3_method_6_code
def yX1_copyOf : MethodName := ⟨RX1, "copyOf", "(I)I"⟩
abbrev cX1_leafOf : ByteArray := prog_3_method_7_code
def yX1_leafOf : MethodName := ⟨RX1, "leafOf", "(I)I"⟩
abbrev cX1_frontOf : ByteArray := prog_3_method_8_code
def yX1_frontOf : MethodName := ⟨RX1, "frontOf", "(I)I"⟩
abbrev cX1_backOf : ByteArray := prog_3_method_9_code
def yX1_backOf : MethodName := ⟨RX1, "backOf", "(I)I"⟩
abbrev cX1_sidesOf : ByteArray := prog_3_method_10_code
def yX1_sidesOf : MethodName := ⟨RX1, "sidesOf", "(I)I"⟩
abbrev cX1_sheetWith : ByteArray := prog_3_method_11_code
def yX1_sheetWith : MethodName := ⟨RX1, "sheetWith", "(II)I"⟩
def RX2 : String := "CopierJobs$Now"
def TX2 : u_T := fun k => match k with
  | 0 => ("CopierJobs$Now", "tick", "I", false)
  | 1 => ("CopierJobs$Now", "toner", "I", false)
  | 2 => ("CopierJobs$Now", "half", "Z", false)
  | 3 => ("CopierJobs$Now", "queued", "I", false)
  | 4 => ("CopierJobs$Now", "queue", "[I", true)
  | 5 => ("CopierJobs$Now", "made", "[I", true)
  | 6 => ("CopierJobs$Now", "ends", "[I", true)
  | 7 => ("CopierJobs$Now", "trays", "[I", true)
  | _ => ("CopierJobs$Now", "bins", "[I", true)
def tyX2 : Nat → FieldType := fun k => match k with
  | 0 => .int
  | 1 => .int
  | 2 => .boolean
  | 3 => .int
  | 4 => .array .int
  | 5 => .array .int
  | 6 => .array .int
  | 7 => .array .int
  | _ => .array .int
abbrev wsX20 : List Cond := u_ws RX2 TX2 9
theorem nmX2 : ∀ a, a < 9 → ∀ b, b < 9 → a ≠ b → (TX2 a).2.1 ≠ (TX2 b).2.1 := by decide +kernel
theorem tyX2_ok : ∀ k, k < 9 → parseFieldDescriptor (TX2 k).2.2.1 = some (tyX2 k) := by decide +kernel
abbrev cX2_init : ByteArray := prog_4_method_1_code
def yX2_init : MethodName := ⟨RX2, "<init>", "()V"⟩
abbrev cX2_begin : ByteArray := prog_4_method_2_code
def yX2_begin : MethodName := ⟨RX2, "begin", "(LCopierJobs$Plan;)V"⟩
abbrev cX2_copyFrom : ByteArray := prog_4_method_3_code
def yX2_copyFrom : MethodName := ⟨RX2, "copyFrom", "(LCopierJobs$Now;)V"⟩
abbrev cX2_madeOf : ByteArray := prog_4_method_4_code
def yX2_madeOf : MethodName := ⟨RX2, "madeOf", "(I)I"⟩
abbrev cX2_endOf : ByteArray := prog_4_method_5_code
def yX2_endOf : MethodName := ⟨RX2, "endOf", "(I)I"⟩
abbrev cX2_firstJob : ByteArray := prog_4_method_6_code
def yX2_firstJob : MethodName := ⟨RX2, "firstJob", "()I"⟩
abbrev cX2_placeOf : ByteArray := prog_4_method_7_code
def yX2_placeOf : MethodName := ⟨RX2, "placeOf", "(I)I"⟩
abbrev cX2_comeToHead : ByteArray := prog_4_method_8_code
def yX2_comeToHead : MethodName := ⟨RX2, "comeToHead", "(I)V"⟩
abbrev cX2_leaveQueue : ByteArray := prog_4_method_9_code
def yX2_leaveQueue : MethodName := ⟨RX2, "leaveQueue", "(I)V"⟩
abbrev cX2_whyStands : ByteArray := prog_4_method_10_code
def yX2_whyStands : MethodName := ⟨RX2, "whyStands", "(LCopierJobs$Plan;)I"⟩
abbrev cX2_passTick : ByteArray := prog_4_method_11_code
def yX2_passTick : MethodName := ⟨RX2, "passTick", "(LCopierJobs$Plan;)Z"⟩
abbrev cX2_bringSheet : ByteArray := prog_4_method_12_code
def yX2_bringSheet : MethodName := ⟨RX2, "bringSheet", "(LCopierJobs$Plan;LCopierJobs$Job;I)V"⟩
abbrev cX2_leftOf : ByteArray := prog_4_method_13_code
def yX2_leftOf : MethodName := ⟨RX2, "leftOf", "(LCopierJobs$Plan;I)I"⟩
abbrev cX2_sheetsInBins : ByteArray := prog_4_method_14_code
def yX2_sheetsInBins : MethodName := ⟨RX2, "sheetsInBins", "()I"⟩
abbrev cX2_trayWants : ByteArray := prog_4_method_15_code
def yX2_trayWants : MethodName := ⟨RX2, "trayWants", "(LCopierJobs$Plan;I)I"⟩
abbrev cX2_tonerWants : ByteArray := prog_4_method_16_code
def yX2_tonerWants : MethodName := ⟨RX2, "tonerWants", "(LCopierJobs$Plan;)I"⟩
def RX3 : String := "CopierJobs$Plan"
def TX3 : u_T := fun k => match k with
  | 0 => ("CopierJobs$Plan", "trays", "[I", true)
  | 1 => ("CopierJobs$Plan", "toner", "I", false)
  | 2 => ("CopierJobs$Plan", "bins", "I", false)
  | 3 => ("CopierJobs$Plan", "jobs", "[LCopierJobs$Job;", true)
  | 4 => ("CopierJobs$Plan", "jobCount", "I", false)
  | 5 => ("CopierJobs$Plan", "numbers", "[I", true)
  | 6 => ("CopierJobs$Plan", "traysTold", "Z", false)
  | 7 => ("CopierJobs$Plan", "tonerTold", "Z", false)
  | _ => ("CopierJobs$Plan", "binsTold", "Z", false)
def tyX3 : Nat → FieldType := fun k => match k with
  | 0 => .array .int
  | 1 => .int
  | 2 => .int
  | 3 => .array (.object "CopierJobs$Job")
  | 4 => .int
  | 5 => .array .int
  | 6 => .boolean
  | 7 => .boolean
  | _ => .boolean
abbrev wsX30 : List Cond := u_ws RX3 TX3 9
theorem nmX3 : ∀ a, a < 9 → ∀ b, b < 9 → a ≠ b → (TX3 a).2.1 ≠ (TX3 b).2.1 := by decide +kernel
theorem tyX3_ok : ∀ k, k < 9 → parseFieldDescriptor (TX3 k).2.2.1 = some (tyX3 k) := by decide +kernel
abbrev cX3_init : ByteArray := prog_5_method_1_code
def yX3_init : MethodName := ⟨RX3, "<init>", "()V"⟩
abbrev cX3_untell : ByteArray := prog_5_method_2_code
def yX3_untell : MethodName := ⟨RX3, "untell", "()V"⟩
abbrev cX3_jobAt : ByteArray := prog_5_method_3_code
def yX3_jobAt : MethodName := ⟨RX3, "jobAt", "(I)LCopierJobs$Job;"⟩
abbrev cX3_hasBin : ByteArray := prog_5_method_4_code
def yX3_hasBin : MethodName := ⟨RX3, "hasBin", "(I)Z"⟩
abbrev cX3_binOf : ByteArray := prog_5_method_5_code
def yX3_binOf : MethodName := ⟨RX3, "binOf", "(LCopierJobs$Job;I)I"⟩
abbrev cX3_readFrom : ByteArray := prog_5_method_6_code
def yX3_readFrom : MethodName := ⟨RX3, "readFrom", "(LCopierJobs$Text;)I"⟩
abbrev cX3_readItem : ByteArray := prog_5_method_7_code
def yX3_readItem : MethodName := ⟨RX3, "readItem", "(LCopierJobs$Text;)Z"⟩
abbrev cX3_readNumbers : ByteArray := prog_5_method_8_code
def yX3_readNumbers : MethodName := ⟨RX3, "readNumbers", "(LCopierJobs$Text;[I[I)Z"⟩
abbrev cX3_tellTrays : ByteArray := prog_5_method_9_code
def yX3_tellTrays : MethodName := ⟨RX3, "tellTrays", "()Z"⟩
abbrev cX3_tellToner : ByteArray := prog_5_method_10_code
def yX3_tellToner : MethodName := ⟨RX3, "tellToner", "()Z"⟩
abbrev cX3_tellBins : ByteArray := prog_5_method_11_code
def yX3_tellBins : MethodName := ⟨RX3, "tellBins", "()Z"⟩
abbrev cX3_tellJob : ByteArray := prog_5_method_12_code
def yX3_tellJob : MethodName := ⟨RX3, "tellJob", "()Z"⟩
def RX4 : String := "CopierJobs$Seen"
def TX4 : u_T := fun k => match k with
  | 0 => ("CopierJobs$Seen", "sheets", "[I", true)
  | 1 => ("CopierJobs$Seen", "pages", "[I", true)
  | 2 => ("CopierJobs$Seen", "there", "[I", true)
  | 3 => ("CopierJobs$Seen", "size", "I", false)
  | _ => ("CopierJobs$Seen", "withFront", "[I", true)
def tyX4 : Nat → FieldType := fun k => match k with
  | 0 => .array .int
  | 1 => .array .int
  | 2 => .array .int
  | 3 => .int
  | _ => .array .int
abbrev wsX40 : List Cond := u_ws RX4 TX4 5
theorem nmX4 : ∀ a, a < 5 → ∀ b, b < 5 → a ≠ b → (TX4 a).2.1 ≠ (TX4 b).2.1 := by decide +kernel
theorem tyX4_ok : ∀ k, k < 5 → parseFieldDescriptor (TX4 k).2.2.1 = some (tyX4 k) := by decide +kernel
abbrev cX4_init : ByteArray := prog_6_method_1_code
def yX4_init : MethodName := ⟨RX4, "<init>", "()V"⟩
abbrev cX4_add : ByteArray := prog_6_method_2_code
def yX4_add : MethodName := ⟨RX4, "add", "(III)I"⟩
abbrev cX4_forgetAll : ByteArray := prog_6_method_3_code
def yX4_forgetAll : MethodName := ⟨RX4, "forgetAll", "()I"⟩
abbrev cX4_fittingOf : ByteArray := prog_6_method_4_code
def yX4_fittingOf : MethodName := ⟨RX4, "fittingOf", "(LCopierJobs$Plan;)I"⟩
abbrev cX4_fits : ByteArray := prog_6_method_5_code
def yX4_fits : MethodName := ⟨RX4, "fits", "(LCopierJobs$Job;)Z"⟩
abbrev cX4_countFronts : ByteArray := prog_6_method_6_code
def yX4_countFronts : MethodName := ⟨RX4, "countFronts", "(LCopierJobs$Plan;II)V"⟩
def RX5 : String := "CopierJobs$Text"
def TX5 : u_T := fun k => match k with
  | 0 => ("CopierJobs$Text", "bytes", "[I", true)
  | 1 => ("CopierJobs$Text", "length", "I", false)
  | 2 => ("CopierJobs$Text", "place", "I", false)
  | 3 => ("CopierJobs$Text", "token", "I", false)
  | 4 => ("CopierJobs$Text", "start", "I", false)
  | _ => ("CopierJobs$Text", "value", "I", false)
def tyX5 : Nat → FieldType := fun k => match k with
  | 0 => .array .int
  | 1 => .int
  | 2 => .int
  | 3 => .int
  | 4 => .int
  | _ => .int
abbrev wsX50 : List Cond := u_ws RX5 TX5 6
theorem nmX5 : ∀ a, a < 6 → ∀ b, b < 6 → a ≠ b → (TX5 a).2.1 ≠ (TX5 b).2.1 := by decide +kernel
theorem tyX5_ok : ∀ k, k < 6 → parseFieldDescriptor (TX5 k).2.2.1 = some (tyX5 k) := by decide +kernel
abbrev cX5_init : ByteArray := prog_7_method_1_code
def yX5_init : MethodName := ⟨RX5, "<init>", "()V"⟩
abbrev cX5_isFull : ByteArray := prog_7_method_2_code
def yX5_isFull : MethodName := ⟨RX5, "isFull", "()Z"⟩
abbrev cX5_add : ByteArray := prog_7_method_3_code
def yX5_add : MethodName := ⟨RX5, "add", "(I)I"⟩
abbrev cX5_wipe : ByteArray := prog_7_method_4_code
def yX5_wipe : MethodName := ⟨RX5, "wipe", "()I"⟩
abbrev cX5_rewind : ByteArray := prog_7_method_5_code
def yX5_rewind : MethodName := ⟨RX5, "rewind", "()V"⟩
abbrev cX5_readToken : ByteArray := prog_7_method_6_code
def yX5_readToken : MethodName := ⟨RX5, "readToken", "()V"⟩
abbrev cX5_readLetters : ByteArray := prog_7_method_7_code
def yX5_readLetters : MethodName := ⟨RX5, "readLetters", "()V"⟩
abbrev cX5_readNumber : ByteArray := prog_7_method_8_code
def yX5_readNumber : MethodName := ⟨RX5, "readNumber", "()V"⟩
abbrev cX5_isLetter : ByteArray := prog_7_method_9_code
def yX5_isLetter : MethodName := ⟨RX5, "isLetter", "(I)Z"⟩
abbrev cX5_isDigit : ByteArray := prog_7_method_10_code
def yX5_isDigit : MethodName := ⟨RX5, "isDigit", "(I)Z"⟩
def RX6 : String := "CopierJobs"
def TX6 : u_T := fun k => match k with
  | 0 => ("CopierJobs", "text", "LCopierJobs$Text;", true)
  | 1 => ("CopierJobs", "course", "LCopierJobs$Course;", true)
  | 2 => ("CopierJobs", "trial", "LCopierJobs$Now;", true)
  | 3 => ("CopierJobs", "seen", "LCopierJobs$Seen;", true)
  | 4 => ("CopierJobs", "images", "[LCopierJobs$Course;", true)
  | 5 => ("CopierJobs", "kept", "[Z", true)
  | 6 => ("CopierJobs", "plan", "LCopierJobs$Plan;", false)
  | 7 => ("CopierJobs", "nextPlan", "LCopierJobs$Plan;", false)
  | _ => ("CopierJobs", "traced", "J", false)
def tyX6 : Nat → FieldType := fun k => match k with
  | 0 => .object "CopierJobs$Text"
  | 1 => .object "CopierJobs$Course"
  | 2 => .object "CopierJobs$Now"
  | 3 => .object "CopierJobs$Seen"
  | 4 => .array (.object "CopierJobs$Course")
  | 5 => .array .boolean
  | 6 => .object "CopierJobs$Plan"
  | 7 => .object "CopierJobs$Plan"
  | _ => .long
abbrev wsX60 : List Cond := u_ws RX6 TX6 9
theorem nmX6 : ∀ a, a < 9 → ∀ b, b < 9 → a ≠ b → (TX6 a).2.1 ≠ (TX6 b).2.1 := by decide +kernel
theorem tyX6_ok : ∀ k, k < 9 → parseFieldDescriptor (TX6 k).2.2.1 = some (tyX6 k) := by decide +kernel
abbrev cX6_init : ByteArray := prog_1_method_1_code
def yX6_init : MethodName := ⟨RX6, "<init>", "()V"⟩
abbrev cX6_type : ByteArray := prog_1_method_2_code
def yX6_type : MethodName := ⟨RX6, "type", "(I)I"⟩
abbrev cX6_clear : ByteArray := prog_1_method_3_code
def yX6_clear : MethodName := ⟨RX6, "clear", "()I"⟩
abbrev cX6_office : ByteArray := prog_1_method_4_code
def yX6_office : MethodName := ⟨RX6, "office", "()I"⟩
abbrev cX6_job : ByteArray := prog_1_method_5_code
def yX6_job : MethodName := ⟨RX6, "job", "(II)I"⟩
abbrev cX6_sheet : ByteArray := prog_1_method_6_code
def yX6_sheet : MethodName := ⟨RX6, "sheet", "(III)I"⟩
abbrev cX6_where : ByteArray := prog_1_method_7_code
def yX6_where : MethodName := ⟨RX6, "where", "(III)I"⟩
abbrev cX6_tray : ByteArray := prog_1_method_8_code
def yX6_tray : MethodName := ⟨RX6, "tray", "(II)I"⟩
abbrev cX6_bin : ByteArray := prog_1_method_9_code
def yX6_bin : MethodName := ⟨RX6, "bin", "(I)I"⟩
abbrev cX6_ticks : ByteArray := prog_1_method_10_code
def yX6_ticks : MethodName := ⟨RX6, "ticks", "(I)I"⟩
abbrev cX6_ahead : ByteArray := prog_1_method_11_code
def yX6_ahead : MethodName := ⟨RX6, "ahead", "(I)I"⟩
abbrev cX6_breaks : ByteArray := prog_1_method_12_code
def yX6_breaks : MethodName := ⟨RX6, "breaks", "(I)I"⟩
abbrev cX6_fills : ByteArray := prog_1_method_13_code
def yX6_fills : MethodName := ⟨RX6, "fills", "(II)I"⟩
abbrev cX6_toner : ByteArray := prog_1_method_14_code
def yX6_toner : MethodName := ⟨RX6, "toner", "(I)I"⟩
abbrev cX6_empties : ByteArray := prog_1_method_15_code
def yX6_empties : MethodName := ⟨RX6, "empties", "(I)I"⟩
abbrev cX6_undo : ByteArray := prog_1_method_16_code
def yX6_undo : MethodName := ⟨RX6, "undo", "()I"⟩
abbrev cX6_now : ByteArray := prog_1_method_17_code
def yX6_now : MethodName := ⟨RX6, "now", "(I)I"⟩
abbrev cX6_soon : ByteArray := prog_1_method_18_code
def yX6_soon : MethodName := ⟨RX6, "soon", "(I)I"⟩
abbrev cX6_odds : ByteArray := prog_1_method_19_code
def yX6_odds : MethodName := ⟨RX6, "odds", "(IIII)I"⟩
abbrev cX6_sees : ByteArray := prog_1_method_20_code
def yX6_sees : MethodName := ⟨RX6, "sees", "(III)I"⟩
abbrev cX6_forget : ByteArray := prog_1_method_21_code
def yX6_forget : MethodName := ⟨RX6, "forget", "()I"⟩
abbrev cX6_whose : ByteArray := prog_1_method_22_code
def yX6_whose : MethodName := ⟨RX6, "whose", "()I"⟩
abbrev cX6_look : ByteArray := prog_1_method_23_code
def yX6_look : MethodName := ⟨RX6, "look", "()I"⟩
abbrev cX6_mark : ByteArray := prog_1_method_24_code
def yX6_mark : MethodName := ⟨RX6, "mark", "(II)I"⟩
abbrev cX6_keep : ByteArray := prog_1_method_25_code
def yX6_keep : MethodName := ⟨RX6, "keep", "(I)I"⟩
abbrev cX6_back : ByteArray := prog_1_method_26_code
def yX6_back : MethodName := ⟨RX6, "back", "(I)I"⟩
abbrev cX6_count : ByteArray := prog_1_method_27_code
def yX6_count : MethodName := ⟨RX6, "count", "(I)I"⟩
abbrev cX6_trace : ByteArray := prog_1_method_28_code
def yX6_trace : MethodName := ⟨RX6, "trace", "()J"⟩
abbrev cX6_endsIn : ByteArray := prog_1_method_29_code
def yX6_endsIn : MethodName := ⟨RX6, "endsIn", "(I)I"⟩
abbrev cX6_shortestBut : ByteArray := prog_1_method_30_code
def yX6_shortestBut : MethodName := ⟨RX6, "shortestBut", "(I)I"⟩
abbrev cX6_worthAs : ByteArray := prog_1_method_31_code
def yX6_worthAs : MethodName := ⟨RX6, "worthAs", "(ILCopierJobs$Job;II)I"⟩
abbrev cX6_imageAt : ByteArray := prog_1_method_32_code
def yX6_imageAt : MethodName := ⟨RX6, "imageAt", "(I)LCopierJobs$Course;"⟩
abbrev cX6_at : ByteArray := prog_1_method_33_code
def yX6_at : MethodName := ⟨RX6, "at", "([II)I"⟩
abbrev cX6_put : ByteArray := prog_1_method_34_code
def yX6_put : MethodName := ⟨RX6, "put", "([III)V"⟩
abbrev cX6_copyRow : ByteArray := prog_1_method_35_code
def yX6_copyRow : MethodName := ⟨RX6, "copyRow", "([I[I)V"⟩
abbrev cX6_choose : ByteArray := prog_1_method_36_code
def yX6_choose : MethodName := ⟨RX6, "choose", "(II)I"⟩
abbrev cX6_commonDivisor : ByteArray := prog_1_method_37_code
def yX6_commonDivisor : MethodName := ⟨RX6, "commonDivisor", "(II)I"⟩
def RX7 : String := "CopierJobsModel"
def TX7 : u_T := fun k => match k with
  | 0 => ("CopierJobsModel", "pages", "[I", true)
  | 1 => ("CopierJobsModel", "copies", "[I", true)
  | 2 => ("CopierJobsModel", "both", "[I", true)
  | 3 => ("CopierJobsModel", "sorted", "[I", true)
  | 4 => ("CopierJobsModel", "trays", "[I", true)
  | 5 => ("CopierJobsModel", "jobs", "I", false)
  | 6 => ("CopierJobsModel", "bins", "I", false)
  | 7 => ("CopierJobsModel", "st", "[I", true)
  | 8 => ("CopierJobsModel", "past", "[I", true)
  | 9 => ("CopierJobsModel", "undoMany", "I", false)
  | 10 => ("CopierJobsModel", "seen", "[I", true)
  | 11 => ("CopierJobsModel", "seenMany", "I", false)
  | 12 => ("CopierJobsModel", "trace", "J", false)
  | 13 => ("CopierJobsModel", "text", "[I", true)
  | 14 => ("CopierJobsModel", "length", "I", false)
  | 15 => ("CopierJobsModel", "place", "I", false)
  | 16 => ("CopierJobsModel", "from", "I", false)
  | 17 => ("CopierJobsModel", "sort", "I", false)
  | 18 => ("CopierJobsModel", "value", "I", false)
  | 19 => ("CopierJobsModel", "newTrays", "[I", true)
  | 20 => ("CopierJobsModel", "newInk", "I", false)
  | 21 => ("CopierJobsModel", "newBins", "I", false)
  | 22 => ("CopierJobsModel", "newJobs", "[I", true)
  | 23 => ("CopierJobsModel", "newMany", "I", false)
  | 24 => ("CopierJobsModel", "told", "I", false)
  | 25 => ("CopierJobsModel", "aside", "[I", true)
  | 26 => ("CopierJobsModel", "images", "[I", true)
  | _ => ("CopierJobsModel", "isKept", "[I", true)
def tyX7 : Nat → FieldType := fun k => match k with
  | 0 => .array .int
  | 1 => .array .int
  | 2 => .array .int
  | 3 => .array .int
  | 4 => .array .int
  | 5 => .int
  | 6 => .int
  | 7 => .array .int
  | 8 => .array .int
  | 9 => .int
  | 10 => .array .int
  | 11 => .int
  | 12 => .long
  | 13 => .array .int
  | 14 => .int
  | 15 => .int
  | 16 => .int
  | 17 => .int
  | 18 => .int
  | 19 => .array .int
  | 20 => .int
  | 21 => .int
  | 22 => .array .int
  | 23 => .int
  | 24 => .int
  | 25 => .array .int
  | 26 => .array .int
  | _ => .array .int
abbrev wsX70 : List Cond := u_ws RX7 TX7 28
theorem nmX7 : ∀ a, a < 28 → ∀ b, b < 28 → a ≠ b → (TX7 a).2.1 ≠ (TX7 b).2.1 := by decide +kernel
theorem tyX7_ok : ∀ k, k < 28 → parseFieldDescriptor (TX7 k).2.2.1 = some (tyX7 k) := by decide +kernel
abbrev cX7_init : ByteArray := prog_9_method_1_code
def yX7_init : MethodName := ⟨RX7, "<init>", "()V"⟩
abbrev cX7_in : ByteArray := prog_9_method_2_code
def yX7_in : MethodName := ⟨RX7, "in", "(JJJ)Z"⟩
abbrev cX7_isPart : ByteArray := prog_9_method_3_code
def yX7_isPart : MethodName := ⟨RX7, "isPart", "(I)Z"⟩
abbrev cX7_isJob : ByteArray := prog_9_method_4_code
def yX7_isJob : MethodName := ⟨RX7, "isJob", "(I)Z"⟩
abbrev cX7_type : ByteArray := prog_9_method_5_code
def yX7_type : MethodName := ⟨RX7, "type", "(I)I"⟩
abbrev cX7_clear : ByteArray := prog_9_method_6_code
def yX7_clear : MethodName := ⟨RX7, "clear", "()I"⟩
abbrev cX7_letter : ByteArray := prog_9_method_7_code
def yX7_letter : MethodName := ⟨RX7, "letter", "()I"⟩
abbrev cX7_readNumber : ByteArray := prog_9_method_8_code
def yX7_readNumber : MethodName := ⟨RX7, "readNumber", "()V"⟩
abbrev cX7_readLetters : ByteArray := prog_9_method_9_code
def yX7_readLetters : MethodName := ⟨RX7, "readLetters", "()V"⟩
abbrev cX7_next : ByteArray := prog_9_method_10_code
def yX7_next : MethodName := ⟨RX7, "next", "()V"⟩
abbrev cX7_takesNumber : ByteArray := prog_9_method_11_code
def yX7_takesNumber : MethodName := ⟨RX7, "takesNumber", "(II)Z"⟩
abbrev cX7_ends : ByteArray := prog_9_method_12_code
def yX7_ends : MethodName := ⟨RX7, "ends", "()Z"⟩
abbrev cX7_readTrays : ByteArray := prog_9_method_13_code
def yX7_readTrays : MethodName := ⟨RX7, "readTrays", "()Z"⟩
abbrev cX7_readJob : ByteArray := prog_9_method_14_code
def yX7_readJob : MethodName := ⟨RX7, "readJob", "()Z"⟩
abbrev cX7_readItem : ByteArray := prog_9_method_15_code
def yX7_readItem : MethodName := ⟨RX7, "readItem", "()Z"⟩
abbrev cX7_office : ByteArray := prog_9_method_16_code
def yX7_office : MethodName := ⟨RX7, "office", "()I"⟩
abbrev cX7_begin : ByteArray := prog_9_method_17_code
def yX7_begin : MethodName := ⟨RX7, "begin", "()V"⟩
abbrev cX7_leaves : ByteArray := prog_9_method_18_code
def yX7_leaves : MethodName := ⟨RX7, "leaves", "(I)I"⟩
abbrev cX7_allOf : ByteArray := prog_9_method_19_code
def yX7_allOf : MethodName := ⟨RX7, "allOf", "(I)I"⟩
abbrev cX7_copyOf : ByteArray := prog_9_method_20_code
def yX7_copyOf : MethodName := ⟨RX7, "copyOf", "(II)I"⟩
abbrev cX7_leafOf : ByteArray := prog_9_method_21_code
def yX7_leafOf : MethodName := ⟨RX7, "leafOf", "(II)I"⟩
abbrev cX7_frontOf : ByteArray := prog_9_method_22_code
def yX7_frontOf : MethodName := ⟨RX7, "frontOf", "(II)I"⟩
abbrev cX7_backOf : ByteArray := prog_9_method_23_code
def yX7_backOf : MethodName := ⟨RX7, "backOf", "(II)I"⟩
abbrev cX7_binOf : ByteArray := prog_9_method_24_code
def yX7_binOf : MethodName := ⟨RX7, "binOf", "(II)I"⟩
abbrev cX7_sidesOf : ByteArray := prog_9_method_25_code
def yX7_sidesOf : MethodName := ⟨RX7, "sidesOf", "(II)I"⟩
abbrev cX7_sheet : ByteArray := prog_9_method_26_code
def yX7_sheet : MethodName := ⟨RX7, "sheet", "(III)I"⟩
abbrev cX7_isPage : ByteArray := prog_9_method_27_code
def yX7_isPage : MethodName := ⟨RX7, "isPage", "(II)Z"⟩
abbrev cX7_where : ByteArray := prog_9_method_28_code
def yX7_where : MethodName := ⟨RX7, "where", "(III)I"⟩
abbrev cX7_placeOf : ByteArray := prog_9_method_29_code
def yX7_placeOf : MethodName := ⟨RX7, "placeOf", "(I)I"⟩
abbrev cX7_stands : ByteArray := prog_9_method_30_code
def yX7_stands : MethodName := ⟨RX7, "stands", "()I"⟩
abbrev cX7_leaveAt : ByteArray := prog_9_method_31_code
def yX7_leaveAt : MethodName := ⟨RX7, "leaveAt", "(I)V"⟩
abbrev cX7_oneTick : ByteArray := prog_9_method_32_code
def yX7_oneTick : MethodName := ⟨RX7, "oneTick", "()I"⟩
abbrev cX7_note : ByteArray := prog_9_method_33_code
def yX7_note : MethodName := ⟨RX7, "note", "()V"⟩
abbrev cX7_ticks : ByteArray := prog_9_method_34_code
def yX7_ticks : MethodName := ⟨RX7, "ticks", "(I)I"⟩
abbrev cX7_ahead : ByteArray := prog_9_method_35_code
def yX7_ahead : MethodName := ⟨RX7, "ahead", "(I)I"⟩
abbrev cX7_breaks : ByteArray := prog_9_method_36_code
def yX7_breaks : MethodName := ⟨RX7, "breaks", "(I)I"⟩
abbrev cX7_fills : ByteArray := prog_9_method_37_code
def yX7_fills : MethodName := ⟨RX7, "fills", "(II)I"⟩
abbrev cX7_toner : ByteArray := prog_9_method_38_code
def yX7_toner : MethodName := ⟨RX7, "toner", "(I)I"⟩
abbrev cX7_empties : ByteArray := prog_9_method_39_code
def yX7_empties : MethodName := ⟨RX7, "empties", "(I)I"⟩
abbrev cX7_undo : ByteArray := prog_9_method_40_code
def yX7_undo : MethodName := ⟨RX7, "undo", "()I"⟩
abbrev cX7_inTicks : ByteArray := prog_9_method_41_code
def yX7_inTicks : MethodName := ⟨RX7, "inTicks", "(I)I"⟩
abbrev cX7_leftOf : ByteArray := prog_9_method_42_code
def yX7_leftOf : MethodName := ⟨RX7, "leftOf", "(I)I"⟩
abbrev cX7_job : ByteArray := prog_9_method_43_code
def yX7_job : MethodName := ⟨RX7, "job", "(II)I"⟩
abbrev cX7_wantsOf : ByteArray := prog_9_method_44_code
def yX7_wantsOf : MethodName := ⟨RX7, "wantsOf", "(I)I"⟩
abbrev cX7_wantsInk : ByteArray := prog_9_method_45_code
def yX7_wantsInk : MethodName := ⟨RX7, "wantsInk", "()I"⟩
abbrev cX7_tray : ByteArray := prog_9_method_46_code
def yX7_tray : MethodName := ⟨RX7, "tray", "(II)I"⟩
abbrev cX7_bin : ByteArray := prog_9_method_47_code
def yX7_bin : MethodName := ⟨RX7, "bin", "(I)I"⟩
abbrev cX7_inBins : ByteArray := prog_9_method_48_code
def yX7_inBins : MethodName := ⟨RX7, "inBins", "()I"⟩
abbrev cX7_now : ByteArray := prog_9_method_49_code
def yX7_now : MethodName := ⟨RX7, "now", "(I)I"⟩
abbrev cX7_shortest : ByteArray := prog_9_method_50_code
def yX7_shortest : MethodName := ⟨RX7, "shortest", "(I)I"⟩
abbrev cX7_soon : ByteArray := prog_9_method_51_code
def yX7_soon : MethodName := ⟨RX7, "soon", "(I)I"⟩
abbrev cX7_choose : ByteArray := prog_9_method_52_code
def yX7_choose : MethodName := ⟨RX7, "choose", "(II)J"⟩
abbrev cX7_odds : ByteArray := prog_9_method_53_code
def yX7_odds : MethodName := ⟨RX7, "odds", "(IIII)I"⟩
abbrev cX7_sees : ByteArray := prog_9_method_54_code
def yX7_sees : MethodName := ⟨RX7, "sees", "(III)I"⟩
abbrev cX7_forget : ByteArray := prog_9_method_55_code
def yX7_forget : MethodName := ⟨RX7, "forget", "()I"⟩
abbrev cX7_hasInFront : ByteArray := prog_9_method_56_code
def yX7_hasInFront : MethodName := ⟨RX7, "hasInFront", "(III)Z"⟩
abbrev cX7_whose : ByteArray := prog_9_method_57_code
def yX7_whose : MethodName := ⟨RX7, "whose", "()I"⟩
abbrev cX7_look : ByteArray := prog_9_method_58_code
def yX7_look : MethodName := ⟨RX7, "look", "()I"⟩
abbrev cX7_asJob : ByteArray := prog_9_method_59_code
def yX7_asJob : MethodName := ⟨RX7, "asJob", "(I)I"⟩
abbrev cX7_asMemo : ByteArray := prog_9_method_60_code
def yX7_asMemo : MethodName := ⟨RX7, "asMemo", "(I)I"⟩
abbrev cX7_asReport : ByteArray := prog_9_method_61_code
def yX7_asReport : MethodName := ⟨RX7, "asReport", "(I)I"⟩
abbrev cX7_asNotice : ByteArray := prog_9_method_62_code
def yX7_asNotice : MethodName := ⟨RX7, "asNotice", "(I)I"⟩
abbrev cX7_asLedger : ByteArray := prog_9_method_63_code
def yX7_asLedger : MethodName := ⟨RX7, "asLedger", "(I)I"⟩
abbrev cX7_asFlyer : ByteArray := prog_9_method_64_code
def yX7_asFlyer : MethodName := ⟨RX7, "asFlyer", "(I)I"⟩
abbrev cX7_mark : ByteArray := prog_9_method_65_code
def yX7_mark : MethodName := ⟨RX7, "mark", "(II)I"⟩
abbrev cX7_keep : ByteArray := prog_9_method_66_code
def yX7_keep : MethodName := ⟨RX7, "keep", "(I)I"⟩
abbrev cX7_back : ByteArray := prog_9_method_67_code
def yX7_back : MethodName := ⟨RX7, "back", "(I)I"⟩
abbrev cX7_count : ByteArray := prog_9_method_68_code
def yX7_count : MethodName := ⟨RX7, "count", "(I)I"⟩
abbrev cX7_trace : ByteArray := prog_9_method_69_code
def yX7_trace : MethodName := ⟨RX7, "trace", "()J"⟩
def RJ6 : String := "java/lang/Integer"
def TJ6 : u_T := fun k => match k with
  | _ => ("", "", "", false)
def tyJ6 : Nat → FieldType := fun k => match k with
  | _ => .int
abbrev cJ6_bitCount_0f7a4 : ByteArray := prog_10_method_49_code
def yJ6_bitCount_0f7a4 : MethodName := ⟨RJ6, "bitCount", "(I)I"⟩
def RJ9 : String := "java/lang/Math"
def TJ9 : u_T := fun k => match k with
  | _ => ("", "", "", false)
def tyJ9 : Nat → FieldType := fun k => match k with
  | _ => .int
abbrev cJ9_floorMod_7cf53 : ByteArray := prog_11_method_50_code
def yJ9_floorMod_7cf53 : MethodName := ⟨RJ9, "floorMod", "(II)I"⟩
abbrev cJ9_abs_0f7a4 : ByteArray := prog_11_method_59_code
def yJ9_abs_0f7a4 : MethodName := ⟨RJ9, "abs", "(I)I"⟩
abbrev cJ9_max_7cf53 : ByteArray := prog_11_method_65_code
def yJ9_max_7cf53 : MethodName := ⟨RJ9, "max", "(II)I"⟩
abbrev cJ9_min_7cf53 : ByteArray := prog_11_method_69_code
def yJ9_min_7cf53 : MethodName := ⟨RJ9, "min", "(II)I"⟩
def RJ7 : String := "java/util/Arrays"
def TJ7 : u_T := fun k => match k with
  | _ => ("", "", "", false)
def tyJ7 : Nat → FieldType := fun k => match k with
  | _ => .int
abbrev cJ7_fill_53178 : ByteArray := prog_12_method_103_code
def yJ7_fill_53178 : MethodName := ⟨RJ7, "fill", "([II)V"⟩
def RL : String := "CopierJobsLaw"
abbrev cL_law : ByteArray := code
def yL_law : MethodName := ⟨RL, "law", "([I)Z"⟩
abbrev vwCl : List vw_C := [(RX0, TX0, 4), (RX1, TX1, 7), (RX2, TX2, 9), (RX3, TX3, 9), (RX4, TX4, 5), (RX5, TX5, 6), (RX6, TX6, 9), (RX7, TX7, 28)]
