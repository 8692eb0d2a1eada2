section
-- ===== PART A: goes FIRST, ahead of the names: the tables' words, and 'selects' of the private methods out of them =====
/-- a private method of a class that the tables say can be made, by its rows of tables_1 -/
def lw_okq (q : MethodName × Nat) : Prop := (q.1.cls ≠ "java/lang/invoke/MethodHandle" ∧ q.1.cls ≠ "java/lang/invoke/VarHandle") ∧ Cond.instantiable q.1.cls q.2 ∈ tables_1 ∧ Cond.privateMethod q.1 ∈ tables_1 ∧ Cond.instanceMethod q.1 ∈ tables_1
theorem lw_p0 : lw_okq (⟨"CollarNames", "finding", "(I)I"⟩, 8) := ⟨⟨by decide +kernel, by decide +kernel⟩, List.mem_of_getElem? (i := 15) (by decide +kernel), List.mem_of_getElem? (i := 196) (by decide +kernel), List.mem_of_getElem? (i := 197) (by decide +kernel)⟩
theorem lw_p1 : lw_okq (⟨"CollarNames", "putChecked", "([IIIII)I"⟩, 8) := ⟨⟨by decide +kernel, by decide +kernel⟩, List.mem_of_getElem? (i := 15) (by decide +kernel), List.mem_of_getElem? (i := 261) (by decide +kernel), List.mem_of_getElem? (i := 262) (by decide +kernel)⟩
theorem lw_p2 : lw_okq (⟨"CollarNames", "startTrial", "()V"⟩, 8) := ⟨⟨by decide +kernel, by decide +kernel⟩, List.mem_of_getElem? (i := 15) (by decide +kernel), List.mem_of_getElem? (i := 364) (by decide +kernel), List.mem_of_getElem? (i := 365) (by decide +kernel)⟩
theorem lw_p3 : lw_okq (⟨"CollarNames", "findingOfSheet", "(I)I"⟩, 8) := ⟨⟨by decide +kernel, by decide +kernel⟩, List.mem_of_getElem? (i := 15) (by decide +kernel), List.mem_of_getElem? (i := 577) (by decide +kernel), List.mem_of_getElem? (i := 578) (by decide +kernel)⟩
theorem lw_p4 : lw_okq (⟨"CollarNames", "goesAsBooked", "(LCollarNames$Sheet;I)Z"⟩, 8) := ⟨⟨by decide +kernel, by decide +kernel⟩, List.mem_of_getElem? (i := 15) (by decide +kernel), List.mem_of_getElem? (i := 611) (by decide +kernel), List.mem_of_getElem? (i := 612) (by decide +kernel)⟩
theorem lw_p5 : lw_okq (⟨"CollarNamesModel", "becomes", "(II)I"⟩, 19) := ⟨⟨by decide +kernel, by decide +kernel⟩, List.mem_of_getElem? (i := 639) (by decide +kernel), List.mem_of_getElem? (i := 710) (by decide +kernel), List.mem_of_getElem? (i := 711) (by decide +kernel)⟩
theorem lw_p6 : lw_okq (⟨"CollarNamesModel", "finds", "(I)I"⟩, 19) := ⟨⟨by decide +kernel, by decide +kernel⟩, List.mem_of_getElem? (i := 639) (by decide +kernel), List.mem_of_getElem? (i := 715) (by decide +kernel), List.mem_of_getElem? (i := 716) (by decide +kernel)⟩
theorem lw_p7 : lw_okq (⟨"CollarNamesModel", "withWhom", "(I)I"⟩, 19) := ⟨⟨by decide +kernel, by decide +kernel⟩, List.mem_of_getElem? (i := 639) (by decide +kernel), List.mem_of_getElem? (i := 723) (by decide +kernel), List.mem_of_getElem? (i := 724) (by decide +kernel)⟩
theorem lw_p8 : lw_okq (⟨"CollarNamesModel", "worn", "(II)I"⟩, 19) := ⟨⟨by decide +kernel, by decide +kernel⟩, List.mem_of_getElem? (i := 639) (by decide +kernel), List.mem_of_getElem? (i := 727) (by decide +kernel), List.mem_of_getElem? (i := 728) (by decide +kernel)⟩
theorem lw_p9 : lw_okq (⟨"CollarNamesModel", "rights", "()I"⟩, 19) := ⟨⟨by decide +kernel, by decide +kernel⟩, List.mem_of_getElem? (i := 639) (by decide +kernel), List.mem_of_getElem? (i := 731) (by decide +kernel), List.mem_of_getElem? (i := 732) (by decide +kernel)⟩
theorem lw_p10 : lw_okq (⟨"CollarNamesModel", "isRight", "(I)Z"⟩, 19) := ⟨⟨by decide +kernel, by decide +kernel⟩, List.mem_of_getElem? (i := 639) (by decide +kernel), List.mem_of_getElem? (i := 735) (by decide +kernel), List.mem_of_getElem? (i := 736) (by decide +kernel)⟩
theorem lw_p11 : lw_okq (⟨"CollarNamesModel", "living", "()I"⟩, 19) := ⟨⟨by decide +kernel, by decide +kernel⟩, List.mem_of_getElem? (i := 639) (by decide +kernel), List.mem_of_getElem? (i := 739) (by decide +kernel), List.mem_of_getElem? (i := 740) (by decide +kernel)⟩
theorem lw_p12 : lw_okq (⟨"CollarNamesModel", "its", "(II)I"⟩, 19) := ⟨⟨by decide +kernel, by decide +kernel⟩, List.mem_of_getElem? (i := 639) (by decide +kernel), List.mem_of_getElem? (i := 743) (by decide +kernel), List.mem_of_getElem? (i := 744) (by decide +kernel)⟩
theorem lw_p13 : lw_okq (⟨"CollarNamesModel", "contentOfAll", "()I"⟩, 19) := ⟨⟨by decide +kernel, by decide +kernel⟩, List.mem_of_getElem? (i := 639) (by decide +kernel), List.mem_of_getElem? (i := 747) (by decide +kernel), List.mem_of_getElem? (i := 748) (by decide +kernel)⟩
theorem lw_p14 : lw_okq (⟨"CollarNamesModel", "adds", "(II)V"⟩, 19) := ⟨⟨by decide +kernel, by decide +kernel⟩, List.mem_of_getElem? (i := 639) (by decide +kernel), List.mem_of_getElem? (i := 759) (by decide +kernel), List.mem_of_getElem? (i := 760) (by decide +kernel)⟩
theorem lw_p15 : lw_okq (⟨"CollarNamesModel", "puts", "(III)V"⟩, 19) := ⟨⟨by decide +kernel, by decide +kernel⟩, List.mem_of_getElem? (i := 639) (by decide +kernel), List.mem_of_getElem? (i := 763) (by decide +kernel), List.mem_of_getElem? (i := 764) (by decide +kernel)⟩
def lw_privs_1 : List (MethodName × Nat) := [(⟨"CollarNames", "finding", "(I)I"⟩, 8), (⟨"CollarNames", "putChecked", "([IIIII)I"⟩, 8), (⟨"CollarNames", "startTrial", "()V"⟩, 8), (⟨"CollarNames", "findingOfSheet", "(I)I"⟩, 8), (⟨"CollarNames", "goesAsBooked", "(LCollarNames$Sheet;I)Z"⟩, 8), (⟨"CollarNamesModel", "becomes", "(II)I"⟩, 19), (⟨"CollarNamesModel", "finds", "(I)I"⟩, 19), (⟨"CollarNamesModel", "withWhom", "(I)I"⟩, 19), (⟨"CollarNamesModel", "worn", "(II)I"⟩, 19), (⟨"CollarNamesModel", "rights", "()I"⟩, 19), (⟨"CollarNamesModel", "isRight", "(I)Z"⟩, 19), (⟨"CollarNamesModel", "living", "()I"⟩, 19), (⟨"CollarNamesModel", "its", "(II)I"⟩, 19), (⟨"CollarNamesModel", "contentOfAll", "()I"⟩, 19), (⟨"CollarNamesModel", "adds", "(II)V"⟩, 19), (⟨"CollarNamesModel", "puts", "(III)V"⟩, 19)]
theorem lw_r1 : ∀ q ∈ lw_privs_1, lw_okq q := List.forall_mem_cons.mpr ⟨lw_p0, List.forall_mem_cons.mpr ⟨lw_p1, List.forall_mem_cons.mpr ⟨lw_p2, List.forall_mem_cons.mpr ⟨lw_p3, List.forall_mem_cons.mpr ⟨lw_p4, List.forall_mem_cons.mpr ⟨lw_p5, List.forall_mem_cons.mpr ⟨lw_p6, List.forall_mem_cons.mpr ⟨lw_p7, List.forall_mem_cons.mpr ⟨lw_p8, List.forall_mem_cons.mpr ⟨lw_p9, List.forall_mem_cons.mpr ⟨lw_p10, List.forall_mem_cons.mpr ⟨lw_p11, List.forall_mem_cons.mpr ⟨lw_p12, List.forall_mem_cons.mpr ⟨lw_p13, List.forall_mem_cons.mpr ⟨lw_p14, List.forall_mem_cons.mpr ⟨lw_p15, fun _ h => absurd h List.not_mem_nil⟩⟩⟩⟩⟩⟩⟩⟩⟩⟩⟩⟩⟩⟩⟩⟩
theorem lw_p16 : lw_okq (⟨"CollarNamesModel", "isOne", "(I)Z"⟩, 19) := ⟨⟨by decide +kernel, by decide +kernel⟩, List.mem_of_getElem? (i := 639) (by decide +kernel), List.mem_of_getElem? (i := 771) (by decide +kernel), List.mem_of_getElem? (i := 772) (by decide +kernel)⟩
theorem lw_p17 : lw_okq (⟨"CollarNamesModel", "minds", "(I)I"⟩, 19) := ⟨⟨by decide +kernel, by decide +kernel⟩, List.mem_of_getElem? (i := 639) (by decide +kernel), List.mem_of_getElem? (i := 775) (by decide +kernel), List.mem_of_getElem? (i := 776) (by decide +kernel)⟩
theorem lw_p18 : lw_okq (⟨"CollarNamesModel", "ownedBy", "(I)I"⟩, 19) := ⟨⟨by decide +kernel, by decide +kernel⟩, List.mem_of_getElem? (i := 639) (by decide +kernel), List.mem_of_getElem? (i := 779) (by decide +kernel), List.mem_of_getElem? (i := 780) (by decide +kernel)⟩
theorem lw_p19 : lw_okq (⟨"CollarNamesModel", "isGarment", "(I)Z"⟩, 19) := ⟨⟨by decide +kernel, by decide +kernel⟩, List.mem_of_getElem? (i := 639) (by decide +kernel), List.mem_of_getElem? (i := 797) (by decide +kernel), List.mem_of_getElem? (i := 798) (by decide +kernel)⟩
theorem lw_p20 : lw_okq (⟨"CollarNamesModel", "isGiving", "(II)Z"⟩, 19) := ⟨⟨by decide +kernel, by decide +kernel⟩, List.mem_of_getElem? (i := 639) (by decide +kernel), List.mem_of_getElem? (i := 801) (by decide +kernel), List.mem_of_getElem? (i := 802) (by decide +kernel)⟩
theorem lw_p21 : lw_okq (⟨"CollarNamesModel", "isClaiming", "(II)Z"⟩, 19) := ⟨⟨by decide +kernel, by decide +kernel⟩, List.mem_of_getElem? (i := 639) (by decide +kernel), List.mem_of_getElem? (i := 805) (by decide +kernel), List.mem_of_getElem? (i := 806) (by decide +kernel)⟩
theorem lw_p22 : lw_okq (⟨"CollarNamesModel", "addsGarment", "(IIII)V"⟩, 19) := ⟨⟨by decide +kernel, by decide +kernel⟩, List.mem_of_getElem? (i := 639) (by decide +kernel), List.mem_of_getElem? (i := 822) (by decide +kernel), List.mem_of_getElem? (i := 823) (by decide +kernel)⟩
theorem lw_p23 : lw_okq (⟨"CollarNamesModel", "sews", "(III)V"⟩, 19) := ⟨⟨by decide +kernel, by decide +kernel⟩, List.mem_of_getElem? (i := 639) (by decide +kernel), List.mem_of_getElem? (i := 826) (by decide +kernel), List.mem_of_getElem? (i := 827) (by decide +kernel)⟩
theorem lw_p24 : lw_okq (⟨"CollarNamesModel", "reads", "(I)I"⟩, 19) := ⟨⟨by decide +kernel, by decide +kernel⟩, List.mem_of_getElem? (i := 639) (by decide +kernel), List.mem_of_getElem? (i := 834) (by decide +kernel), List.mem_of_getElem? (i := 835) (by decide +kernel)⟩
theorem lw_p25 : lw_okq (⟨"CollarNamesModel", "fades", "(I)I"⟩, 19) := ⟨⟨by decide +kernel, by decide +kernel⟩, List.mem_of_getElem? (i := 639) (by decide +kernel), List.mem_of_getElem? (i := 838) (by decide +kernel), List.mem_of_getElem? (i := 839) (by decide +kernel)⟩
theorem lw_p26 : lw_okq (⟨"CollarNamesModel", "isSewing", "(II)Z"⟩, 19) := ⟨⟨by decide +kernel, by decide +kernel⟩, List.mem_of_getElem? (i := 639) (by decide +kernel), List.mem_of_getElem? (i := 846) (by decide +kernel), List.mem_of_getElem? (i := 847) (by decide +kernel)⟩
theorem lw_p27 : lw_okq (⟨"CollarNamesModel", "passes", "(I)V"⟩, 19) := ⟨⟨by decide +kernel, by decide +kernel⟩, List.mem_of_getElem? (i := 639) (by decide +kernel), List.mem_of_getElem? (i := 856) (by decide +kernel), List.mem_of_getElem? (i := 857) (by decide +kernel)⟩
theorem lw_p28 : lw_okq (⟨"CollarNamesModel", "oneWeek", "()V"⟩, 19) := ⟨⟨by decide +kernel, by decide +kernel⟩, List.mem_of_getElem? (i := 639) (by decide +kernel), List.mem_of_getElem? (i := 860) (by decide +kernel), List.mem_of_getElem? (i := 861) (by decide +kernel)⟩
theorem lw_p29 : lw_okq (⟨"CollarNamesModel", "washes", "(I)V"⟩, 19) := ⟨⟨by decide +kernel, by decide +kernel⟩, List.mem_of_getElem? (i := 639) (by decide +kernel), List.mem_of_getElem? (i := 864) (by decide +kernel), List.mem_of_getElem? (i := 865) (by decide +kernel)⟩
theorem lw_p30 : lw_okq (⟨"CollarNamesModel", "lies", "(I)V"⟩, 19) := ⟨⟨by decide +kernel, by decide +kernel⟩, List.mem_of_getElem? (i := 639) (by decide +kernel), List.mem_of_getElem? (i := 871) (by decide +kernel), List.mem_of_getElem? (i := 872) (by decide +kernel)⟩
theorem lw_p31 : lw_okq (⟨"CollarNamesModel", "moveAll", "(Z[I)V"⟩, 19) := ⟨⟨by decide +kernel, by decide +kernel⟩, List.mem_of_getElem? (i := 639) (by decide +kernel), List.mem_of_getElem? (i := 879) (by decide +kernel), List.mem_of_getElem? (i := 880) (by decide +kernel)⟩
def lw_privs_2 : List (MethodName × Nat) := [(⟨"CollarNamesModel", "isOne", "(I)Z"⟩, 19), (⟨"CollarNamesModel", "minds", "(I)I"⟩, 19), (⟨"CollarNamesModel", "ownedBy", "(I)I"⟩, 19), (⟨"CollarNamesModel", "isGarment", "(I)Z"⟩, 19), (⟨"CollarNamesModel", "isGiving", "(II)Z"⟩, 19), (⟨"CollarNamesModel", "isClaiming", "(II)Z"⟩, 19), (⟨"CollarNamesModel", "addsGarment", "(IIII)V"⟩, 19), (⟨"CollarNamesModel", "sews", "(III)V"⟩, 19), (⟨"CollarNamesModel", "reads", "(I)I"⟩, 19), (⟨"CollarNamesModel", "fades", "(I)I"⟩, 19), (⟨"CollarNamesModel", "isSewing", "(II)Z"⟩, 19), (⟨"CollarNamesModel", "passes", "(I)V"⟩, 19), (⟨"CollarNamesModel", "oneWeek", "()V"⟩, 19), (⟨"CollarNamesModel", "washes", "(I)V"⟩, 19), (⟨"CollarNamesModel", "lies", "(I)V"⟩, 19), (⟨"CollarNamesModel", "moveAll", "(Z[I)V"⟩, 19)]
theorem lw_r2 : ∀ q ∈ lw_privs_2, lw_okq q := List.forall_mem_cons.mpr ⟨lw_p16, List.forall_mem_cons.mpr ⟨lw_p17, List.forall_mem_cons.mpr ⟨lw_p18, List.forall_mem_cons.mpr ⟨lw_p19, List.forall_mem_cons.mpr ⟨lw_p20, List.forall_mem_cons.mpr ⟨lw_p21, List.forall_mem_cons.mpr ⟨lw_p22, List.forall_mem_cons.mpr ⟨lw_p23, List.forall_mem_cons.mpr ⟨lw_p24, List.forall_mem_cons.mpr ⟨lw_p25, List.forall_mem_cons.mpr ⟨lw_p26, List.forall_mem_cons.mpr ⟨lw_p27, List.forall_mem_cons.mpr ⟨lw_p28, List.forall_mem_cons.mpr ⟨lw_p29, List.forall_mem_cons.mpr ⟨lw_p30, List.forall_mem_cons.mpr ⟨lw_p31, fun _ h => absurd h List.not_mem_nil⟩⟩⟩⟩⟩⟩⟩⟩⟩⟩⟩⟩⟩⟩⟩⟩
theorem lw_p32 : lw_okq (⟨"CollarNamesModel", "behind", "(II)I"⟩, 19) := ⟨⟨by decide +kernel, by decide +kernel⟩, List.mem_of_getElem? (i := 639) (by decide +kernel), List.mem_of_getElem? (i := 883) (by decide +kernel), List.mem_of_getElem? (i := 884) (by decide +kernel)⟩
theorem lw_p33 : lw_okq (⟨"CollarNamesModel", "rightIn", "(II)I"⟩, 19) := ⟨⟨by decide +kernel, by decide +kernel⟩, List.mem_of_getElem? (i := 639) (by decide +kernel), List.mem_of_getElem? (i := 904) (by decide +kernel), List.mem_of_getElem? (i := 905) (by decide +kernel)⟩
theorem lw_p34 : lw_okq (⟨"CollarNamesModel", "isRightBehind", "(II)Z"⟩, 19) := ⟨⟨by decide +kernel, by decide +kernel⟩, List.mem_of_getElem? (i := 639) (by decide +kernel), List.mem_of_getElem? (i := 916) (by decide +kernel), List.mem_of_getElem? (i := 917) (by decide +kernel)⟩
theorem lw_p35 : lw_okq (⟨"CollarNamesModel", "advance", "()V"⟩, 19) := ⟨⟨by decide +kernel, by decide +kernel⟩, List.mem_of_getElem? (i := 639) (by decide +kernel), List.mem_of_getElem? (i := 944) (by decide +kernel), List.mem_of_getElem? (i := 945) (by decide +kernel)⟩
theorem lw_p36 : lw_okq (⟨"CollarNamesModel", "byteAt", "(I)I"⟩, 19) := ⟨⟨by decide +kernel, by decide +kernel⟩, List.mem_of_getElem? (i := 639) (by decide +kernel), List.mem_of_getElem? (i := 948) (by decide +kernel), List.mem_of_getElem? (i := 949) (by decide +kernel)⟩
theorem lw_p37 : lw_okq (⟨"CollarNamesModel", "wantItem", "()V"⟩, 19) := ⟨⟨by decide +kernel, by decide +kernel⟩, List.mem_of_getElem? (i := 639) (by decide +kernel), List.mem_of_getElem? (i := 961) (by decide +kernel), List.mem_of_getElem? (i := 962) (by decide +kernel)⟩
theorem lw_p38 : lw_okq (⟨"CollarNamesModel", "kindHere", "()I"⟩, 19) := ⟨⟨by decide +kernel, by decide +kernel⟩, List.mem_of_getElem? (i := 639) (by decide +kernel), List.mem_of_getElem? (i := 965) (by decide +kernel), List.mem_of_getElem? (i := 966) (by decide +kernel)⟩
theorem lw_p39 : lw_okq (⟨"CollarNamesModel", "isWord", "(J)Z"⟩, 19) := ⟨⟨by decide +kernel, by decide +kernel⟩, List.mem_of_getElem? (i := 639) (by decide +kernel), List.mem_of_getElem? (i := 970) (by decide +kernel), List.mem_of_getElem? (i := 971) (by decide +kernel)⟩
theorem lw_p40 : lw_okq (⟨"CollarNamesModel", "wantOne", "(I)V"⟩, 19) := ⟨⟨by decide +kernel, by decide +kernel⟩, List.mem_of_getElem? (i := 639) (by decide +kernel), List.mem_of_getElem? (i := 979) (by decide +kernel), List.mem_of_getElem? (i := 980) (by decide +kernel)⟩
theorem lw_p41 : lw_okq (⟨"CollarNamesModel", "mayWant", "(JIII)I"⟩, 19) := ⟨⟨by decide +kernel, by decide +kernel⟩, List.mem_of_getElem? (i := 639) (by decide +kernel), List.mem_of_getElem? (i := 984) (by decide +kernel), List.mem_of_getElem? (i := 985) (by decide +kernel)⟩
theorem lw_p42 : lw_okq (⟨"CollarNamesModel", "wantNumber", "(II)I"⟩, 19) := ⟨⟨by decide +kernel, by decide +kernel⟩, List.mem_of_getElem? (i := 639) (by decide +kernel), List.mem_of_getElem? (i := 988) (by decide +kernel), List.mem_of_getElem? (i := 989) (by decide +kernel)⟩
theorem lw_p43 : lw_okq (⟨"CollarNamesModel", "markHere", "()I"⟩, 19) := ⟨⟨by decide +kernel, by decide +kernel⟩, List.mem_of_getElem? (i := 639) (by decide +kernel), List.mem_of_getElem? (i := 992) (by decide +kernel), List.mem_of_getElem? (i := 993) (by decide +kernel)⟩
theorem lw_p44 : lw_okq (⟨"CollarNamesModel", "wantGarment", "(I)V"⟩, 19) := ⟨⟨by decide +kernel, by decide +kernel⟩, List.mem_of_getElem? (i := 639) (by decide +kernel), List.mem_of_getElem? (i := 999) (by decide +kernel), List.mem_of_getElem? (i := 1000) (by decide +kernel)⟩
theorem lw_p45 : lw_okq (⟨"CollarNamesModel", "isPart", "(III)Z"⟩, 19) := ⟨⟨by decide +kernel, by decide +kernel⟩, List.mem_of_getElem? (i := 639) (by decide +kernel), List.mem_of_getElem? (i := 1027) (by decide +kernel), List.mem_of_getElem? (i := 1028) (by decide +kernel)⟩
theorem lw_p46 : lw_okq (⟨"CollarNamesModel", "badSheet", "(I)I"⟩, 19) := ⟨⟨by decide +kernel, by decide +kernel⟩, List.mem_of_getElem? (i := 639) (by decide +kernel), List.mem_of_getElem? (i := 1035) (by decide +kernel), List.mem_of_getElem? (i := 1036) (by decide +kernel)⟩
theorem lw_p47 : lw_okq (⟨"CollarNamesModel", "isSo", "(II)Z"⟩, 19) := ⟨⟨by decide +kernel, by decide +kernel⟩, List.mem_of_getElem? (i := 639) (by decide +kernel), List.mem_of_getElem? (i := 1048) (by decide +kernel), List.mem_of_getElem? (i := 1049) (by decide +kernel)⟩
def lw_privs_3 : List (MethodName × Nat) := [(⟨"CollarNamesModel", "behind", "(II)I"⟩, 19), (⟨"CollarNamesModel", "rightIn", "(II)I"⟩, 19), (⟨"CollarNamesModel", "isRightBehind", "(II)Z"⟩, 19), (⟨"CollarNamesModel", "advance", "()V"⟩, 19), (⟨"CollarNamesModel", "byteAt", "(I)I"⟩, 19), (⟨"CollarNamesModel", "wantItem", "()V"⟩, 19), (⟨"CollarNamesModel", "kindHere", "()I"⟩, 19), (⟨"CollarNamesModel", "isWord", "(J)Z"⟩, 19), (⟨"CollarNamesModel", "wantOne", "(I)V"⟩, 19), (⟨"CollarNamesModel", "mayWant", "(JIII)I"⟩, 19), (⟨"CollarNamesModel", "wantNumber", "(II)I"⟩, 19), (⟨"CollarNamesModel", "markHere", "()I"⟩, 19), (⟨"CollarNamesModel", "wantGarment", "(I)V"⟩, 19), (⟨"CollarNamesModel", "isPart", "(III)Z"⟩, 19), (⟨"CollarNamesModel", "badSheet", "(I)I"⟩, 19), (⟨"CollarNamesModel", "isSo", "(II)Z"⟩, 19)]
theorem lw_r3 : ∀ q ∈ lw_privs_3, lw_okq q := List.forall_mem_cons.mpr ⟨lw_p32, List.forall_mem_cons.mpr ⟨lw_p33, List.forall_mem_cons.mpr ⟨lw_p34, List.forall_mem_cons.mpr ⟨lw_p35, List.forall_mem_cons.mpr ⟨lw_p36, List.forall_mem_cons.mpr ⟨lw_p37, List.forall_mem_cons.mpr ⟨lw_p38, List.forall_mem_cons.mpr ⟨lw_p39, List.forall_mem_cons.mpr ⟨lw_p40, List.forall_mem_cons.mpr ⟨lw_p41, List.forall_mem_cons.mpr ⟨lw_p42, List.forall_mem_cons.mpr ⟨lw_p43, List.forall_mem_cons.mpr ⟨lw_p44, List.forall_mem_cons.mpr ⟨lw_p45, List.forall_mem_cons.mpr ⟨lw_p46, List.forall_mem_cons.mpr ⟨lw_p47, fun _ h => absurd h List.not_mem_nil⟩⟩⟩⟩⟩⟩⟩⟩⟩⟩⟩⟩⟩⟩⟩⟩
theorem lw_p48 : lw_okq (⟨"CollarNamesModel", "names", "()I"⟩, 19) := ⟨⟨by decide +kernel, by decide +kernel⟩, List.mem_of_getElem? (i := 639) (by decide +kernel), List.mem_of_getElem? (i := 1068) (by decide +kernel), List.mem_of_getElem? (i := 1069) (by decide +kernel)⟩
def lw_privs_4 : List (MethodName × Nat) := [(⟨"CollarNamesModel", "names", "()I"⟩, 19)]
theorem lw_r4 : ∀ q ∈ lw_privs_4, lw_okq q := List.forall_mem_cons.mpr ⟨lw_p48, fun _ h => absurd h List.not_mem_nil⟩
def lw_privs : List (MethodName × Nat) := lw_privs_1 ++ (lw_privs_2 ++ (lw_privs_3 ++ (lw_privs_4)))
def lw_tbl : List Cond := k2_sels lw_privs ++ tables_1
theorem lw_privs_ok : ∀ q ∈ lw_privs, lw_okq q := by
  show ∀ q ∈ lw_privs_1 ++ (lw_privs_2 ++ (lw_privs_3 ++ (lw_privs_4))), lw_okq q
  exact List.forall_mem_append.mpr ⟨lw_r1, List.forall_mem_append.mpr ⟨lw_r2, List.forall_mem_append.mpr ⟨lw_r3, lw_r4⟩⟩⟩
end
section
def RX0 : String := "CollarNames$Home"
def TX0 : u_T := fun k => match k with
  | 0 => ("CollarNames$Home", "week", "I", false)
  | 1 => ("CollarNames$Home", "warmth", "I", false)
  | 2 => ("CollarNames$Home", "people", "I", false)
  | 3 => ("CollarNames$Home", "kinds", "[I", true)
  | 4 => ("CollarNames$Home", "bands", "[I", true)
  | 5 => ("CollarNames$Home", "contents", "[I", true)
  | 6 => ("CollarNames$Home", "gone", "[I", true)
  | 7 => ("CollarNames$Home", "garments", "I", false)
  | 8 => ("CollarNames$Home", "owners", "[I", true)
  | 9 => ("CollarNames$Home", "marks", "[I", true)
  | 10 => ("CollarNames$Home", "names", "[I", true)
  | 11 => ("CollarNames$Home", "holders", "[I", true)
  | 12 => ("CollarNames$Home", "ownHeld", "[I", true)
  | _ => ("CollarNames$Home", "othersHeld", "[I", true)
def tyX0 : Nat → FieldType := fun k => match k with
  | 0 => .int
  | 1 => .int
  | 2 => .int
  | 3 => .array .int
  | 4 => .array .int
  | 5 => .array .int
  | 6 => .array .int
  | 7 => .int
  | 8 => .array .int
  | 9 => .array .int
  | 10 => .array .int
  | 11 => .array .int
  | 12 => .array .int
  | _ => .array .int
theorem nmX0 : ∀ a, a < 14 → ∀ b, b < 14 → a ≠ b → (TX0 a).2.1 ≠ (TX0 b).2.1 := by decide +kernel
theorem tyX0_ok : ∀ k, k < 14 → parseFieldDescriptor (TX0 k).2.2.1 = some (tyX0 k) := by decide +kernel
abbrev cX0_init : ByteArray := prog_2_method_1_code
def yX0_init : MethodName := ⟨RX0, "<init>", "()V"⟩
abbrev cX0_become : ByteArray := prog_2_method_2_code
def yX0_become : MethodName := ⟨RX0, "become", "(LCollarNames$Home;)V"⟩
abbrev cX0_hasPerson : ByteArray := prog_2_method_3_code
def yX0_hasPerson : MethodName := ⟨RX0, "hasPerson", "(I)Z"⟩
abbrev cX0_hasGarment : ByteArray := prog_2_method_4_code
def yX0_hasGarment : MethodName := ⟨RX0, "hasGarment", "(I)Z"⟩
abbrev cX0_addPerson : ByteArray := prog_2_method_5_code
def yX0_addPerson : MethodName := ⟨RX0, "addPerson", "(I)I"⟩
abbrev cX0_addGarment : ByteArray := prog_2_method_6_code
def yX0_addGarment : MethodName := ⟨RX0, "addGarment", "(II)I"⟩
abbrev cX0_isRight : ByteArray := prog_2_method_7_code
def yX0_isRight : MethodName := ⟨RX0, "isRight", "(I)Z"⟩
abbrev cX0_setOfRight : ByteArray := prog_2_method_8_code
def yX0_setOfRight : MethodName := ⟨RX0, "setOfRight", "()I"⟩
abbrev cX0_setHeldBy : ByteArray := prog_2_method_9_code
def yX0_setHeldBy : MethodName := ⟨RX0, "setHeldBy", "(I)I"⟩
abbrev cX0_setOfLiving : ByteArray := prog_2_method_10_code
def yX0_setOfLiving : MethodName := ⟨RX0, "setOfLiving", "()I"⟩
abbrev cX0_sumOfContents : ByteArray := prog_2_method_11_code
def yX0_sumOfContents : MethodName := ⟨RX0, "sumOfContents", "()I"⟩
abbrev cX0_sumOfNames : ByteArray := prog_2_method_12_code
def yX0_sumOfNames : MethodName := ⟨RX0, "sumOfNames", "()I"⟩
abbrev cX0_fades : ByteArray := prog_2_method_13_code
def yX0_fades : MethodName := ⟨RX0, "fades", "(I)I"⟩
abbrev cX0_readsFor : ByteArray := prog_2_method_14_code
def yX0_readsFor : MethodName := ⟨RX0, "readsFor", "(I)I"⟩
abbrev cX0_leastOfBand : ByteArray := prog_2_method_15_code
def yX0_leastOfBand : MethodName := ⟨RX0, "leastOfBand", "(I)I"⟩
abbrev cX0_givesBack : ByteArray := prog_2_method_16_code
def yX0_givesBack : MethodName := ⟨RX0, "givesBack", "(II)Z"⟩
abbrev cX0_claims : ByteArray := prog_2_method_17_code
def yX0_claims : MethodName := ⟨RX0, "claims", "(II)Z"⟩
abbrev cX0_minds : ByteArray := prog_2_method_18_code
def yX0_minds : MethodName := ⟨RX0, "minds", "(I)I"⟩
abbrev cX0_tally : ByteArray := prog_2_method_19_code
def yX0_tally : MethodName := ⟨RX0, "tally", "()V"⟩
abbrev cX0_tallyOne : ByteArray := prog_2_method_20_code
def yX0_tallyOne : MethodName := ⟨RX0, "tallyOne", "(I)V"⟩
abbrev cX0_goWeeks : ByteArray := prog_2_method_21_code
def yX0_goWeeks : MethodName := ⟨RX0, "goWeeks", "(I)V"⟩
abbrev cX0_countRightWeeks : ByteArray := prog_2_method_22_code
def yX0_countRightWeeks : MethodName := ⟨RX0, "countRightWeeks", "(II)I"⟩
abbrev cX0_bringWash : ByteArray := prog_2_method_23_code
def yX0_bringWash : MethodName := ⟨RX0, "bringWash", "()V"⟩
abbrev cX0_layTable : ByteArray := prog_2_method_24_code
def yX0_layTable : MethodName := ⟨RX0, "layTable", "()V"⟩
abbrev cX0_leastClaimant : ByteArray := prog_2_method_25_code
def yX0_leastClaimant : MethodName := ⟨RX0, "leastClaimant", "(I)I"⟩
abbrev cX0_addContents : ByteArray := prog_2_method_26_code
def yX0_addContents : MethodName := ⟨RX0, "addContents", "()V"⟩
def RX1 : String := "CollarNames$HomeText"
def TX1 : u_T := fun k => match k with
  | 0 => ("CollarNames$HomeText", "tape", "LCollarNames$Tape;", true)
  | 1 => ("CollarNames$HomeText", "draft", "LCollarNames$Home;", true)
  | _ => ("CollarNames$HomeText", "items", "I", false)
def tyX1 : Nat → FieldType := fun k => match k with
  | 0 => .object "CollarNames$Tape"
  | 1 => .object "CollarNames$Home"
  | _ => .int
theorem nmX1 : ∀ a, a < 3 → ∀ b, b < 3 → a ≠ b → (TX1 a).2.1 ≠ (TX1 b).2.1 := by decide +kernel
theorem tyX1_ok : ∀ k, k < 3 → parseFieldDescriptor (TX1 k).2.2.1 = some (tyX1 k) := by decide +kernel
abbrev cX1_init : ByteArray := prog_3_method_1_code
def yX1_init : MethodName := ⟨RX1, "<init>", "(LCollarNames$Tape;LCollarNames$Home;)V"⟩
abbrev cX1_takeItems : ByteArray := prog_3_method_2_code
def yX1_takeItems : MethodName := ⟨RX1, "takeItems", "()Z"⟩
abbrev cX1_takeItem : ByteArray := prog_3_method_3_code
def yX1_takeItem : MethodName := ⟨RX1, "takeItem", "()Z"⟩
abbrev cX1_takePerson : ByteArray := prog_3_method_4_code
def yX1_takePerson : MethodName := ⟨RX1, "takePerson", "(I)Z"⟩
abbrev cX1_takeGarment : ByteArray := prog_3_method_5_code
def yX1_takeGarment : MethodName := ⟨RX1, "takeGarment", "(I)Z"⟩
abbrev cX1_takeHeat : ByteArray := prog_3_method_6_code
def yX1_takeHeat : MethodName := ⟨RX1, "takeHeat", "()Z"⟩
abbrev cX1_takeDeath : ByteArray := prog_3_method_7_code
def yX1_takeDeath : MethodName := ⟨RX1, "takeDeath", "()Z"⟩
abbrev cX1_takeNumber : ByteArray := prog_3_method_8_code
def yX1_takeNumber : MethodName := ⟨RX1, "takeNumber", "(II)Z"⟩
abbrev cX1_kindAtTape : ByteArray := prog_3_method_9_code
def yX1_kindAtTape : MethodName := ⟨RX1, "kindAtTape", "()I"⟩
abbrev cX1_markAtTape : ByteArray := prog_3_method_10_code
def yX1_markAtTape : MethodName := ⟨RX1, "markAtTape", "()I"⟩
def RX2 : String := "CollarNames$Sheet"
def TX2 : u_T := fun k => match k with
  | 0 => ("CollarNames$Sheet", "numbers", "[J", true)
  | 1 => ("CollarNames$Sheet", "bits", "I", false)
  | _ => ("CollarNames$Sheet", "length", "I", false)
def tyX2 : Nat → FieldType := fun k => match k with
  | 0 => .array .long
  | 1 => .int
  | _ => .int
theorem nmX2 : ∀ a, a < 3 → ∀ b, b < 3 → a ≠ b → (TX2 a).2.1 ≠ (TX2 b).2.1 := by decide +kernel
theorem tyX2_ok : ∀ k, k < 3 → parseFieldDescriptor (TX2 k).2.2.1 = some (tyX2 k) := by decide +kernel
abbrev cX2_init : ByteArray := prog_4_method_1_code
def yX2_init : MethodName := ⟨RX2, "<init>", "()V"⟩
abbrev cX2_isMissing : ByteArray := prog_4_method_2_code
def yX2_isMissing : MethodName := ⟨RX2, "isMissing", "()Z"⟩
abbrev cX2_begin : ByteArray := prog_4_method_3_code
def yX2_begin : MethodName := ⟨RX2, "begin", "(II)V"⟩
abbrev cX2_put : ByteArray := prog_4_method_4_code
def yX2_put : MethodName := ⟨RX2, "put", "(IJ)V"⟩
abbrev cX2_hasRun : ByteArray := prog_4_method_5_code
def yX2_hasRun : MethodName := ⟨RX2, "hasRun", "(II)Z"⟩
def RX3 : String := "CollarNames$Tape"
def TX3 : u_T := fun k => match k with
  | 0 => ("CollarNames$Tape", "bytes", "[I", true)
  | 1 => ("CollarNames$Tape", "length", "I", false)
  | 2 => ("CollarNames$Tape", "token", "I", false)
  | 3 => ("CollarNames$Tape", "start", "I", false)
  | 4 => ("CollarNames$Tape", "behind", "I", false)
  | _ => ("CollarNames$Tape", "number", "I", false)
def tyX3 : Nat → FieldType := fun k => match k with
  | 0 => .array .int
  | 1 => .int
  | 2 => .int
  | 3 => .int
  | 4 => .int
  | _ => .int
theorem nmX3 : ∀ a, a < 6 → ∀ b, b < 6 → a ≠ b → (TX3 a).2.1 ≠ (TX3 b).2.1 := by decide +kernel
theorem tyX3_ok : ∀ k, k < 6 → parseFieldDescriptor (TX3 k).2.2.1 = some (tyX3 k) := by decide +kernel
abbrev cX3_init : ByteArray := prog_5_method_1_code
def yX3_init : MethodName := ⟨RX3, "<init>", "()V"⟩
abbrev cX3_append : ByteArray := prog_5_method_2_code
def yX3_append : MethodName := ⟨RX3, "append", "(I)V"⟩
abbrev cX3_clear : ByteArray := prog_5_method_3_code
def yX3_clear : MethodName := ⟨RX3, "clear", "()V"⟩
abbrev cX3_rewind : ByteArray := prog_5_method_4_code
def yX3_rewind : MethodName := ⟨RX3, "rewind", "()V"⟩
abbrev cX3_step : ByteArray := prog_5_method_5_code
def yX3_step : MethodName := ⟨RX3, "step", "()V"⟩
abbrev cX3_tokenOf : ByteArray := prog_5_method_6_code
def yX3_tokenOf : MethodName := ⟨RX3, "tokenOf", "(I)I"⟩
abbrev cX3_isAtWord : ByteArray := prog_5_method_7_code
def yX3_isAtWord : MethodName := ⟨RX3, "isAtWord", "(Ljava/lang/String;)Z"⟩
abbrev cX3_isAtNumber : ByteArray := prog_5_method_8_code
def yX3_isAtNumber : MethodName := ⟨RX3, "isAtNumber", "(II)Z"⟩
def RX4 : String := "CollarNames"
def TX4 : u_T := fun k => match k with
  | 0 => ("CollarNames", "live", "LCollarNames$Home;", true)
  | 1 => ("CollarNames", "trial", "LCollarNames$Home;", true)
  | 2 => ("CollarNames", "kept", "LCollarNames$Home;", true)
  | 3 => ("CollarNames", "isKept", "Z", false)
  | 4 => ("CollarNames", "tape", "LCollarNames$Tape;", true)
  | 5 => ("CollarNames", "text", "LCollarNames$HomeText;", true)
  | 6 => ("CollarNames", "sheets", "[LCollarNames$Sheet;", true)
  | _ => ("CollarNames", "findings", "[I", true)
def tyX4 : Nat → FieldType := fun k => match k with
  | 0 => .object "CollarNames$Home"
  | 1 => .object "CollarNames$Home"
  | 2 => .object "CollarNames$Home"
  | 3 => .boolean
  | 4 => .object "CollarNames$Tape"
  | 5 => .object "CollarNames$HomeText"
  | 6 => .array (.object "CollarNames$Sheet")
  | _ => .array .int
theorem nmX4 : ∀ a, a < 8 → ∀ b, b < 8 → a ≠ b → (TX4 a).2.1 ≠ (TX4 b).2.1 := by decide +kernel
theorem tyX4_ok : ∀ k, k < 8 → parseFieldDescriptor (TX4 k).2.2.1 = some (tyX4 k) := by decide +kernel
abbrev cX4_init : ByteArray := prog_1_method_1_code
def yX4_init : MethodName := ⟨RX4, "<init>", "()V"⟩
abbrev cX4_heat : ByteArray := prog_1_method_2_code
def yX4_heat : MethodName := ⟨RX4, "heat", "(I)I"⟩
abbrev cX4_now : ByteArray := prog_1_method_3_code
def yX4_now : MethodName := ⟨RX4, "now", "(I)I"⟩
abbrev cX4_person : ByteArray := prog_1_method_4_code
def yX4_person : MethodName := ⟨RX4, "person", "(I)I"⟩
abbrev cX4_of : ByteArray := prog_1_method_5_code
def yX4_of : MethodName := ⟨RX4, "of", "(II)I"⟩
abbrev cX4_set : ByteArray := prog_1_method_6_code
def yX4_set : MethodName := ⟨RX4, "set", "(III)I"⟩
abbrev cX4_would : ByteArray := prog_1_method_7_code
def yX4_would : MethodName := ⟨RX4, "would", "(III)I"⟩
abbrev cX4_turn : ByteArray := prog_1_method_8_code
def yX4_turn : MethodName := ⟨RX4, "turn", "(II)I"⟩
abbrev cX4_as : ByteArray := prog_1_method_9_code
def yX4_as : MethodName := ⟨RX4, "as", "(II)I"⟩
abbrev cX4_garment : ByteArray := prog_1_method_10_code
def yX4_garment : MethodName := ⟨RX4, "garment", "(II)I"⟩
abbrev cX4_garmentOf : ByteArray := prog_1_method_11_code
def yX4_garmentOf : MethodName := ⟨RX4, "garmentOf", "(II)I"⟩
abbrev cX4_sew : ByteArray := prog_1_method_12_code
def yX4_sew : MethodName := ⟨RX4, "sew", "(III)I"⟩
abbrev cX4_weeks : ByteArray := prog_1_method_13_code
def yX4_weeks : MethodName := ⟨RX4, "weeks", "(I)I"⟩
abbrev cX4_on : ByteArray := prog_1_method_14_code
def yX4_on : MethodName := ⟨RX4, "on", "(III)I"⟩
abbrev cX4_then : ByteArray := prog_1_method_15_code
def yX4_then : MethodName := ⟨RX4, "then", "(II)I"⟩
abbrev cX4_lost : ByteArray := prog_1_method_16_code
def yX4_lost : MethodName := ⟨RX4, "lost", "(I)I"⟩
abbrev cX4_comes : ByteArray := prog_1_method_17_code
def yX4_comes : MethodName := ⟨RX4, "comes", "(II)I"⟩
abbrev cX4_mark : ByteArray := prog_1_method_18_code
def yX4_mark : MethodName := ⟨RX4, "mark", "(II)I"⟩
abbrev cX4_kind : ByteArray := prog_1_method_19_code
def yX4_kind : MethodName := ⟨RX4, "kind", "(II)I"⟩
abbrev cX4_warmest : ByteArray := prog_1_method_20_code
def yX4_warmest : MethodName := ⟨RX4, "warmest", "(II)I"⟩
abbrev cX4_plain : ByteArray := prog_1_method_21_code
def yX4_plain : MethodName := ⟨RX4, "plain", "(II)I"⟩
abbrev cX4_teach : ByteArray := prog_1_method_22_code
def yX4_teach : MethodName := ⟨RX4, "teach", "(I)I"⟩
abbrev cX4_best : ByteArray := prog_1_method_23_code
def yX4_best : MethodName := ⟨RX4, "best", "(I)I"⟩
abbrev cX4_feed : ByteArray := prog_1_method_24_code
def yX4_feed : MethodName := ⟨RX4, "feed", "(II)I"⟩
abbrev cX4_wipe : ByteArray := prog_1_method_25_code
def yX4_wipe : MethodName := ⟨RX4, "wipe", "()I"⟩
abbrev cX4_home : ByteArray := prog_1_method_26_code
def yX4_home : MethodName := ⟨RX4, "home", "()I"⟩
abbrev cX4_sheet : ByteArray := prog_1_method_27_code
def yX4_sheet : MethodName := ⟨RX4, "sheet", "(III)I"⟩
abbrev cX4_write : ByteArray := prog_1_method_28_code
def yX4_write : MethodName := ⟨RX4, "write", "(IIJ)J"⟩
abbrev cX4_copy : ByteArray := prog_1_method_29_code
def yX4_copy : MethodName := ⟨RX4, "copy", "(IIIII)I"⟩
abbrev cX4_lays : ByteArray := prog_1_method_30_code
def yX4_lays : MethodName := ⟨RX4, "lays", "(I)I"⟩
abbrev cX4_book : ByteArray := prog_1_method_31_code
def yX4_book : MethodName := ⟨RX4, "book", "(II)I"⟩
abbrev cX4_read : ByteArray := prog_1_method_32_code
def yX4_read : MethodName := ⟨RX4, "read", "(II)I"⟩
abbrev cX4_image : ByteArray := prog_1_method_33_code
def yX4_image : MethodName := ⟨RX4, "image", "()I"⟩
abbrev cX4_undo : ByteArray := prog_1_method_34_code
def yX4_undo : MethodName := ⟨RX4, "undo", "()I"⟩
abbrev cX4_tear : ByteArray := prog_1_method_35_code
def yX4_tear : MethodName := ⟨RX4, "tear", "()I"⟩
abbrev cX4_count : ByteArray := prog_1_method_36_code
def yX4_count : MethodName := ⟨RX4, "count", "(I)I"⟩
abbrev cX4_status : ByteArray := prog_1_method_37_code
def yX4_status : MethodName := ⟨RX4, "status", "(I)I"⟩
abbrev cX4_finding : ByteArray := prog_1_method_38_code
def yX4_finding : MethodName := ⟨RX4, "finding", "(I)I"⟩
abbrev cX4_findingOfSheet : ByteArray := prog_1_method_39_code
def yX4_findingOfSheet : MethodName := ⟨RX4, "findingOfSheet", "(I)I"⟩
abbrev cX4_putChecked : ByteArray := prog_1_method_40_code
def yX4_putChecked : MethodName := ⟨RX4, "putChecked", "([IIIII)I"⟩
abbrev cX4_startTrial : ByteArray := prog_1_method_41_code
def yX4_startTrial : MethodName := ⟨RX4, "startTrial", "()V"⟩
abbrev cX4_goesAsBooked : ByteArray := prog_1_method_42_code
def yX4_goesAsBooked : MethodName := ⟨RX4, "goesAsBooked", "(LCollarNames$Sheet;I)Z"⟩
abbrev cX4_isSheet : ByteArray := prog_1_method_43_code
def yX4_isSheet : MethodName := ⟨RX4, "isSheet", "(I)Z"⟩
abbrev cX4_isKind : ByteArray := prog_1_method_44_code
def yX4_isKind : MethodName := ⟨RX4, "isKind", "(I)Z"⟩
abbrev cX4_isWithin : ByteArray := prog_1_method_45_code
def yX4_isWithin : MethodName := ⟨RX4, "isWithin", "(III)Z"⟩
abbrev cX4_isUnder : ByteArray := prog_1_method_46_code
def yX4_isUnder : MethodName := ⟨RX4, "isUnder", "(II)Z"⟩
abbrev cX4_kindAbove : ByteArray := prog_1_method_47_code
def yX4_kindAbove : MethodName := ⟨RX4, "kindAbove", "(I)I"⟩
def RX5 : String := "CollarNamesModel"
def TX5 : u_T := fun k => match k with
  | 0 => ("CollarNamesModel", "row", "[I", true)
  | 1 => ("CollarNamesModel", "found", "[I", true)
  | 2 => ("CollarNamesModel", "tried", "[I", true)
  | 3 => ("CollarNamesModel", "before1", "[I", true)
  | 4 => ("CollarNamesModel", "tape", "[I", true)
  | 5 => ("CollarNamesModel", "tapeMany", "I", false)
  | 6 => ("CollarNamesModel", "sort", "I", false)
  | 7 => ("CollarNamesModel", "begins", "I", false)
  | 8 => ("CollarNamesModel", "tokenEnds", "I", false)
  | 9 => ("CollarNamesModel", "word", "J", false)
  | 10 => ("CollarNamesModel", "value", "I", false)
  | 11 => ("CollarNamesModel", "good", "Z", false)
  | 12 => ("CollarNamesModel", "bitsOf", "[I", true)
  | 13 => ("CollarNamesModel", "sizeOf", "[I", true)
  | 14 => ("CollarNamesModel", "sheets", "[J", true)
  | 15 => ("CollarNamesModel", "lent", "[J", true)
  | 16 => ("CollarNamesModel", "image", "[I", true)
  | 17 => ("CollarNamesModel", "before", "[I", true)
  | _ => ("CollarNamesModel", "isKept", "Z", false)
def tyX5 : Nat → FieldType := fun k => match k with
  | 0 => .array .int
  | 1 => .array .int
  | 2 => .array .int
  | 3 => .array .int
  | 4 => .array .int
  | 5 => .int
  | 6 => .int
  | 7 => .int
  | 8 => .int
  | 9 => .long
  | 10 => .int
  | 11 => .boolean
  | 12 => .array .int
  | 13 => .array .int
  | 14 => .array .long
  | 15 => .array .long
  | 16 => .array .int
  | 17 => .array .int
  | _ => .boolean
theorem nmX5 : ∀ a, a < 19 → ∀ b, b < 19 → a ≠ b → (TX5 a).2.1 ≠ (TX5 b).2.1 := by decide +kernel
theorem tyX5_ok : ∀ k, k < 19 → parseFieldDescriptor (TX5 k).2.2.1 = some (tyX5 k) := by decide +kernel
abbrev cX5_init : ByteArray := prog_7_method_1_code
def yX5_init : MethodName := ⟨RX5, "<init>", "()V"⟩
abbrev cX5_in : ByteArray := prog_7_method_2_code
def yX5_in : MethodName := ⟨RX5, "in", "(III)Z"⟩
abbrev cX5_finds : ByteArray := prog_7_method_3_code
def yX5_finds : MethodName := ⟨RX5, "finds", "(I)I"⟩
abbrev cX5_held : ByteArray := prog_7_method_4_code
def yX5_held : MethodName := ⟨RX5, "held", "(III)I"⟩
abbrev cX5_its : ByteArray := prog_7_method_5_code
def yX5_its : MethodName := ⟨RX5, "its", "(II)I"⟩
abbrev cX5_puts : ByteArray := prog_7_method_6_code
def yX5_puts : MethodName := ⟨RX5, "puts", "(III)V"⟩
abbrev cX5_worn : ByteArray := prog_7_method_7_code
def yX5_worn : MethodName := ⟨RX5, "worn", "(II)I"⟩
abbrev cX5_sews : ByteArray := prog_7_method_8_code
def yX5_sews : MethodName := ⟨RX5, "sews", "(III)V"⟩
abbrev cX5_becomes : ByteArray := prog_7_method_9_code
def yX5_becomes : MethodName := ⟨RX5, "becomes", "(II)I"⟩
abbrev cX5_isOne : ByteArray := prog_7_method_10_code
def yX5_isOne : MethodName := ⟨RX5, "isOne", "(I)Z"⟩
abbrev cX5_isGarment : ByteArray := prog_7_method_11_code
def yX5_isGarment : MethodName := ⟨RX5, "isGarment", "(I)Z"⟩
abbrev cX5_isKind : ByteArray := prog_7_method_12_code
def yX5_isKind : MethodName := ⟨RX5, "isKind", "(I)Z"⟩
abbrev cX5_bits : ByteArray := prog_7_method_13_code
def yX5_bits : MethodName := ⟨RX5, "bits", "(I)I"⟩
abbrev cX5_withWhom : ByteArray := prog_7_method_14_code
def yX5_withWhom : MethodName := ⟨RX5, "withWhom", "(I)I"⟩
abbrev cX5_ownedBy : ByteArray := prog_7_method_15_code
def yX5_ownedBy : MethodName := ⟨RX5, "ownedBy", "(I)I"⟩
abbrev cX5_isRight : ByteArray := prog_7_method_16_code
def yX5_isRight : MethodName := ⟨RX5, "isRight", "(I)Z"⟩
abbrev cX5_rights : ByteArray := prog_7_method_17_code
def yX5_rights : MethodName := ⟨RX5, "rights", "()I"⟩
abbrev cX5_fades : ByteArray := prog_7_method_18_code
def yX5_fades : MethodName := ⟨RX5, "fades", "(I)I"⟩
abbrev cX5_reads : ByteArray := prog_7_method_19_code
def yX5_reads : MethodName := ⟨RX5, "reads", "(I)I"⟩
abbrev cX5_isGiving : ByteArray := prog_7_method_20_code
def yX5_isGiving : MethodName := ⟨RX5, "isGiving", "(II)Z"⟩
abbrev cX5_isClaiming : ByteArray := prog_7_method_21_code
def yX5_isClaiming : MethodName := ⟨RX5, "isClaiming", "(II)Z"⟩
abbrev cX5_minds : ByteArray := prog_7_method_22_code
def yX5_minds : MethodName := ⟨RX5, "minds", "(I)I"⟩
abbrev cX5_heat : ByteArray := prog_7_method_23_code
def yX5_heat : MethodName := ⟨RX5, "heat", "(I)I"⟩
abbrev cX5_living : ByteArray := prog_7_method_24_code
def yX5_living : MethodName := ⟨RX5, "living", "()I"⟩
abbrev cX5_contentOfAll : ByteArray := prog_7_method_25_code
def yX5_contentOfAll : MethodName := ⟨RX5, "contentOfAll", "()I"⟩
abbrev cX5_now : ByteArray := prog_7_method_26_code
def yX5_now : MethodName := ⟨RX5, "now", "(I)I"⟩
abbrev cX5_adds : ByteArray := prog_7_method_27_code
def yX5_adds : MethodName := ⟨RX5, "adds", "(II)V"⟩
abbrev cX5_person : ByteArray := prog_7_method_28_code
def yX5_person : MethodName := ⟨RX5, "person", "(I)I"⟩
abbrev cX5_of : ByteArray := prog_7_method_29_code
def yX5_of : MethodName := ⟨RX5, "of", "(II)I"⟩
abbrev cX5_isPart : ByteArray := prog_7_method_30_code
def yX5_isPart : MethodName := ⟨RX5, "isPart", "(II)Z"⟩
abbrev cX5_set : ByteArray := prog_7_method_31_code
def yX5_set : MethodName := ⟨RX5, "set", "(III)I"⟩
abbrev cX5_would : ByteArray := prog_7_method_32_code
def yX5_would : MethodName := ⟨RX5, "would", "(III)I"⟩
abbrev cX5_turn : ByteArray := prog_7_method_33_code
def yX5_turn : MethodName := ⟨RX5, "turn", "(II)I"⟩
abbrev cX5_as : ByteArray := prog_7_method_34_code
def yX5_as : MethodName := ⟨RX5, "as", "(II)I"⟩
abbrev cX5_addsGarment : ByteArray := prog_7_method_35_code
def yX5_addsGarment : MethodName := ⟨RX5, "addsGarment", "(IIII)V"⟩
abbrev cX5_garment : ByteArray := prog_7_method_36_code
def yX5_garment : MethodName := ⟨RX5, "garment", "(II)I"⟩
abbrev cX5_garmentOf : ByteArray := prog_7_method_37_code
def yX5_garmentOf : MethodName := ⟨RX5, "garmentOf", "(II)I"⟩
abbrev cX5_isSewing : ByteArray := prog_7_method_38_code
def yX5_isSewing : MethodName := ⟨RX5, "isSewing", "(II)Z"⟩
abbrev cX5_sew : ByteArray := prog_7_method_39_code
def yX5_sew : MethodName := ⟨RX5, "sew", "(III)I"⟩
abbrev cX5_washes : ByteArray := prog_7_method_40_code
def yX5_washes : MethodName := ⟨RX5, "washes", "(I)V"⟩
abbrev cX5_lies : ByteArray := prog_7_method_41_code
def yX5_lies : MethodName := ⟨RX5, "lies", "(I)V"⟩
abbrev cX5_oneWeek : ByteArray := prog_7_method_42_code
def yX5_oneWeek : MethodName := ⟨RX5, "oneWeek", "()V"⟩
abbrev cX5_passes : ByteArray := prog_7_method_43_code
def yX5_passes : MethodName := ⟨RX5, "passes", "(I)V"⟩
abbrev cX5_weeks : ByteArray := prog_7_method_44_code
def yX5_weeks : MethodName := ⟨RX5, "weeks", "(I)I"⟩
abbrev cX5_behind : ByteArray := prog_7_method_45_code
def yX5_behind : MethodName := ⟨RX5, "behind", "(II)I"⟩
abbrev cX5_on : ByteArray := prog_7_method_46_code
def yX5_on : MethodName := ⟨RX5, "on", "(III)I"⟩
abbrev cX5_then : ByteArray := prog_7_method_47_code
def yX5_then : MethodName := ⟨RX5, "then", "(II)I"⟩
abbrev cX5_lost : ByteArray := prog_7_method_48_code
def yX5_lost : MethodName := ⟨RX5, "lost", "(I)I"⟩
abbrev cX5_comes : ByteArray := prog_7_method_49_code
def yX5_comes : MethodName := ⟨RX5, "comes", "(II)I"⟩
abbrev cX5_rightIn : ByteArray := prog_7_method_50_code
def yX5_rightIn : MethodName := ⟨RX5, "rightIn", "(II)I"⟩
abbrev cX5_mark : ByteArray := prog_7_method_51_code
def yX5_mark : MethodName := ⟨RX5, "mark", "(II)I"⟩
abbrev cX5_kind : ByteArray := prog_7_method_52_code
def yX5_kind : MethodName := ⟨RX5, "kind", "(II)I"⟩
abbrev cX5_isRightBehind : ByteArray := prog_7_method_53_code
def yX5_isRightBehind : MethodName := ⟨RX5, "isRightBehind", "(II)Z"⟩
abbrev cX5_warmest : ByteArray := prog_7_method_54_code
def yX5_warmest : MethodName := ⟨RX5, "warmest", "(II)I"⟩
abbrev cX5_plain : ByteArray := prog_7_method_55_code
def yX5_plain : MethodName := ⟨RX5, "plain", "(II)I"⟩
abbrev cX5_teach : ByteArray := prog_7_method_56_code
def yX5_teach : MethodName := ⟨RX5, "teach", "(I)I"⟩
abbrev cX5_best : ByteArray := prog_7_method_57_code
def yX5_best : MethodName := ⟨RX5, "best", "(I)I"⟩
abbrev cX5_feed : ByteArray := prog_7_method_58_code
def yX5_feed : MethodName := ⟨RX5, "feed", "(II)I"⟩
abbrev cX5_wipe : ByteArray := prog_7_method_59_code
def yX5_wipe : MethodName := ⟨RX5, "wipe", "()I"⟩
abbrev cX5_byteAt : ByteArray := prog_7_method_60_code
def yX5_byteAt : MethodName := ⟨RX5, "byteAt", "(I)I"⟩
abbrev cX5_isLetter : ByteArray := prog_7_method_61_code
def yX5_isLetter : MethodName := ⟨RX5, "isLetter", "(I)Z"⟩
abbrev cX5_isDigit : ByteArray := prog_7_method_62_code
def yX5_isDigit : MethodName := ⟨RX5, "isDigit", "(I)Z"⟩
abbrev cX5_advance : ByteArray := prog_7_method_63_code
def yX5_advance : MethodName := ⟨RX5, "advance", "()V"⟩
abbrev cX5_isWord : ByteArray := prog_7_method_64_code
def yX5_isWord : MethodName := ⟨RX5, "isWord", "(J)Z"⟩
abbrev cX5_kindHere : ByteArray := prog_7_method_65_code
def yX5_kindHere : MethodName := ⟨RX5, "kindHere", "()I"⟩
abbrev cX5_markHere : ByteArray := prog_7_method_66_code
def yX5_markHere : MethodName := ⟨RX5, "markHere", "()I"⟩
abbrev cX5_wantNumber : ByteArray := prog_7_method_67_code
def yX5_wantNumber : MethodName := ⟨RX5, "wantNumber", "(II)I"⟩
abbrev cX5_mayWant : ByteArray := prog_7_method_68_code
def yX5_mayWant : MethodName := ⟨RX5, "mayWant", "(JIII)I"⟩
abbrev cX5_wantOne : ByteArray := prog_7_method_69_code
def yX5_wantOne : MethodName := ⟨RX5, "wantOne", "(I)V"⟩
abbrev cX5_wantGarment : ByteArray := prog_7_method_70_code
def yX5_wantGarment : MethodName := ⟨RX5, "wantGarment", "(I)V"⟩
abbrev cX5_wantItem : ByteArray := prog_7_method_71_code
def yX5_wantItem : MethodName := ⟨RX5, "wantItem", "()V"⟩
abbrev cX5_home : ByteArray := prog_7_method_72_code
def yX5_home : MethodName := ⟨RX5, "home", "()I"⟩
abbrev cX5_isSheet : ByteArray := prog_7_method_73_code
def yX5_isSheet : MethodName := ⟨RX5, "isSheet", "(I)Z"⟩
abbrev cX5_narrow : ByteArray := prog_7_method_74_code
def yX5_narrow : MethodName := ⟨RX5, "narrow", "(IJ)J"⟩
abbrev cX5_sheet : ByteArray := prog_7_method_75_code
def yX5_sheet : MethodName := ⟨RX5, "sheet", "(III)I"⟩
abbrev cX5_write : ByteArray := prog_7_method_76_code
def yX5_write : MethodName := ⟨RX5, "write", "(IIJ)J"⟩
abbrev cX5_isPart_ : ByteArray := prog_7_method_77_code
def yX5_isPart_ : MethodName := ⟨RX5, "isPart", "(III)Z"⟩
abbrev cX5_copy : ByteArray := prog_7_method_78_code
def yX5_copy : MethodName := ⟨RX5, "copy", "(IIIII)I"⟩
abbrev cX5_badSheet : ByteArray := prog_7_method_79_code
def yX5_badSheet : MethodName := ⟨RX5, "badSheet", "(I)I"⟩
abbrev cX5_lays : ByteArray := prog_7_method_80_code
def yX5_lays : MethodName := ⟨RX5, "lays", "(I)I"⟩
abbrev cX5_book : ByteArray := prog_7_method_81_code
def yX5_book : MethodName := ⟨RX5, "book", "(II)I"⟩
abbrev cX5_isSo : ByteArray := prog_7_method_82_code
def yX5_isSo : MethodName := ⟨RX5, "isSo", "(II)Z"⟩
abbrev cX5_read : ByteArray := prog_7_method_83_code
def yX5_read : MethodName := ⟨RX5, "read", "(II)I"⟩
abbrev cX5_moveAll : ByteArray := prog_7_method_84_code
def yX5_moveAll : MethodName := ⟨RX5, "moveAll", "(Z[I)V"⟩
abbrev cX5_image : ByteArray := prog_7_method_85_code
def yX5_image : MethodName := ⟨RX5, "image", "()I"⟩
abbrev cX5_undo : ByteArray := prog_7_method_86_code
def yX5_undo : MethodName := ⟨RX5, "undo", "()I"⟩
abbrev cX5_tear : ByteArray := prog_7_method_87_code
def yX5_tear : MethodName := ⟨RX5, "tear", "()I"⟩
abbrev cX5_names : ByteArray := prog_7_method_88_code
def yX5_names : MethodName := ⟨RX5, "names", "()I"⟩
abbrev cX5_count : ByteArray := prog_7_method_89_code
def yX5_count : MethodName := ⟨RX5, "count", "(I)I"⟩
abbrev cX5_status : ByteArray := prog_7_method_90_code
def yX5_status : MethodName := ⟨RX5, "status", "(I)I"⟩
def RJ6 : String := "java/lang/Integer"
def TJ6 : u_T := fun k => match k with
  | _ => ("", "", "", false)
def tyJ6 : Nat → FieldType := fun k => match k with
  | _ => .int
theorem nmJ6 : ∀ a, a < 0 → ∀ b, b < 0 → a ≠ b → (TJ6 a).2.1 ≠ (TJ6 b).2.1 := by decide +kernel
theorem tyJ6_ok : ∀ k, k < 0 → parseFieldDescriptor (TJ6 k).2.2.1 = some (tyJ6 k) := by decide +kernel
abbrev cJ6_bitCount_0f7a4 : ByteArray := prog_8_method_49_code
def yJ6_bitCount_0f7a4 : MethodName := ⟨RJ6, "bitCount", "(I)I"⟩
def RJ9 : String := "java/lang/Math"
def TJ9 : u_T := fun k => match k with
  | _ => ("", "", "", false)
def tyJ9 : Nat → FieldType := fun k => match k with
  | _ => .int
theorem nmJ9 : ∀ a, a < 0 → ∀ b, b < 0 → a ≠ b → (TJ9 a).2.1 ≠ (TJ9 b).2.1 := by decide +kernel
theorem tyJ9_ok : ∀ k, k < 0 → parseFieldDescriptor (TJ9 k).2.2.1 = some (tyJ9 k) := by decide +kernel
abbrev cJ9_max_7cf53 : ByteArray := prog_9_method_65_code
def yJ9_max_7cf53 : MethodName := ⟨RJ9, "max", "(II)I"⟩
abbrev cJ9_min_7cf53 : ByteArray := prog_9_method_69_code
def yJ9_min_7cf53 : MethodName := ⟨RJ9, "min", "(II)I"⟩
def RJ0 : String := "java/lang/String"
def TJ0 : u_T := fun k => match k with
  | _ => ("", "", "", false)
def tyJ0 : Nat → FieldType := fun k => match k with
  | _ => .int
theorem nmJ0 : ∀ a, a < 0 → ∀ b, b < 0 → a ≠ b → (TJ0 a).2.1 ≠ (TJ0 b).2.1 := by decide +kernel
theorem tyJ0_ok : ∀ k, k < 0 → parseFieldDescriptor (TJ0 k).2.2.1 = some (tyJ0 k) := by decide +kernel
abbrev cJ0_length_8abf5 : ByteArray := prog_10_method_54_code
def yJ0_length_8abf5 : MethodName := ⟨RJ0, "length", "()I"⟩
abbrev cJ0_charAt_5068e : ByteArray := prog_10_method_56_code
def yJ0_charAt_5068e : MethodName := ⟨RJ0, "charAt", "(I)C"⟩
abbrev cJ0_coder_7d493 : ByteArray := prog_10_method_152_code
def yJ0_coder_7d493 : MethodName := ⟨RJ0, "coder", "()B"⟩
abbrev cJ0_isLatin1_aae02 : ByteArray := prog_10_method_154_code
def yJ0_isLatin1_aae02 : MethodName := ⟨RJ0, "isLatin1", "()Z"⟩
abbrev cJ0_checkIndex_df160 : ByteArray := prog_10_method_155_code
def yJ0_checkIndex_df160 : MethodName := ⟨RJ0, "checkIndex", "(II)V"⟩
def RJ1 : String := "java/lang/StringLatin1"
def TJ1 : u_T := fun k => match k with
  | _ => ("", "", "", false)
def tyJ1 : Nat → FieldType := fun k => match k with
  | _ => .int
theorem nmJ1 : ∀ a, a < 0 → ∀ b, b < 0 → a ≠ b → (TJ1 a).2.1 ≠ (TJ1 b).2.1 := by decide +kernel
theorem tyJ1_ok : ∀ k, k < 0 → parseFieldDescriptor (TJ1 k).2.2.1 = some (tyJ1 k) := by decide +kernel
abbrev cJ1_charAt_3b067 : ByteArray := prog_11_method_2_code
def yJ1_charAt_3b067 : MethodName := ⟨RJ1, "charAt", "([BI)C"⟩
def RJ2 : String := "java/lang/StringUTF16"
def TJ2 : u_T := fun k => match k with
  | _ => ("", "", "", false)
def tyJ2 : Nat → FieldType := fun k => match k with
  | _ => .int
theorem nmJ2 : ∀ a, a < 0 → ∀ b, b < 0 → a ≠ b → (TJ2 a).2.1 ≠ (TJ2 b).2.1 := by decide +kernel
theorem tyJ2_ok : ∀ k, k < 0 → parseFieldDescriptor (TJ2 k).2.2.1 = some (tyJ2 k) := by decide +kernel
abbrev cJ2_getChar_3b067 : ByteArray := prog_12_method_5_code
def yJ2_getChar_3b067 : MethodName := ⟨RJ2, "getChar", "([BI)C"⟩
abbrev cJ2_length_9d52b : ByteArray := prog_12_method_6_code
def yJ2_length_9d52b : MethodName := ⟨RJ2, "length", "([B)I"⟩
abbrev cJ2_charAt_3b067 : ByteArray := prog_12_method_83_code
def yJ2_charAt_3b067 : MethodName := ⟨RJ2, "charAt", "([BI)C"⟩
abbrev cJ2_checkIndex_2214a : ByteArray := prog_12_method_91_code
def yJ2_checkIndex_2214a : MethodName := ⟨RJ2, "checkIndex", "(I[B)V"⟩
def RJ10 : String := "java/lang/System"
def TJ10 : u_T := fun k => match k with
  | _ => ("", "", "", false)
def tyJ10 : Nat → FieldType := fun k => match k with
  | _ => .int
theorem nmJ10 : ∀ a, a < 0 → ∀ b, b < 0 → a ≠ b → (TJ10 a).2.1 ≠ (TJ10 b).2.1 := by decide +kernel
theorem tyJ10_ok : ∀ k, k < 0 → parseFieldDescriptor (TJ10 k).2.2.1 = some (tyJ10 k) := by decide +kernel
def RJ3 : String := "jdk/internal/util/Preconditions"
def TJ3 : u_T := fun k => match k with
  | _ => ("", "", "", false)
def tyJ3 : Nat → FieldType := fun k => match k with
  | _ => .int
theorem nmJ3 : ∀ a, a < 0 → ∀ b, b < 0 → a ≠ b → (TJ3 a).2.1 ≠ (TJ3 b).2.1 := by decide +kernel
theorem tyJ3_ok : ∀ k, k < 0 → parseFieldDescriptor (TJ3 k).2.2.1 = some (tyJ3 k) := by decide +kernel
abbrev cJ3_checkIndex_8e157 : ByteArray := prog_14_method_11_code
def yJ3_checkIndex_8e157 : MethodName := ⟨RJ3, "checkIndex", "(IILjava/util/function/BiFunction;)I"⟩
def RL : String := "CollarNamesLaw"
abbrev cL_law : ByteArray := code
def yL_law : MethodName := ⟨RL, "law", "([I)Z"⟩
abbrev vwCl : List vw_C := [(RX0, TX0, 14), (RX1, TX1, 3), (RX2, TX2, 3), (RX3, TX3, 6), (RX4, TX4, 8), (RX5, TX5, 19)]
end
section
theorem dX0_init_0 : decode cX0_init 0 = .ok (.aload_n 0, 1) := by decide +kernel
theorem dX0_init_1 : decode cX0_init 1 = .ok (.invokespecial 3, 3) := by decide +kernel
theorem dX0_init_4 : decode cX0_init 4 = .ok (.aload_n 0, 1) := by decide +kernel
theorem dX0_init_5 : decode cX0_init 5 = .ok (.iconst 0, 1) := by decide +kernel
theorem dX0_init_6 : decode cX0_init 6 = .ok (.putfield 9, 3) := by decide +kernel
theorem dX0_init_9 : decode cX0_init 9 = .ok (.aload_n 0, 1) := by decide +kernel
theorem dX0_init_10 : decode cX0_init 10 = .ok (.bipush 60, 2) := by decide +kernel
theorem dX0_init_12 : decode cX0_init 12 = .ok (.putfield 15, 3) := by decide +kernel
theorem dX0_init_15 : decode cX0_init 15 = .ok (.aload_n 0, 1) := by decide +kernel
theorem dX0_init_16 : decode cX0_init 16 = .ok (.iconst 0, 1) := by decide +kernel
theorem dX0_init_17 : decode cX0_init 17 = .ok (.putfield 18, 3) := by decide +kernel
theorem dX0_init_20 : decode cX0_init 20 = .ok (.aload_n 0, 1) := by decide +kernel
theorem dX0_init_21 : decode cX0_init 21 = .ok (.bipush 6, 2) := by decide +kernel
theorem dX0_init_23 : decode cX0_init 23 = .ok (.newarray .int, 2) := by decide +kernel
theorem dX0_init_25 : decode cX0_init 25 = .ok (.putfield 21, 3) := by decide +kernel
theorem dX0_init_28 : decode cX0_init 28 = .ok (.aload_n 0, 1) := by decide +kernel
theorem dX0_init_29 : decode cX0_init 29 = .ok (.bipush 6, 2) := by decide +kernel
theorem dX0_init_31 : decode cX0_init 31 = .ok (.newarray .int, 2) := by decide +kernel
theorem dX0_init_33 : decode cX0_init 33 = .ok (.putfield 25, 3) := by decide +kernel
theorem dX0_init_36 : decode cX0_init 36 = .ok (.aload_n 0, 1) := by decide +kernel
theorem dX0_init_37 : decode cX0_init 37 = .ok (.bipush 6, 2) := by decide +kernel
theorem dX0_init_39 : decode cX0_init 39 = .ok (.newarray .int, 2) := by decide +kernel
theorem dX0_init_41 : decode cX0_init 41 = .ok (.putfield 28, 3) := by decide +kernel
theorem dX0_init_44 : decode cX0_init 44 = .ok (.aload_n 0, 1) := by decide +kernel
theorem dX0_init_45 : decode cX0_init 45 = .ok (.bipush 6, 2) := by decide +kernel
theorem dX0_init_47 : decode cX0_init 47 = .ok (.newarray .int, 2) := by decide +kernel
theorem dX0_init_49 : decode cX0_init 49 = .ok (.putfield 31, 3) := by decide +kernel
theorem dX0_init_52 : decode cX0_init 52 = .ok (.aload_n 0, 1) := by decide +kernel
theorem dX0_init_53 : decode cX0_init 53 = .ok (.iconst 0, 1) := by decide +kernel
theorem dX0_init_54 : decode cX0_init 54 = .ok (.putfield 34, 3) := by decide +kernel
theorem dX0_init_57 : decode cX0_init 57 = .ok (.aload_n 0, 1) := by decide +kernel
theorem dX0_init_58 : decode cX0_init 58 = .ok (.bipush 10, 2) := by decide +kernel
theorem dX0_init_60 : decode cX0_init 60 = .ok (.newarray .int, 2) := by decide +kernel
theorem dX0_init_62 : decode cX0_init 62 = .ok (.putfield 37, 3) := by decide +kernel
theorem dX0_init_65 : decode cX0_init 65 = .ok (.aload_n 0, 1) := by decide +kernel
theorem dX0_init_66 : decode cX0_init 66 = .ok (.bipush 10, 2) := by decide +kernel
theorem dX0_init_68 : decode cX0_init 68 = .ok (.newarray .int, 2) := by decide +kernel
theorem dX0_init_70 : decode cX0_init 70 = .ok (.putfield 40, 3) := by decide +kernel
theorem dX0_init_73 : decode cX0_init 73 = .ok (.aload_n 0, 1) := by decide +kernel
theorem dX0_init_74 : decode cX0_init 74 = .ok (.bipush 10, 2) := by decide +kernel
theorem dX0_init_76 : decode cX0_init 76 = .ok (.newarray .int, 2) := by decide +kernel
theorem dX0_init_78 : decode cX0_init 78 = .ok (.putfield 43, 3) := by decide +kernel
theorem dX0_init_81 : decode cX0_init 81 = .ok (.aload_n 0, 1) := by decide +kernel
theorem dX0_init_82 : decode cX0_init 82 = .ok (.bipush 10, 2) := by decide +kernel
theorem dX0_init_84 : decode cX0_init 84 = .ok (.newarray .int, 2) := by decide +kernel
theorem dX0_init_86 : decode cX0_init 86 = .ok (.putfield 46, 3) := by decide +kernel
theorem dX0_init_89 : decode cX0_init 89 = .ok (.aload_n 0, 1) := by decide +kernel
theorem dX0_init_90 : decode cX0_init 90 = .ok (.bipush 6, 2) := by decide +kernel
theorem dX0_init_92 : decode cX0_init 92 = .ok (.newarray .int, 2) := by decide +kernel
theorem dX0_init_94 : decode cX0_init 94 = .ok (.putfield 49, 3) := by decide +kernel
theorem dX0_init_97 : decode cX0_init 97 = .ok (.aload_n 0, 1) := by decide +kernel
theorem dX0_init_98 : decode cX0_init 98 = .ok (.bipush 6, 2) := by decide +kernel
theorem dX0_init_100 : decode cX0_init 100 = .ok (.newarray .int, 2) := by decide +kernel
theorem dX0_init_102 : decode cX0_init 102 = .ok (.putfield 52, 3) := by decide +kernel
theorem dX0_init_105 : decode cX0_init 105 = .ok (.return_, 1) := by decide +kernel
theorem dX0_become_0 : decode cX0_become 0 = .ok (.aload_n 0, 1) := by decide +kernel
theorem dX0_become_1 : decode cX0_become 1 = .ok (.aload_n 1, 1) := by decide +kernel
theorem dX0_become_2 : decode cX0_become 2 = .ok (.getfield 9, 3) := by decide +kernel
theorem dX0_become_5 : decode cX0_become 5 = .ok (.putfield 9, 3) := by decide +kernel
theorem dX0_become_8 : decode cX0_become 8 = .ok (.aload_n 0, 1) := by decide +kernel
theorem dX0_become_9 : decode cX0_become 9 = .ok (.aload_n 1, 1) := by decide +kernel
theorem dX0_become_10 : decode cX0_become 10 = .ok (.getfield 15, 3) := by decide +kernel
theorem dX0_become_13 : decode cX0_become 13 = .ok (.putfield 15, 3) := by decide +kernel
theorem dX0_become_16 : decode cX0_become 16 = .ok (.aload_n 0, 1) := by decide +kernel
theorem dX0_become_17 : decode cX0_become 17 = .ok (.aload_n 1, 1) := by decide +kernel
theorem dX0_become_18 : decode cX0_become 18 = .ok (.getfield 18, 3) := by decide +kernel
theorem dX0_become_21 : decode cX0_become 21 = .ok (.putfield 18, 3) := by decide +kernel
theorem dX0_become_24 : decode cX0_become 24 = .ok (.aload_n 1, 1) := by decide +kernel
theorem dX0_become_25 : decode cX0_become 25 = .ok (.getfield 21, 3) := by decide +kernel
theorem dX0_become_28 : decode cX0_become 28 = .ok (.iconst 0, 1) := by decide +kernel
theorem dX0_become_29 : decode cX0_become 29 = .ok (.aload_n 0, 1) := by decide +kernel
theorem dX0_become_30 : decode cX0_become 30 = .ok (.getfield 21, 3) := by decide +kernel
theorem dX0_become_33 : decode cX0_become 33 = .ok (.iconst 0, 1) := by decide +kernel
theorem dX0_become_34 : decode cX0_become 34 = .ok (.bipush 6, 2) := by decide +kernel
theorem dX0_become_36 : decode cX0_become 36 = .ok (.invokestatic 55, 3) := by decide +kernel
theorem dX0_become_39 : decode cX0_become 39 = .ok (.aload_n 1, 1) := by decide +kernel
theorem dX0_become_40 : decode cX0_become 40 = .ok (.getfield 25, 3) := by decide +kernel
theorem dX0_become_43 : decode cX0_become 43 = .ok (.iconst 0, 1) := by decide +kernel
theorem dX0_become_44 : decode cX0_become 44 = .ok (.aload_n 0, 1) := by decide +kernel
theorem dX0_become_45 : decode cX0_become 45 = .ok (.getfield 25, 3) := by decide +kernel
theorem dX0_become_48 : decode cX0_become 48 = .ok (.iconst 0, 1) := by decide +kernel
theorem dX0_become_49 : decode cX0_become 49 = .ok (.bipush 6, 2) := by decide +kernel
theorem dX0_become_51 : decode cX0_become 51 = .ok (.invokestatic 55, 3) := by decide +kernel
theorem dX0_become_54 : decode cX0_become 54 = .ok (.aload_n 1, 1) := by decide +kernel
theorem dX0_become_55 : decode cX0_become 55 = .ok (.getfield 28, 3) := by decide +kernel
theorem dX0_become_58 : decode cX0_become 58 = .ok (.iconst 0, 1) := by decide +kernel
theorem dX0_become_59 : decode cX0_become 59 = .ok (.aload_n 0, 1) := by decide +kernel
theorem dX0_become_60 : decode cX0_become 60 = .ok (.getfield 28, 3) := by decide +kernel
theorem dX0_become_63 : decode cX0_become 63 = .ok (.iconst 0, 1) := by decide +kernel
theorem dX0_become_64 : decode cX0_become 64 = .ok (.bipush 6, 2) := by decide +kernel
theorem dX0_become_66 : decode cX0_become 66 = .ok (.invokestatic 55, 3) := by decide +kernel
theorem dX0_become_69 : decode cX0_become 69 = .ok (.aload_n 1, 1) := by decide +kernel
theorem dX0_become_70 : decode cX0_become 70 = .ok (.getfield 31, 3) := by decide +kernel
theorem dX0_become_73 : decode cX0_become 73 = .ok (.iconst 0, 1) := by decide +kernel
theorem dX0_become_74 : decode cX0_become 74 = .ok (.aload_n 0, 1) := by decide +kernel
theorem dX0_become_75 : decode cX0_become 75 = .ok (.getfield 31, 3) := by decide +kernel
theorem dX0_become_78 : decode cX0_become 78 = .ok (.iconst 0, 1) := by decide +kernel
theorem dX0_become_79 : decode cX0_become 79 = .ok (.bipush 6, 2) := by decide +kernel
theorem dX0_become_81 : decode cX0_become 81 = .ok (.invokestatic 55, 3) := by decide +kernel
theorem dX0_become_84 : decode cX0_become 84 = .ok (.aload_n 0, 1) := by decide +kernel
theorem dX0_become_85 : decode cX0_become 85 = .ok (.aload_n 1, 1) := by decide +kernel
theorem dX0_become_86 : decode cX0_become 86 = .ok (.getfield 34, 3) := by decide +kernel
theorem dX0_become_89 : decode cX0_become 89 = .ok (.putfield 34, 3) := by decide +kernel
theorem dX0_become_92 : decode cX0_become 92 = .ok (.aload_n 1, 1) := by decide +kernel
theorem dX0_become_93 : decode cX0_become 93 = .ok (.getfield 37, 3) := by decide +kernel
theorem dX0_become_96 : decode cX0_become 96 = .ok (.iconst 0, 1) := by decide +kernel
theorem dX0_become_97 : decode cX0_become 97 = .ok (.aload_n 0, 1) := by decide +kernel
theorem dX0_become_98 : decode cX0_become 98 = .ok (.getfield 37, 3) := by decide +kernel
theorem dX0_become_101 : decode cX0_become 101 = .ok (.iconst 0, 1) := by decide +kernel
theorem dX0_become_102 : decode cX0_become 102 = .ok (.bipush 10, 2) := by decide +kernel
theorem dX0_become_104 : decode cX0_become 104 = .ok (.invokestatic 55, 3) := by decide +kernel
theorem dX0_become_107 : decode cX0_become 107 = .ok (.aload_n 1, 1) := by decide +kernel
theorem dX0_become_108 : decode cX0_become 108 = .ok (.getfield 40, 3) := by decide +kernel
theorem dX0_become_111 : decode cX0_become 111 = .ok (.iconst 0, 1) := by decide +kernel
theorem dX0_become_112 : decode cX0_become 112 = .ok (.aload_n 0, 1) := by decide +kernel
theorem dX0_become_113 : decode cX0_become 113 = .ok (.getfield 40, 3) := by decide +kernel
theorem dX0_become_116 : decode cX0_become 116 = .ok (.iconst 0, 1) := by decide +kernel
theorem dX0_become_117 : decode cX0_become 117 = .ok (.bipush 10, 2) := by decide +kernel
theorem dX0_become_119 : decode cX0_become 119 = .ok (.invokestatic 55, 3) := by decide +kernel
theorem dX0_become_122 : decode cX0_become 122 = .ok (.aload_n 1, 1) := by decide +kernel
theorem dX0_become_123 : decode cX0_become 123 = .ok (.getfield 43, 3) := by decide +kernel
theorem dX0_become_126 : decode cX0_become 126 = .ok (.iconst 0, 1) := by decide +kernel
theorem dX0_become_127 : decode cX0_become 127 = .ok (.aload_n 0, 1) := by decide +kernel
theorem dX0_become_128 : decode cX0_become 128 = .ok (.getfield 43, 3) := by decide +kernel
theorem dX0_become_131 : decode cX0_become 131 = .ok (.iconst 0, 1) := by decide +kernel
theorem dX0_become_132 : decode cX0_become 132 = .ok (.bipush 10, 2) := by decide +kernel
theorem dX0_become_134 : decode cX0_become 134 = .ok (.invokestatic 55, 3) := by decide +kernel
theorem dX0_become_137 : decode cX0_become 137 = .ok (.aload_n 1, 1) := by decide +kernel
theorem dX0_become_138 : decode cX0_become 138 = .ok (.getfield 46, 3) := by decide +kernel
theorem dX0_become_141 : decode cX0_become 141 = .ok (.iconst 0, 1) := by decide +kernel
theorem dX0_become_142 : decode cX0_become 142 = .ok (.aload_n 0, 1) := by decide +kernel
theorem dX0_become_143 : decode cX0_become 143 = .ok (.getfield 46, 3) := by decide +kernel
theorem dX0_become_146 : decode cX0_become 146 = .ok (.iconst 0, 1) := by decide +kernel
theorem dX0_become_147 : decode cX0_become 147 = .ok (.bipush 10, 2) := by decide +kernel
theorem dX0_become_149 : decode cX0_become 149 = .ok (.invokestatic 55, 3) := by decide +kernel
theorem dX0_become_152 : decode cX0_become 152 = .ok (.return_, 1) := by decide +kernel
theorem dX0_hasPerson_0 : decode cX0_hasPerson 0 = .ok (.iload_n 1, 1) := by decide +kernel
theorem dX0_hasPerson_1 : decode cX0_hasPerson 1 = .ok (.iconst 0, 1) := by decide +kernel
theorem dX0_hasPerson_2 : decode cX0_hasPerson 2 = .ok (.aload_n 0, 1) := by decide +kernel
theorem dX0_hasPerson_3 : decode cX0_hasPerson 3 = .ok (.getfield 18, 3) := by decide +kernel
theorem dX0_hasPerson_6 : decode cX0_hasPerson 6 = .ok (.iconst 1, 1) := by decide +kernel
theorem dX0_hasPerson_7 : decode cX0_hasPerson 7 = .ok (.isub, 1) := by decide +kernel
theorem dX0_hasPerson_8 : decode cX0_hasPerson 8 = .ok (.invokestatic 61, 3) := by decide +kernel
theorem dX0_hasPerson_11 : decode cX0_hasPerson 11 = .ok (.ireturn, 1) := by decide +kernel
theorem dX0_hasGarment_0 : decode cX0_hasGarment 0 = .ok (.iload_n 1, 1) := by decide +kernel
theorem dX0_hasGarment_1 : decode cX0_hasGarment 1 = .ok (.iconst 0, 1) := by decide +kernel
theorem dX0_hasGarment_2 : decode cX0_hasGarment 2 = .ok (.aload_n 0, 1) := by decide +kernel
theorem dX0_hasGarment_3 : decode cX0_hasGarment 3 = .ok (.getfield 34, 3) := by decide +kernel
theorem dX0_hasGarment_6 : decode cX0_hasGarment 6 = .ok (.iconst 1, 1) := by decide +kernel
theorem dX0_hasGarment_7 : decode cX0_hasGarment 7 = .ok (.isub, 1) := by decide +kernel
theorem dX0_hasGarment_8 : decode cX0_hasGarment 8 = .ok (.invokestatic 61, 3) := by decide +kernel
theorem dX0_hasGarment_11 : decode cX0_hasGarment 11 = .ok (.ireturn, 1) := by decide +kernel
theorem dX0_addPerson_0 : decode cX0_addPerson 0 = .ok (.aload_n 0, 1) := by decide +kernel
theorem dX0_addPerson_1 : decode cX0_addPerson 1 = .ok (.getfield 18, 3) := by decide +kernel
theorem dX0_addPerson_4 : decode cX0_addPerson 4 = .ok (.istore_n 2, 1) := by decide +kernel
theorem dX0_addPerson_5 : decode cX0_addPerson 5 = .ok (.aload_n 0, 1) := by decide +kernel
theorem dX0_addPerson_6 : decode cX0_addPerson 6 = .ok (.getfield 21, 3) := by decide +kernel
theorem dX0_addPerson_9 : decode cX0_addPerson 9 = .ok (.iload_n 2, 1) := by decide +kernel
theorem dX0_addPerson_10 : decode cX0_addPerson 10 = .ok (.iload_n 1, 1) := by decide +kernel
theorem dX0_addPerson_11 : decode cX0_addPerson 11 = .ok (.iastore, 1) := by decide +kernel
theorem dX0_addPerson_12 : decode cX0_addPerson 12 = .ok (.aload_n 0, 1) := by decide +kernel
theorem dX0_addPerson_13 : decode cX0_addPerson 13 = .ok (.getfield 25, 3) := by decide +kernel
theorem dX0_addPerson_16 : decode cX0_addPerson 16 = .ok (.iload_n 2, 1) := by decide +kernel
theorem dX0_addPerson_17 : decode cX0_addPerson 17 = .ok (.iload_n 2, 1) := by decide +kernel
theorem dX0_addPerson_18 : decode cX0_addPerson 18 = .ok (.iconst 3, 1) := by decide +kernel
theorem dX0_addPerson_19 : decode cX0_addPerson 19 = .ok (.irem, 1) := by decide +kernel
theorem dX0_addPerson_20 : decode cX0_addPerson 20 = .ok (.iastore, 1) := by decide +kernel
theorem dX0_addPerson_21 : decode cX0_addPerson 21 = .ok (.aload_n 0, 1) := by decide +kernel
theorem dX0_addPerson_22 : decode cX0_addPerson 22 = .ok (.getfield 28, 3) := by decide +kernel
theorem dX0_addPerson_25 : decode cX0_addPerson 25 = .ok (.iload_n 2, 1) := by decide +kernel
theorem dX0_addPerson_26 : decode cX0_addPerson 26 = .ok (.iconst 0, 1) := by decide +kernel
theorem dX0_addPerson_27 : decode cX0_addPerson 27 = .ok (.iastore, 1) := by decide +kernel
theorem dX0_addPerson_28 : decode cX0_addPerson 28 = .ok (.aload_n 0, 1) := by decide +kernel
theorem dX0_addPerson_29 : decode cX0_addPerson 29 = .ok (.getfield 31, 3) := by decide +kernel
theorem dX0_addPerson_32 : decode cX0_addPerson 32 = .ok (.iload_n 2, 1) := by decide +kernel
theorem dX0_addPerson_33 : decode cX0_addPerson 33 = .ok (.iconst 0, 1) := by decide +kernel
theorem dX0_addPerson_34 : decode cX0_addPerson 34 = .ok (.iastore, 1) := by decide +kernel
theorem dX0_addPerson_35 : decode cX0_addPerson 35 = .ok (.aload_n 0, 1) := by decide +kernel
theorem dX0_addPerson_36 : decode cX0_addPerson 36 = .ok (.dup, 1) := by decide +kernel
theorem dX0_addPerson_37 : decode cX0_addPerson 37 = .ok (.getfield 18, 3) := by decide +kernel
theorem dX0_addPerson_40 : decode cX0_addPerson 40 = .ok (.iconst 1, 1) := by decide +kernel
theorem dX0_addPerson_41 : decode cX0_addPerson 41 = .ok (.iadd, 1) := by decide +kernel
theorem dX0_addPerson_42 : decode cX0_addPerson 42 = .ok (.putfield 18, 3) := by decide +kernel
theorem dX0_addPerson_45 : decode cX0_addPerson 45 = .ok (.iload_n 2, 1) := by decide +kernel
theorem dX0_addPerson_46 : decode cX0_addPerson 46 = .ok (.ireturn, 1) := by decide +kernel
theorem dX0_addGarment_0 : decode cX0_addGarment 0 = .ok (.aload_n 0, 1) := by decide +kernel
theorem dX0_addGarment_1 : decode cX0_addGarment 1 = .ok (.getfield 34, 3) := by decide +kernel
theorem dX0_addGarment_4 : decode cX0_addGarment 4 = .ok (.istore_n 3, 1) := by decide +kernel
theorem dX0_addGarment_5 : decode cX0_addGarment 5 = .ok (.aload_n 0, 1) := by decide +kernel
theorem dX0_addGarment_6 : decode cX0_addGarment 6 = .ok (.getfield 37, 3) := by decide +kernel
theorem dX0_addGarment_9 : decode cX0_addGarment 9 = .ok (.iload_n 3, 1) := by decide +kernel
theorem dX0_addGarment_10 : decode cX0_addGarment 10 = .ok (.iload_n 1, 1) := by decide +kernel
theorem dX0_addGarment_11 : decode cX0_addGarment 11 = .ok (.iastore, 1) := by decide +kernel
theorem dX0_addGarment_12 : decode cX0_addGarment 12 = .ok (.aload_n 0, 1) := by decide +kernel
theorem dX0_addGarment_13 : decode cX0_addGarment 13 = .ok (.getfield 40, 3) := by decide +kernel
theorem dX0_addGarment_16 : decode cX0_addGarment 16 = .ok (.iload_n 3, 1) := by decide +kernel
theorem dX0_addGarment_17 : decode cX0_addGarment 17 = .ok (.iload_n 2, 1) := by decide +kernel
theorem dX0_addGarment_18 : decode cX0_addGarment 18 = .ok (.iastore, 1) := by decide +kernel
theorem dX0_addGarment_19 : decode cX0_addGarment 19 = .ok (.aload_n 0, 1) := by decide +kernel
theorem dX0_addGarment_20 : decode cX0_addGarment 20 = .ok (.getfield 43, 3) := by decide +kernel
theorem dX0_addGarment_23 : decode cX0_addGarment 23 = .ok (.iload_n 3, 1) := by decide +kernel
theorem dX0_addGarment_24 : decode cX0_addGarment 24 = .ok (.bipush 99, 2) := by decide +kernel
theorem dX0_addGarment_26 : decode cX0_addGarment 26 = .ok (.iastore, 1) := by decide +kernel
theorem dX0_addGarment_27 : decode cX0_addGarment 27 = .ok (.aload_n 0, 1) := by decide +kernel
theorem dX0_addGarment_28 : decode cX0_addGarment 28 = .ok (.getfield 46, 3) := by decide +kernel
theorem dX0_addGarment_31 : decode cX0_addGarment 31 = .ok (.iload_n 3, 1) := by decide +kernel
theorem dX0_addGarment_32 : decode cX0_addGarment 32 = .ok (.iload_n 1, 1) := by decide +kernel
theorem dX0_addGarment_33 : decode cX0_addGarment 33 = .ok (.iastore, 1) := by decide +kernel
theorem dX0_addGarment_34 : decode cX0_addGarment 34 = .ok (.aload_n 0, 1) := by decide +kernel
theorem dX0_addGarment_35 : decode cX0_addGarment 35 = .ok (.dup, 1) := by decide +kernel
theorem dX0_addGarment_36 : decode cX0_addGarment 36 = .ok (.getfield 34, 3) := by decide +kernel
theorem dX0_addGarment_39 : decode cX0_addGarment 39 = .ok (.iconst 1, 1) := by decide +kernel
theorem dX0_addGarment_40 : decode cX0_addGarment 40 = .ok (.iadd, 1) := by decide +kernel
theorem dX0_addGarment_41 : decode cX0_addGarment 41 = .ok (.putfield 34, 3) := by decide +kernel
theorem dX0_addGarment_44 : decode cX0_addGarment 44 = .ok (.iload_n 3, 1) := by decide +kernel
theorem dX0_addGarment_45 : decode cX0_addGarment 45 = .ok (.ireturn, 1) := by decide +kernel
theorem dX0_isRight_0 : decode cX0_isRight 0 = .ok (.aload_n 0, 1) := by decide +kernel
theorem dX0_isRight_1 : decode cX0_isRight 1 = .ok (.getfield 46, 3) := by decide +kernel
theorem dX0_isRight_4 : decode cX0_isRight 4 = .ok (.iload_n 1, 1) := by decide +kernel
theorem dX0_isRight_5 : decode cX0_isRight 5 = .ok (.iaload, 1) := by decide +kernel
theorem dX0_isRight_6 : decode cX0_isRight 6 = .ok (.aload_n 0, 1) := by decide +kernel
theorem dX0_isRight_7 : decode cX0_isRight 7 = .ok (.getfield 37, 3) := by decide +kernel
theorem dX0_isRight_10 : decode cX0_isRight 10 = .ok (.iload_n 1, 1) := by decide +kernel
theorem dX0_isRight_11 : decode cX0_isRight 11 = .ok (.iaload, 1) := by decide +kernel
theorem dX0_isRight_12 : decode cX0_isRight 12 = .ok (.if_icmp .ne 7, 3) := by decide +kernel
theorem dX0_isRight_15 : decode cX0_isRight 15 = .ok (.iconst 1, 1) := by decide +kernel
theorem dX0_isRight_16 : decode cX0_isRight 16 = .ok (.goto 4, 3) := by decide +kernel
theorem dX0_isRight_19 : decode cX0_isRight 19 = .ok (.iconst 0, 1) := by decide +kernel
theorem dX0_isRight_20 : decode cX0_isRight 20 = .ok (.ireturn, 1) := by decide +kernel
theorem dX0_setOfRight_0 : decode cX0_setOfRight 0 = .ok (.iconst 0, 1) := by decide +kernel
theorem dX0_setOfRight_1 : decode cX0_setOfRight 1 = .ok (.istore_n 1, 1) := by decide +kernel
theorem dX0_setOfRight_2 : decode cX0_setOfRight 2 = .ok (.iconst 0, 1) := by decide +kernel
theorem dX0_setOfRight_3 : decode cX0_setOfRight 3 = .ok (.istore_n 2, 1) := by decide +kernel
theorem dX0_setOfRight_4 : decode cX0_setOfRight 4 = .ok (.iload_n 2, 1) := by decide +kernel
theorem dX0_setOfRight_5 : decode cX0_setOfRight 5 = .ok (.aload_n 0, 1) := by decide +kernel
theorem dX0_setOfRight_6 : decode cX0_setOfRight 6 = .ok (.getfield 34, 3) := by decide +kernel
theorem dX0_setOfRight_9 : decode cX0_setOfRight 9 = .ok (.if_icmp .ge 23, 3) := by decide +kernel
theorem dX0_setOfRight_12 : decode cX0_setOfRight 12 = .ok (.aload_n 0, 1) := by decide +kernel
theorem dX0_setOfRight_13 : decode cX0_setOfRight 13 = .ok (.iload_n 2, 1) := by decide +kernel
theorem dX0_setOfRight_14 : decode cX0_setOfRight 14 = .ok (.invokevirtual 65, 3) := by decide +kernel
theorem dX0_setOfRight_17 : decode cX0_setOfRight 17 = .ok (.ifCond .eq 9, 3) := by decide +kernel
theorem dX0_setOfRight_20 : decode cX0_setOfRight 20 = .ok (.iload_n 1, 1) := by decide +kernel
theorem dX0_setOfRight_21 : decode cX0_setOfRight 21 = .ok (.iconst 1, 1) := by decide +kernel
theorem dX0_setOfRight_22 : decode cX0_setOfRight 22 = .ok (.iload_n 2, 1) := by decide +kernel
theorem dX0_setOfRight_23 : decode cX0_setOfRight 23 = .ok (.ishl, 1) := by decide +kernel
theorem dX0_setOfRight_24 : decode cX0_setOfRight 24 = .ok (.ior, 1) := by decide +kernel
theorem dX0_setOfRight_25 : decode cX0_setOfRight 25 = .ok (.istore_n 1, 1) := by decide +kernel
theorem dX0_setOfRight_26 : decode cX0_setOfRight 26 = .ok (.iinc 2 1, 3) := by decide +kernel
theorem dX0_setOfRight_29 : decode cX0_setOfRight 29 = .ok (.goto (-25), 3) := by decide +kernel
theorem dX0_setOfRight_32 : decode cX0_setOfRight 32 = .ok (.iload_n 1, 1) := by decide +kernel
theorem dX0_setOfRight_33 : decode cX0_setOfRight 33 = .ok (.ireturn, 1) := by decide +kernel
theorem dX0_setHeldBy_0 : decode cX0_setHeldBy 0 = .ok (.iconst 0, 1) := by decide +kernel
theorem dX0_setHeldBy_1 : decode cX0_setHeldBy 1 = .ok (.istore_n 2, 1) := by decide +kernel
theorem dX0_setHeldBy_2 : decode cX0_setHeldBy 2 = .ok (.iconst 0, 1) := by decide +kernel
theorem dX0_setHeldBy_3 : decode cX0_setHeldBy 3 = .ok (.istore_n 3, 1) := by decide +kernel
theorem dX0_setHeldBy_4 : decode cX0_setHeldBy 4 = .ok (.iload_n 3, 1) := by decide +kernel
theorem dX0_setHeldBy_5 : decode cX0_setHeldBy 5 = .ok (.aload_n 0, 1) := by decide +kernel
theorem dX0_setHeldBy_6 : decode cX0_setHeldBy 6 = .ok (.getfield 34, 3) := by decide +kernel
theorem dX0_setHeldBy_9 : decode cX0_setHeldBy 9 = .ok (.if_icmp .ge 25, 3) := by decide +kernel
theorem dX0_setHeldBy_12 : decode cX0_setHeldBy 12 = .ok (.aload_n 0, 1) := by decide +kernel
theorem dX0_setHeldBy_13 : decode cX0_setHeldBy 13 = .ok (.getfield 46, 3) := by decide +kernel
theorem dX0_setHeldBy_16 : decode cX0_setHeldBy 16 = .ok (.iload_n 3, 1) := by decide +kernel
theorem dX0_setHeldBy_17 : decode cX0_setHeldBy 17 = .ok (.iaload, 1) := by decide +kernel
theorem dX0_setHeldBy_18 : decode cX0_setHeldBy 18 = .ok (.iload_n 1, 1) := by decide +kernel
theorem dX0_setHeldBy_19 : decode cX0_setHeldBy 19 = .ok (.if_icmp .ne 9, 3) := by decide +kernel
theorem dX0_setHeldBy_22 : decode cX0_setHeldBy 22 = .ok (.iload_n 2, 1) := by decide +kernel
theorem dX0_setHeldBy_23 : decode cX0_setHeldBy 23 = .ok (.iconst 1, 1) := by decide +kernel
theorem dX0_setHeldBy_24 : decode cX0_setHeldBy 24 = .ok (.iload_n 3, 1) := by decide +kernel
theorem dX0_setHeldBy_25 : decode cX0_setHeldBy 25 = .ok (.ishl, 1) := by decide +kernel
theorem dX0_setHeldBy_26 : decode cX0_setHeldBy 26 = .ok (.ior, 1) := by decide +kernel
theorem dX0_setHeldBy_27 : decode cX0_setHeldBy 27 = .ok (.istore_n 2, 1) := by decide +kernel
theorem dX0_setHeldBy_28 : decode cX0_setHeldBy 28 = .ok (.iinc 3 1, 3) := by decide +kernel
theorem dX0_setHeldBy_31 : decode cX0_setHeldBy 31 = .ok (.goto (-27), 3) := by decide +kernel
theorem dX0_setHeldBy_34 : decode cX0_setHeldBy 34 = .ok (.iload_n 2, 1) := by decide +kernel
theorem dX0_setHeldBy_35 : decode cX0_setHeldBy 35 = .ok (.ireturn, 1) := by decide +kernel
theorem dX0_setOfLiving_0 : decode cX0_setOfLiving 0 = .ok (.iconst 0, 1) := by decide +kernel
theorem dX0_setOfLiving_1 : decode cX0_setOfLiving 1 = .ok (.istore_n 1, 1) := by decide +kernel
theorem dX0_setOfLiving_2 : decode cX0_setOfLiving 2 = .ok (.iconst 0, 1) := by decide +kernel
theorem dX0_setOfLiving_3 : decode cX0_setOfLiving 3 = .ok (.istore_n 2, 1) := by decide +kernel
theorem dX0_setOfLiving_4 : decode cX0_setOfLiving 4 = .ok (.iload_n 2, 1) := by decide +kernel
theorem dX0_setOfLiving_5 : decode cX0_setOfLiving 5 = .ok (.aload_n 0, 1) := by decide +kernel
theorem dX0_setOfLiving_6 : decode cX0_setOfLiving 6 = .ok (.getfield 18, 3) := by decide +kernel
theorem dX0_setOfLiving_9 : decode cX0_setOfLiving 9 = .ok (.if_icmp .ge 24, 3) := by decide +kernel
theorem dX0_setOfLiving_12 : decode cX0_setOfLiving 12 = .ok (.aload_n 0, 1) := by decide +kernel
theorem dX0_setOfLiving_13 : decode cX0_setOfLiving 13 = .ok (.getfield 31, 3) := by decide +kernel
theorem dX0_setOfLiving_16 : decode cX0_setOfLiving 16 = .ok (.iload_n 2, 1) := by decide +kernel
theorem dX0_setOfLiving_17 : decode cX0_setOfLiving 17 = .ok (.iaload, 1) := by decide +kernel
theorem dX0_setOfLiving_18 : decode cX0_setOfLiving 18 = .ok (.ifCond .ne 9, 3) := by decide +kernel
theorem dX0_setOfLiving_21 : decode cX0_setOfLiving 21 = .ok (.iload_n 1, 1) := by decide +kernel
theorem dX0_setOfLiving_22 : decode cX0_setOfLiving 22 = .ok (.iconst 1, 1) := by decide +kernel
theorem dX0_setOfLiving_23 : decode cX0_setOfLiving 23 = .ok (.iload_n 2, 1) := by decide +kernel
theorem dX0_setOfLiving_24 : decode cX0_setOfLiving 24 = .ok (.ishl, 1) := by decide +kernel
theorem dX0_setOfLiving_25 : decode cX0_setOfLiving 25 = .ok (.ior, 1) := by decide +kernel
theorem dX0_setOfLiving_26 : decode cX0_setOfLiving 26 = .ok (.istore_n 1, 1) := by decide +kernel
theorem dX0_setOfLiving_27 : decode cX0_setOfLiving 27 = .ok (.iinc 2 1, 3) := by decide +kernel
theorem dX0_setOfLiving_30 : decode cX0_setOfLiving 30 = .ok (.goto (-26), 3) := by decide +kernel
theorem dX0_setOfLiving_33 : decode cX0_setOfLiving 33 = .ok (.iload_n 1, 1) := by decide +kernel
theorem dX0_setOfLiving_34 : decode cX0_setOfLiving 34 = .ok (.ireturn, 1) := by decide +kernel
theorem dX0_sumOfContents_0 : decode cX0_sumOfContents 0 = .ok (.iconst 0, 1) := by decide +kernel
theorem dX0_sumOfContents_1 : decode cX0_sumOfContents 1 = .ok (.istore_n 1, 1) := by decide +kernel
theorem dX0_sumOfContents_2 : decode cX0_sumOfContents 2 = .ok (.iconst 0, 1) := by decide +kernel
theorem dX0_sumOfContents_3 : decode cX0_sumOfContents 3 = .ok (.istore_n 2, 1) := by decide +kernel
theorem dX0_sumOfContents_4 : decode cX0_sumOfContents 4 = .ok (.iload_n 2, 1) := by decide +kernel
theorem dX0_sumOfContents_5 : decode cX0_sumOfContents 5 = .ok (.aload_n 0, 1) := by decide +kernel
theorem dX0_sumOfContents_6 : decode cX0_sumOfContents 6 = .ok (.getfield 18, 3) := by decide +kernel
theorem dX0_sumOfContents_9 : decode cX0_sumOfContents 9 = .ok (.if_icmp .ge 18, 3) := by decide +kernel
theorem dX0_sumOfContents_12 : decode cX0_sumOfContents 12 = .ok (.iload_n 1, 1) := by decide +kernel
theorem dX0_sumOfContents_13 : decode cX0_sumOfContents 13 = .ok (.aload_n 0, 1) := by decide +kernel
theorem dX0_sumOfContents_14 : decode cX0_sumOfContents 14 = .ok (.getfield 28, 3) := by decide +kernel
theorem dX0_sumOfContents_17 : decode cX0_sumOfContents 17 = .ok (.iload_n 2, 1) := by decide +kernel
theorem dX0_sumOfContents_18 : decode cX0_sumOfContents 18 = .ok (.iaload, 1) := by decide +kernel
theorem dX0_sumOfContents_19 : decode cX0_sumOfContents 19 = .ok (.iadd, 1) := by decide +kernel
theorem dX0_sumOfContents_20 : decode cX0_sumOfContents 20 = .ok (.istore_n 1, 1) := by decide +kernel
theorem dX0_sumOfContents_21 : decode cX0_sumOfContents 21 = .ok (.iinc 2 1, 3) := by decide +kernel
theorem dX0_sumOfContents_24 : decode cX0_sumOfContents 24 = .ok (.goto (-20), 3) := by decide +kernel
theorem dX0_sumOfContents_27 : decode cX0_sumOfContents 27 = .ok (.iload_n 1, 1) := by decide +kernel
theorem dX0_sumOfContents_28 : decode cX0_sumOfContents 28 = .ok (.ireturn, 1) := by decide +kernel
theorem dX0_sumOfNames_0 : decode cX0_sumOfNames 0 = .ok (.iconst 0, 1) := by decide +kernel
theorem dX0_sumOfNames_1 : decode cX0_sumOfNames 1 = .ok (.istore_n 1, 1) := by decide +kernel
theorem dX0_sumOfNames_2 : decode cX0_sumOfNames 2 = .ok (.iconst 0, 1) := by decide +kernel
theorem dX0_sumOfNames_3 : decode cX0_sumOfNames 3 = .ok (.istore_n 2, 1) := by decide +kernel
theorem dX0_sumOfNames_4 : decode cX0_sumOfNames 4 = .ok (.iload_n 2, 1) := by decide +kernel
theorem dX0_sumOfNames_5 : decode cX0_sumOfNames 5 = .ok (.aload_n 0, 1) := by decide +kernel
theorem dX0_sumOfNames_6 : decode cX0_sumOfNames 6 = .ok (.getfield 34, 3) := by decide +kernel
theorem dX0_sumOfNames_9 : decode cX0_sumOfNames 9 = .ok (.if_icmp .ge 18, 3) := by decide +kernel
theorem dX0_sumOfNames_12 : decode cX0_sumOfNames 12 = .ok (.iload_n 1, 1) := by decide +kernel
theorem dX0_sumOfNames_13 : decode cX0_sumOfNames 13 = .ok (.aload_n 0, 1) := by decide +kernel
theorem dX0_sumOfNames_14 : decode cX0_sumOfNames 14 = .ok (.getfield 43, 3) := by decide +kernel
theorem dX0_sumOfNames_17 : decode cX0_sumOfNames 17 = .ok (.iload_n 2, 1) := by decide +kernel
theorem dX0_sumOfNames_18 : decode cX0_sumOfNames 18 = .ok (.iaload, 1) := by decide +kernel
theorem dX0_sumOfNames_19 : decode cX0_sumOfNames 19 = .ok (.iadd, 1) := by decide +kernel
theorem dX0_sumOfNames_20 : decode cX0_sumOfNames 20 = .ok (.istore_n 1, 1) := by decide +kernel
theorem dX0_sumOfNames_21 : decode cX0_sumOfNames 21 = .ok (.iinc 2 1, 3) := by decide +kernel
theorem dX0_sumOfNames_24 : decode cX0_sumOfNames 24 = .ok (.goto (-20), 3) := by decide +kernel
theorem dX0_sumOfNames_27 : decode cX0_sumOfNames 27 = .ok (.iload_n 1, 1) := by decide +kernel
theorem dX0_sumOfNames_28 : decode cX0_sumOfNames 28 = .ok (.ireturn, 1) := by decide +kernel
theorem dX0_fades_0 : decode cX0_fades 0 = .ok (.aload_n 0, 1) := by decide +kernel
theorem dX0_fades_1 : decode cX0_fades 1 = .ok (.getfield 40, 3) := by decide +kernel
theorem dX0_fades_4 : decode cX0_fades 4 = .ok (.iload_n 1, 1) := by decide +kernel
theorem dX0_fades_5 : decode cX0_fades 5 = .ok (.iaload, 1) := by decide +kernel
theorem dX0_fades_6 : decode cX0_fades 6 = .ok (.lookupswitch 52 #[(1, 26), (2, 44)], 26) := by decide +kernel
theorem dX0_fades_32 : decode cX0_fades 32 = .ok (.bipush 9, 2) := by decide +kernel
theorem dX0_fades_34 : decode cX0_fades 34 = .ok (.iconst 0, 1) := by decide +kernel
theorem dX0_fades_35 : decode cX0_fades 35 = .ok (.aload_n 0, 1) := by decide +kernel
theorem dX0_fades_36 : decode cX0_fades 36 = .ok (.getfield 15, 3) := by decide +kernel
theorem dX0_fades_39 : decode cX0_fades 39 = .ok (.bipush 50, 2) := by decide +kernel
theorem dX0_fades_41 : decode cX0_fades 41 = .ok (.isub, 1) := by decide +kernel
theorem dX0_fades_42 : decode cX0_fades 42 = .ok (.invokestatic 69, 3) := by decide +kernel
theorem dX0_fades_45 : decode cX0_fades 45 = .ok (.bipush 10, 2) := by decide +kernel
theorem dX0_fades_47 : decode cX0_fades 47 = .ok (.idiv, 1) := by decide +kernel
theorem dX0_fades_48 : decode cX0_fades 48 = .ok (.iadd, 1) := by decide +kernel
theorem dX0_fades_49 : decode cX0_fades 49 = .ok (.ireturn, 1) := by decide +kernel
theorem dX0_fades_50 : decode cX0_fades 50 = .ok (.aload_n 0, 1) := by decide +kernel
theorem dX0_fades_51 : decode cX0_fades 51 = .ok (.getfield 15, 3) := by decide +kernel
theorem dX0_fades_54 : decode cX0_fades 54 = .ok (.bipush 6, 2) := by decide +kernel
theorem dX0_fades_56 : decode cX0_fades 56 = .ok (.idiv, 1) := by decide +kernel
theorem dX0_fades_57 : decode cX0_fades 57 = .ok (.ireturn, 1) := by decide +kernel
theorem dX0_fades_58 : decode cX0_fades 58 = .ok (.iconst 1, 1) := by decide +kernel
theorem dX0_fades_59 : decode cX0_fades 59 = .ok (.ireturn, 1) := by decide +kernel
theorem dX0_readsFor_0 : decode cX0_readsFor 0 = .ok (.aload_n 0, 1) := by decide +kernel
theorem dX0_readsFor_1 : decode cX0_readsFor 1 = .ok (.getfield 37, 3) := by decide +kernel
theorem dX0_readsFor_4 : decode cX0_readsFor 4 = .ok (.iload_n 1, 1) := by decide +kernel
theorem dX0_readsFor_5 : decode cX0_readsFor 5 = .ok (.iaload, 1) := by decide +kernel
theorem dX0_readsFor_6 : decode cX0_readsFor 6 = .ok (.istore_n 2, 1) := by decide +kernel
theorem dX0_readsFor_7 : decode cX0_readsFor 7 = .ok (.aload_n 0, 1) := by decide +kernel
theorem dX0_readsFor_8 : decode cX0_readsFor 8 = .ok (.getfield 43, 3) := by decide +kernel
theorem dX0_readsFor_11 : decode cX0_readsFor 11 = .ok (.iload_n 1, 1) := by decide +kernel
theorem dX0_readsFor_12 : decode cX0_readsFor 12 = .ok (.iaload, 1) := by decide +kernel
theorem dX0_readsFor_13 : decode cX0_readsFor 13 = .ok (.bipush 60, 2) := by decide +kernel
theorem dX0_readsFor_15 : decode cX0_readsFor 15 = .ok (.if_icmp .lt 14, 3) := by decide +kernel
theorem dX0_readsFor_18 : decode cX0_readsFor 18 = .ok (.aload_n 0, 1) := by decide +kernel
theorem dX0_readsFor_19 : decode cX0_readsFor 19 = .ok (.getfield 31, 3) := by decide +kernel
theorem dX0_readsFor_22 : decode cX0_readsFor 22 = .ok (.iload_n 2, 1) := by decide +kernel
theorem dX0_readsFor_23 : decode cX0_readsFor 23 = .ok (.iaload, 1) := by decide +kernel
theorem dX0_readsFor_24 : decode cX0_readsFor 24 = .ok (.ifCond .ne 5, 3) := by decide +kernel
theorem dX0_readsFor_27 : decode cX0_readsFor 27 = .ok (.iload_n 2, 1) := by decide +kernel
theorem dX0_readsFor_28 : decode cX0_readsFor 28 = .ok (.ireturn, 1) := by decide +kernel
theorem dX0_readsFor_29 : decode cX0_readsFor 29 = .ok (.aload_n 0, 1) := by decide +kernel
theorem dX0_readsFor_30 : decode cX0_readsFor 30 = .ok (.getfield 43, 3) := by decide +kernel
theorem dX0_readsFor_33 : decode cX0_readsFor 33 = .ok (.iload_n 1, 1) := by decide +kernel
theorem dX0_readsFor_34 : decode cX0_readsFor 34 = .ok (.iaload, 1) := by decide +kernel
theorem dX0_readsFor_35 : decode cX0_readsFor 35 = .ok (.bipush 20, 2) := by decide +kernel
theorem dX0_readsFor_37 : decode cX0_readsFor 37 = .ok (.if_icmp .lt 16, 3) := by decide +kernel
theorem dX0_readsFor_40 : decode cX0_readsFor 40 = .ok (.aload_n 0, 1) := by decide +kernel
theorem dX0_readsFor_41 : decode cX0_readsFor 41 = .ok (.aload_n 0, 1) := by decide +kernel
theorem dX0_readsFor_42 : decode cX0_readsFor 42 = .ok (.getfield 25, 3) := by decide +kernel
theorem dX0_readsFor_45 : decode cX0_readsFor 45 = .ok (.iload_n 2, 1) := by decide +kernel
theorem dX0_readsFor_46 : decode cX0_readsFor 46 = .ok (.iaload, 1) := by decide +kernel
theorem dX0_readsFor_47 : decode cX0_readsFor 47 = .ok (.invokevirtual 75, 3) := by decide +kernel
theorem dX0_readsFor_50 : decode cX0_readsFor 50 = .ok (.goto 4, 3) := by decide +kernel
theorem dX0_readsFor_53 : decode cX0_readsFor 53 = .ok (.iconst (-1), 1) := by decide +kernel
theorem dX0_readsFor_54 : decode cX0_readsFor 54 = .ok (.ireturn, 1) := by decide +kernel
theorem dX0_leastOfBand_0 : decode cX0_leastOfBand 0 = .ok (.iconst 0, 1) := by decide +kernel
theorem dX0_leastOfBand_1 : decode cX0_leastOfBand 1 = .ok (.istore_n 2, 1) := by decide +kernel
theorem dX0_leastOfBand_2 : decode cX0_leastOfBand 2 = .ok (.iload_n 2, 1) := by decide +kernel
theorem dX0_leastOfBand_3 : decode cX0_leastOfBand 3 = .ok (.aload_n 0, 1) := by decide +kernel
theorem dX0_leastOfBand_4 : decode cX0_leastOfBand 4 = .ok (.getfield 18, 3) := by decide +kernel
theorem dX0_leastOfBand_7 : decode cX0_leastOfBand 7 = .ok (.if_icmp .ge 30, 3) := by decide +kernel
theorem dX0_leastOfBand_10 : decode cX0_leastOfBand 10 = .ok (.aload_n 0, 1) := by decide +kernel
theorem dX0_leastOfBand_11 : decode cX0_leastOfBand 11 = .ok (.getfield 25, 3) := by decide +kernel
theorem dX0_leastOfBand_14 : decode cX0_leastOfBand 14 = .ok (.iload_n 2, 1) := by decide +kernel
theorem dX0_leastOfBand_15 : decode cX0_leastOfBand 15 = .ok (.iaload, 1) := by decide +kernel
theorem dX0_leastOfBand_16 : decode cX0_leastOfBand 16 = .ok (.iload_n 1, 1) := by decide +kernel
theorem dX0_leastOfBand_17 : decode cX0_leastOfBand 17 = .ok (.if_icmp .ne 14, 3) := by decide +kernel
theorem dX0_leastOfBand_20 : decode cX0_leastOfBand 20 = .ok (.aload_n 0, 1) := by decide +kernel
theorem dX0_leastOfBand_21 : decode cX0_leastOfBand 21 = .ok (.getfield 31, 3) := by decide +kernel
theorem dX0_leastOfBand_24 : decode cX0_leastOfBand 24 = .ok (.iload_n 2, 1) := by decide +kernel
theorem dX0_leastOfBand_25 : decode cX0_leastOfBand 25 = .ok (.iaload, 1) := by decide +kernel
theorem dX0_leastOfBand_26 : decode cX0_leastOfBand 26 = .ok (.ifCond .ne 5, 3) := by decide +kernel
theorem dX0_leastOfBand_29 : decode cX0_leastOfBand 29 = .ok (.iload_n 2, 1) := by decide +kernel
theorem dX0_leastOfBand_30 : decode cX0_leastOfBand 30 = .ok (.ireturn, 1) := by decide +kernel
theorem dX0_leastOfBand_31 : decode cX0_leastOfBand 31 = .ok (.iinc 2 1, 3) := by decide +kernel
theorem dX0_leastOfBand_34 : decode cX0_leastOfBand 34 = .ok (.goto (-32), 3) := by decide +kernel
theorem dX0_leastOfBand_37 : decode cX0_leastOfBand 37 = .ok (.iconst (-1), 1) := by decide +kernel
theorem dX0_leastOfBand_38 : decode cX0_leastOfBand 38 = .ok (.ireturn, 1) := by decide +kernel
theorem dX0_givesBack_0 : decode cX0_givesBack 0 = .ok (.aload_n 0, 1) := by decide +kernel
theorem dX0_givesBack_1 : decode cX0_givesBack 1 = .ok (.getfield 21, 3) := by decide +kernel
theorem dX0_givesBack_4 : decode cX0_givesBack 4 = .ok (.iload_n 1, 1) := by decide +kernel
theorem dX0_givesBack_5 : decode cX0_givesBack 5 = .ok (.iaload, 1) := by decide +kernel
theorem dX0_givesBack_6 : decode cX0_givesBack 6 = .ok (.tableswitch 55 1 5 #[34, 36, 38, 34, 36], 34) := by decide +kernel
theorem dX0_givesBack_40 : decode cX0_givesBack 40 = .ok (.iconst 1, 1) := by decide +kernel
theorem dX0_givesBack_41 : decode cX0_givesBack 41 = .ok (.ireturn, 1) := by decide +kernel
theorem dX0_givesBack_42 : decode cX0_givesBack 42 = .ok (.iconst 0, 1) := by decide +kernel
theorem dX0_givesBack_43 : decode cX0_givesBack 43 = .ok (.ireturn, 1) := by decide +kernel
theorem dX0_givesBack_44 : decode cX0_givesBack 44 = .ok (.aload_n 0, 1) := by decide +kernel
theorem dX0_givesBack_45 : decode cX0_givesBack 45 = .ok (.getfield 43, 3) := by decide +kernel
theorem dX0_givesBack_48 : decode cX0_givesBack 48 = .ok (.iload_n 2, 1) := by decide +kernel
theorem dX0_givesBack_49 : decode cX0_givesBack 49 = .ok (.iaload, 1) := by decide +kernel
theorem dX0_givesBack_50 : decode cX0_givesBack 50 = .ok (.bipush 80, 2) := by decide +kernel
theorem dX0_givesBack_52 : decode cX0_givesBack 52 = .ok (.if_icmp .lt 7, 3) := by decide +kernel
theorem dX0_givesBack_55 : decode cX0_givesBack 55 = .ok (.iconst 1, 1) := by decide +kernel
theorem dX0_givesBack_56 : decode cX0_givesBack 56 = .ok (.goto 4, 3) := by decide +kernel
theorem dX0_givesBack_59 : decode cX0_givesBack 59 = .ok (.iconst 0, 1) := by decide +kernel
theorem dX0_givesBack_60 : decode cX0_givesBack 60 = .ok (.ireturn, 1) := by decide +kernel
theorem dX0_givesBack_61 : decode cX0_givesBack 61 = .ok (.aload_n 0, 1) := by decide +kernel
theorem dX0_givesBack_62 : decode cX0_givesBack 62 = .ok (.getfield 43, 3) := by decide +kernel
theorem dX0_givesBack_65 : decode cX0_givesBack 65 = .ok (.iload_n 2, 1) := by decide +kernel
theorem dX0_givesBack_66 : decode cX0_givesBack 66 = .ok (.iaload, 1) := by decide +kernel
theorem dX0_givesBack_67 : decode cX0_givesBack 67 = .ok (.bipush 60, 2) := by decide +kernel
theorem dX0_givesBack_69 : decode cX0_givesBack 69 = .ok (.if_icmp .lt 7, 3) := by decide +kernel
theorem dX0_givesBack_72 : decode cX0_givesBack 72 = .ok (.iconst 1, 1) := by decide +kernel
theorem dX0_givesBack_73 : decode cX0_givesBack 73 = .ok (.goto 4, 3) := by decide +kernel
theorem dX0_givesBack_76 : decode cX0_givesBack 76 = .ok (.iconst 0, 1) := by decide +kernel
theorem dX0_givesBack_77 : decode cX0_givesBack 77 = .ok (.ireturn, 1) := by decide +kernel
theorem dX0_claims_0 : decode cX0_claims 0 = .ok (.aload_n 0, 1) := by decide +kernel
theorem dX0_claims_1 : decode cX0_claims 1 = .ok (.getfield 37, 3) := by decide +kernel
theorem dX0_claims_4 : decode cX0_claims 4 = .ok (.iload_n 2, 1) := by decide +kernel
theorem dX0_claims_5 : decode cX0_claims 5 = .ok (.iaload, 1) := by decide +kernel
theorem dX0_claims_6 : decode cX0_claims 6 = .ok (.iload_n 1, 1) := by decide +kernel
theorem dX0_claims_7 : decode cX0_claims 7 = .ok (.if_icmp .ne 7, 3) := by decide +kernel
theorem dX0_claims_10 : decode cX0_claims 10 = .ok (.iconst 1, 1) := by decide +kernel
theorem dX0_claims_11 : decode cX0_claims 11 = .ok (.goto 4, 3) := by decide +kernel
theorem dX0_claims_14 : decode cX0_claims 14 = .ok (.iconst 0, 1) := by decide +kernel
theorem dX0_claims_15 : decode cX0_claims 15 = .ok (.istore_n 3, 1) := by decide +kernel
theorem dX0_claims_16 : decode cX0_claims 16 = .ok (.aload_n 0, 1) := by decide +kernel
theorem dX0_claims_17 : decode cX0_claims 17 = .ok (.getfield 49, 3) := by decide +kernel
theorem dX0_claims_20 : decode cX0_claims 20 = .ok (.iload_n 1, 1) := by decide +kernel
theorem dX0_claims_21 : decode cX0_claims 21 = .ok (.iaload, 1) := by decide +kernel
theorem dX0_claims_22 : decode cX0_claims 22 = .ok (.aload_n 0, 1) := by decide +kernel
theorem dX0_claims_23 : decode cX0_claims 23 = .ok (.getfield 52, 3) := by decide +kernel
theorem dX0_claims_26 : decode cX0_claims 26 = .ok (.iload_n 1, 1) := by decide +kernel
theorem dX0_claims_27 : decode cX0_claims 27 = .ok (.iaload, 1) := by decide +kernel
theorem dX0_claims_28 : decode cX0_claims 28 = .ok (.iadd, 1) := by decide +kernel
theorem dX0_claims_29 : decode cX0_claims 29 = .ok (.ifCond .ne 7, 3) := by decide +kernel
theorem dX0_claims_32 : decode cX0_claims 32 = .ok (.iconst 1, 1) := by decide +kernel
theorem dX0_claims_33 : decode cX0_claims 33 = .ok (.goto 4, 3) := by decide +kernel
theorem dX0_claims_36 : decode cX0_claims 36 = .ok (.iconst 0, 1) := by decide +kernel
theorem dX0_claims_37 : decode cX0_claims 37 = .ok (.istore 4, 2) := by decide +kernel
theorem dX0_claims_39 : decode cX0_claims 39 = .ok (.aload_n 0, 1) := by decide +kernel
theorem dX0_claims_40 : decode cX0_claims 40 = .ok (.getfield 21, 3) := by decide +kernel
theorem dX0_claims_43 : decode cX0_claims 43 = .ok (.iload_n 1, 1) := by decide +kernel
theorem dX0_claims_44 : decode cX0_claims 44 = .ok (.iaload, 1) := by decide +kernel
theorem dX0_claims_45 : decode cX0_claims 45 = .ok (.tableswitch 62 1 5 #[35, 37, 62, 35, 40], 35) := by decide +kernel
theorem dX0_claims_80 : decode cX0_claims 80 = .ok (.iload_n 3, 1) := by decide +kernel
theorem dX0_claims_81 : decode cX0_claims 81 = .ok (.ireturn, 1) := by decide +kernel
theorem dX0_claims_82 : decode cX0_claims 82 = .ok (.iload 4, 2) := by decide +kernel
theorem dX0_claims_84 : decode cX0_claims 84 = .ok (.ireturn, 1) := by decide +kernel
theorem dX0_claims_85 : decode cX0_claims 85 = .ok (.iload 4, 2) := by decide +kernel
theorem dX0_claims_87 : decode cX0_claims 87 = .ok (.ifCond .ne 14, 3) := by decide +kernel
theorem dX0_claims_90 : decode cX0_claims 90 = .ok (.aload_n 0, 1) := by decide +kernel
theorem dX0_claims_91 : decode cX0_claims 91 = .ok (.getfield 43, 3) := by decide +kernel
theorem dX0_claims_94 : decode cX0_claims 94 = .ok (.iload_n 2, 1) := by decide +kernel
theorem dX0_claims_95 : decode cX0_claims 95 = .ok (.iaload, 1) := by decide +kernel
theorem dX0_claims_96 : decode cX0_claims 96 = .ok (.bipush 50, 2) := by decide +kernel
theorem dX0_claims_98 : decode cX0_claims 98 = .ok (.if_icmp .lt 7, 3) := by decide +kernel
theorem dX0_claims_101 : decode cX0_claims 101 = .ok (.iconst 1, 1) := by decide +kernel
theorem dX0_claims_102 : decode cX0_claims 102 = .ok (.goto 4, 3) := by decide +kernel
theorem dX0_claims_105 : decode cX0_claims 105 = .ok (.iconst 0, 1) := by decide +kernel
theorem dX0_claims_106 : decode cX0_claims 106 = .ok (.ireturn, 1) := by decide +kernel
theorem dX0_claims_107 : decode cX0_claims 107 = .ok (.iload_n 3, 1) := by decide +kernel
theorem dX0_claims_108 : decode cX0_claims 108 = .ok (.ifCond .eq 17, 3) := by decide +kernel
theorem dX0_claims_111 : decode cX0_claims 111 = .ok (.aload_n 0, 1) := by decide +kernel
theorem dX0_claims_112 : decode cX0_claims 112 = .ok (.getfield 43, 3) := by decide +kernel
theorem dX0_claims_115 : decode cX0_claims 115 = .ok (.iload_n 2, 1) := by decide +kernel
theorem dX0_claims_116 : decode cX0_claims 116 = .ok (.iaload, 1) := by decide +kernel
theorem dX0_claims_117 : decode cX0_claims 117 = .ok (.iconst 1, 1) := by decide +kernel
theorem dX0_claims_118 : decode cX0_claims 118 = .ok (.if_icmp .lt 7, 3) := by decide +kernel
theorem dX0_claims_121 : decode cX0_claims 121 = .ok (.iconst 1, 1) := by decide +kernel
theorem dX0_claims_122 : decode cX0_claims 122 = .ok (.goto 4, 3) := by decide +kernel
theorem dX0_claims_125 : decode cX0_claims 125 = .ok (.iconst 0, 1) := by decide +kernel
theorem dX0_claims_126 : decode cX0_claims 126 = .ok (.ireturn, 1) := by decide +kernel
theorem dX0_minds_0 : decode cX0_minds 0 = .ok (.aload_n 0, 1) := by decide +kernel
theorem dX0_minds_1 : decode cX0_minds 1 = .ok (.getfield 49, 3) := by decide +kernel
theorem dX0_minds_4 : decode cX0_minds 4 = .ok (.iload_n 1, 1) := by decide +kernel
theorem dX0_minds_5 : decode cX0_minds 5 = .ok (.iaload, 1) := by decide +kernel
theorem dX0_minds_6 : decode cX0_minds 6 = .ok (.istore_n 2, 1) := by decide +kernel
theorem dX0_minds_7 : decode cX0_minds 7 = .ok (.aload_n 0, 1) := by decide +kernel
theorem dX0_minds_8 : decode cX0_minds 8 = .ok (.getfield 52, 3) := by decide +kernel
theorem dX0_minds_11 : decode cX0_minds 11 = .ok (.iload_n 1, 1) := by decide +kernel
theorem dX0_minds_12 : decode cX0_minds 12 = .ok (.iaload, 1) := by decide +kernel
theorem dX0_minds_13 : decode cX0_minds 13 = .ok (.istore_n 3, 1) := by decide +kernel
theorem dX0_minds_14 : decode cX0_minds 14 = .ok (.aload_n 0, 1) := by decide +kernel
theorem dX0_minds_15 : decode cX0_minds 15 = .ok (.getfield 21, 3) := by decide +kernel
theorem dX0_minds_18 : decode cX0_minds 18 = .ok (.iload_n 1, 1) := by decide +kernel
theorem dX0_minds_19 : decode cX0_minds 19 = .ok (.iaload, 1) := by decide +kernel
theorem dX0_minds_20 : decode cX0_minds 20 = .ok (.tableswitch 78 1 5 #[36, 44, 48, 54, 72], 36) := by decide +kernel
theorem dX0_minds_56 : decode cX0_minds 56 = .ok (.iconst 2, 1) := by decide +kernel
theorem dX0_minds_57 : decode cX0_minds 57 = .ok (.iload_n 2, 1) := by decide +kernel
theorem dX0_minds_58 : decode cX0_minds 58 = .ok (.imul, 1) := by decide +kernel
theorem dX0_minds_59 : decode cX0_minds 59 = .ok (.iconst 3, 1) := by decide +kernel
theorem dX0_minds_60 : decode cX0_minds 60 = .ok (.iload_n 3, 1) := by decide +kernel
theorem dX0_minds_61 : decode cX0_minds 61 = .ok (.imul, 1) := by decide +kernel
theorem dX0_minds_62 : decode cX0_minds 62 = .ok (.isub, 1) := by decide +kernel
theorem dX0_minds_63 : decode cX0_minds 63 = .ok (.ireturn, 1) := by decide +kernel
theorem dX0_minds_64 : decode cX0_minds 64 = .ok (.iload_n 2, 1) := by decide +kernel
theorem dX0_minds_65 : decode cX0_minds 65 = .ok (.iload_n 3, 1) := by decide +kernel
theorem dX0_minds_66 : decode cX0_minds 66 = .ok (.iadd, 1) := by decide +kernel
theorem dX0_minds_67 : decode cX0_minds 67 = .ok (.ireturn, 1) := by decide +kernel
theorem dX0_minds_68 : decode cX0_minds 68 = .ok (.iload_n 2, 1) := by decide +kernel
theorem dX0_minds_69 : decode cX0_minds 69 = .ok (.iload_n 3, 1) := by decide +kernel
theorem dX0_minds_70 : decode cX0_minds 70 = .ok (.isub, 1) := by decide +kernel
theorem dX0_minds_71 : decode cX0_minds 71 = .ok (.iconst 1, 1) := by decide +kernel
theorem dX0_minds_72 : decode cX0_minds 72 = .ok (.iadd, 1) := by decide +kernel
theorem dX0_minds_73 : decode cX0_minds 73 = .ok (.ireturn, 1) := by decide +kernel
theorem dX0_minds_74 : decode cX0_minds 74 = .ok (.iconst 2, 1) := by decide +kernel
theorem dX0_minds_75 : decode cX0_minds 75 = .ok (.iload_n 2, 1) := by decide +kernel
theorem dX0_minds_76 : decode cX0_minds 76 = .ok (.imul, 1) := by decide +kernel
theorem dX0_minds_77 : decode cX0_minds 77 = .ok (.iconst 3, 1) := by decide +kernel
theorem dX0_minds_78 : decode cX0_minds 78 = .ok (.iload_n 3, 1) := by decide +kernel
theorem dX0_minds_79 : decode cX0_minds 79 = .ok (.imul, 1) := by decide +kernel
theorem dX0_minds_80 : decode cX0_minds 80 = .ok (.isub, 1) := by decide +kernel
theorem dX0_minds_81 : decode cX0_minds 81 = .ok (.iload_n 3, 1) := by decide +kernel
theorem dX0_minds_82 : decode cX0_minds 82 = .ok (.ifCond .ne 7, 3) := by decide +kernel
theorem dX0_minds_85 : decode cX0_minds 85 = .ok (.iconst 2, 1) := by decide +kernel
theorem dX0_minds_86 : decode cX0_minds 86 = .ok (.goto 4, 3) := by decide +kernel
theorem dX0_minds_89 : decode cX0_minds 89 = .ok (.iconst 0, 1) := by decide +kernel
theorem dX0_minds_90 : decode cX0_minds 90 = .ok (.iadd, 1) := by decide +kernel
theorem dX0_minds_91 : decode cX0_minds 91 = .ok (.ireturn, 1) := by decide +kernel
theorem dX0_minds_92 : decode cX0_minds 92 = .ok (.iload_n 2, 1) := by decide +kernel
theorem dX0_minds_93 : decode cX0_minds 93 = .ok (.iconst 2, 1) := by decide +kernel
theorem dX0_minds_94 : decode cX0_minds 94 = .ok (.iload_n 3, 1) := by decide +kernel
theorem dX0_minds_95 : decode cX0_minds 95 = .ok (.imul, 1) := by decide +kernel
theorem dX0_minds_96 : decode cX0_minds 96 = .ok (.iadd, 1) := by decide +kernel
theorem dX0_minds_97 : decode cX0_minds 97 = .ok (.ireturn, 1) := by decide +kernel
theorem dX0_minds_98 : decode cX0_minds 98 = .ok (.iload_n 2, 1) := by decide +kernel
theorem dX0_minds_99 : decode cX0_minds 99 = .ok (.iload_n 3, 1) := by decide +kernel
theorem dX0_minds_100 : decode cX0_minds 100 = .ok (.isub, 1) := by decide +kernel
theorem dX0_minds_101 : decode cX0_minds 101 = .ok (.ireturn, 1) := by decide +kernel
theorem dX0_tally_0 : decode cX0_tally 0 = .ok (.iconst 0, 1) := by decide +kernel
theorem dX0_tally_1 : decode cX0_tally 1 = .ok (.istore_n 1, 1) := by decide +kernel
theorem dX0_tally_2 : decode cX0_tally 2 = .ok (.iload_n 1, 1) := by decide +kernel
theorem dX0_tally_3 : decode cX0_tally 3 = .ok (.aload_n 0, 1) := by decide +kernel
theorem dX0_tally_4 : decode cX0_tally 4 = .ok (.getfield 18, 3) := by decide +kernel
theorem dX0_tally_7 : decode cX0_tally 7 = .ok (.if_icmp .ge 23, 3) := by decide +kernel
theorem dX0_tally_10 : decode cX0_tally 10 = .ok (.aload_n 0, 1) := by decide +kernel
theorem dX0_tally_11 : decode cX0_tally 11 = .ok (.getfield 49, 3) := by decide +kernel
theorem dX0_tally_14 : decode cX0_tally 14 = .ok (.iload_n 1, 1) := by decide +kernel
theorem dX0_tally_15 : decode cX0_tally 15 = .ok (.iconst 0, 1) := by decide +kernel
theorem dX0_tally_16 : decode cX0_tally 16 = .ok (.iastore, 1) := by decide +kernel
theorem dX0_tally_17 : decode cX0_tally 17 = .ok (.aload_n 0, 1) := by decide +kernel
theorem dX0_tally_18 : decode cX0_tally 18 = .ok (.getfield 52, 3) := by decide +kernel
theorem dX0_tally_21 : decode cX0_tally 21 = .ok (.iload_n 1, 1) := by decide +kernel
theorem dX0_tally_22 : decode cX0_tally 22 = .ok (.iconst 0, 1) := by decide +kernel
theorem dX0_tally_23 : decode cX0_tally 23 = .ok (.iastore, 1) := by decide +kernel
theorem dX0_tally_24 : decode cX0_tally 24 = .ok (.iinc 1 1, 3) := by decide +kernel
theorem dX0_tally_27 : decode cX0_tally 27 = .ok (.goto (-25), 3) := by decide +kernel
theorem dX0_tally_30 : decode cX0_tally 30 = .ok (.iconst 0, 1) := by decide +kernel
theorem dX0_tally_31 : decode cX0_tally 31 = .ok (.istore_n 1, 1) := by decide +kernel
theorem dX0_tally_32 : decode cX0_tally 32 = .ok (.iload_n 1, 1) := by decide +kernel
theorem dX0_tally_33 : decode cX0_tally 33 = .ok (.aload_n 0, 1) := by decide +kernel
theorem dX0_tally_34 : decode cX0_tally 34 = .ok (.getfield 34, 3) := by decide +kernel
theorem dX0_tally_37 : decode cX0_tally 37 = .ok (.if_icmp .ge 24, 3) := by decide +kernel
theorem dX0_tally_40 : decode cX0_tally 40 = .ok (.aload_n 0, 1) := by decide +kernel
theorem dX0_tally_41 : decode cX0_tally 41 = .ok (.getfield 46, 3) := by decide +kernel
theorem dX0_tally_44 : decode cX0_tally 44 = .ok (.iload_n 1, 1) := by decide +kernel
theorem dX0_tally_45 : decode cX0_tally 45 = .ok (.iaload, 1) := by decide +kernel
theorem dX0_tally_46 : decode cX0_tally 46 = .ok (.iconst (-1), 1) := by decide +kernel
theorem dX0_tally_47 : decode cX0_tally 47 = .ok (.if_icmp .eq 8, 3) := by decide +kernel
theorem dX0_tally_50 : decode cX0_tally 50 = .ok (.aload_n 0, 1) := by decide +kernel
theorem dX0_tally_51 : decode cX0_tally 51 = .ok (.iload_n 1, 1) := by decide +kernel
theorem dX0_tally_52 : decode cX0_tally 52 = .ok (.invokevirtual 79, 3) := by decide +kernel
theorem dX0_tally_55 : decode cX0_tally 55 = .ok (.iinc 1 1, 3) := by decide +kernel
theorem dX0_tally_58 : decode cX0_tally 58 = .ok (.goto (-26), 3) := by decide +kernel
theorem dX0_tally_61 : decode cX0_tally 61 = .ok (.return_, 1) := by decide +kernel
theorem dX0_tallyOne_0 : decode cX0_tallyOne 0 = .ok (.aload_n 0, 1) := by decide +kernel
theorem dX0_tallyOne_1 : decode cX0_tallyOne 1 = .ok (.getfield 46, 3) := by decide +kernel
theorem dX0_tallyOne_4 : decode cX0_tallyOne 4 = .ok (.iload_n 1, 1) := by decide +kernel
theorem dX0_tallyOne_5 : decode cX0_tallyOne 5 = .ok (.iaload, 1) := by decide +kernel
theorem dX0_tallyOne_6 : decode cX0_tallyOne 6 = .ok (.istore_n 2, 1) := by decide +kernel
theorem dX0_tallyOne_7 : decode cX0_tallyOne 7 = .ok (.aload_n 0, 1) := by decide +kernel
theorem dX0_tallyOne_8 : decode cX0_tallyOne 8 = .ok (.getfield 37, 3) := by decide +kernel
theorem dX0_tallyOne_11 : decode cX0_tallyOne 11 = .ok (.iload_n 1, 1) := by decide +kernel
theorem dX0_tallyOne_12 : decode cX0_tallyOne 12 = .ok (.iaload, 1) := by decide +kernel
theorem dX0_tallyOne_13 : decode cX0_tallyOne 13 = .ok (.iload_n 2, 1) := by decide +kernel
theorem dX0_tallyOne_14 : decode cX0_tallyOne 14 = .ok (.if_icmp .ne 16, 3) := by decide +kernel
theorem dX0_tallyOne_17 : decode cX0_tallyOne 17 = .ok (.aload_n 0, 1) := by decide +kernel
theorem dX0_tallyOne_18 : decode cX0_tallyOne 18 = .ok (.getfield 49, 3) := by decide +kernel
theorem dX0_tallyOne_21 : decode cX0_tallyOne 21 = .ok (.iload_n 2, 1) := by decide +kernel
theorem dX0_tallyOne_22 : decode cX0_tallyOne 22 = .ok (.dup2, 1) := by decide +kernel
theorem dX0_tallyOne_23 : decode cX0_tallyOne 23 = .ok (.iaload, 1) := by decide +kernel
theorem dX0_tallyOne_24 : decode cX0_tallyOne 24 = .ok (.iconst 1, 1) := by decide +kernel
theorem dX0_tallyOne_25 : decode cX0_tallyOne 25 = .ok (.iadd, 1) := by decide +kernel
theorem dX0_tallyOne_26 : decode cX0_tallyOne 26 = .ok (.iastore, 1) := by decide +kernel
theorem dX0_tallyOne_27 : decode cX0_tallyOne 27 = .ok (.goto 13, 3) := by decide +kernel
theorem dX0_tallyOne_30 : decode cX0_tallyOne 30 = .ok (.aload_n 0, 1) := by decide +kernel
theorem dX0_tallyOne_31 : decode cX0_tallyOne 31 = .ok (.getfield 52, 3) := by decide +kernel
theorem dX0_tallyOne_34 : decode cX0_tallyOne 34 = .ok (.iload_n 2, 1) := by decide +kernel
theorem dX0_tallyOne_35 : decode cX0_tallyOne 35 = .ok (.dup2, 1) := by decide +kernel
theorem dX0_tallyOne_36 : decode cX0_tallyOne 36 = .ok (.iaload, 1) := by decide +kernel
theorem dX0_tallyOne_37 : decode cX0_tallyOne 37 = .ok (.iconst 1, 1) := by decide +kernel
theorem dX0_tallyOne_38 : decode cX0_tallyOne 38 = .ok (.iadd, 1) := by decide +kernel
theorem dX0_tallyOne_39 : decode cX0_tallyOne 39 = .ok (.iastore, 1) := by decide +kernel
theorem dX0_tallyOne_40 : decode cX0_tallyOne 40 = .ok (.return_, 1) := by decide +kernel
theorem dX0_goWeeks_0 : decode cX0_goWeeks 0 = .ok (.iconst 0, 1) := by decide +kernel
theorem dX0_goWeeks_1 : decode cX0_goWeeks 1 = .ok (.istore_n 2, 1) := by decide +kernel
theorem dX0_goWeeks_2 : decode cX0_goWeeks 2 = .ok (.iload_n 2, 1) := by decide +kernel
theorem dX0_goWeeks_3 : decode cX0_goWeeks 3 = .ok (.iload_n 1, 1) := by decide +kernel
theorem dX0_goWeeks_4 : decode cX0_goWeeks 4 = .ok (.if_icmp .ge 45, 3) := by decide +kernel
theorem dX0_goWeeks_7 : decode cX0_goWeeks 7 = .ok (.aload_n 0, 1) := by decide +kernel
theorem dX0_goWeeks_8 : decode cX0_goWeeks 8 = .ok (.invokevirtual 83, 3) := by decide +kernel
theorem dX0_goWeeks_11 : decode cX0_goWeeks 11 = .ok (.aload_n 0, 1) := by decide +kernel
theorem dX0_goWeeks_12 : decode cX0_goWeeks 12 = .ok (.invokevirtual 86, 3) := by decide +kernel
theorem dX0_goWeeks_15 : decode cX0_goWeeks 15 = .ok (.aload_n 0, 1) := by decide +kernel
theorem dX0_goWeeks_16 : decode cX0_goWeeks 16 = .ok (.getfield 9, 3) := by decide +kernel
theorem dX0_goWeeks_19 : decode cX0_goWeeks 19 = .ok (.iconst 2, 1) := by decide +kernel
theorem dX0_goWeeks_20 : decode cX0_goWeeks 20 = .ok (.irem, 1) := by decide +kernel
theorem dX0_goWeeks_21 : decode cX0_goWeeks 21 = .ok (.iconst 1, 1) := by decide +kernel
theorem dX0_goWeeks_22 : decode cX0_goWeeks 22 = .ok (.if_icmp .ne 7, 3) := by decide +kernel
theorem dX0_goWeeks_25 : decode cX0_goWeeks 25 = .ok (.aload_n 0, 1) := by decide +kernel
theorem dX0_goWeeks_26 : decode cX0_goWeeks 26 = .ok (.invokevirtual 89, 3) := by decide +kernel
theorem dX0_goWeeks_29 : decode cX0_goWeeks 29 = .ok (.aload_n 0, 1) := by decide +kernel
theorem dX0_goWeeks_30 : decode cX0_goWeeks 30 = .ok (.invokevirtual 92, 3) := by decide +kernel
theorem dX0_goWeeks_33 : decode cX0_goWeeks 33 = .ok (.aload_n 0, 1) := by decide +kernel
theorem dX0_goWeeks_34 : decode cX0_goWeeks 34 = .ok (.dup, 1) := by decide +kernel
theorem dX0_goWeeks_35 : decode cX0_goWeeks 35 = .ok (.getfield 9, 3) := by decide +kernel
theorem dX0_goWeeks_38 : decode cX0_goWeeks 38 = .ok (.iconst 1, 1) := by decide +kernel
theorem dX0_goWeeks_39 : decode cX0_goWeeks 39 = .ok (.iadd, 1) := by decide +kernel
theorem dX0_goWeeks_40 : decode cX0_goWeeks 40 = .ok (.putfield 9, 3) := by decide +kernel
theorem dX0_goWeeks_43 : decode cX0_goWeeks 43 = .ok (.iinc 2 1, 3) := by decide +kernel
theorem dX0_goWeeks_46 : decode cX0_goWeeks 46 = .ok (.goto (-44), 3) := by decide +kernel
theorem dX0_goWeeks_49 : decode cX0_goWeeks 49 = .ok (.return_, 1) := by decide +kernel
theorem dX0_countRightWeeks_0 : decode cX0_countRightWeeks 0 = .ok (.iconst 0, 1) := by decide +kernel
theorem dX0_countRightWeeks_1 : decode cX0_countRightWeeks 1 = .ok (.istore_n 3, 1) := by decide +kernel
theorem dX0_countRightWeeks_2 : decode cX0_countRightWeeks 2 = .ok (.iconst 0, 1) := by decide +kernel
theorem dX0_countRightWeeks_3 : decode cX0_countRightWeeks 3 = .ok (.istore 4, 2) := by decide +kernel
theorem dX0_countRightWeeks_5 : decode cX0_countRightWeeks 5 = .ok (.iload 4, 2) := by decide +kernel
theorem dX0_countRightWeeks_7 : decode cX0_countRightWeeks 7 = .ok (.iload_n 2, 1) := by decide +kernel
theorem dX0_countRightWeeks_8 : decode cX0_countRightWeeks 8 = .ok (.if_icmp .ge 25, 3) := by decide +kernel
theorem dX0_countRightWeeks_11 : decode cX0_countRightWeeks 11 = .ok (.aload_n 0, 1) := by decide +kernel
theorem dX0_countRightWeeks_12 : decode cX0_countRightWeeks 12 = .ok (.iconst 1, 1) := by decide +kernel
theorem dX0_countRightWeeks_13 : decode cX0_countRightWeeks 13 = .ok (.invokevirtual 95, 3) := by decide +kernel
theorem dX0_countRightWeeks_16 : decode cX0_countRightWeeks 16 = .ok (.aload_n 0, 1) := by decide +kernel
theorem dX0_countRightWeeks_17 : decode cX0_countRightWeeks 17 = .ok (.iload_n 1, 1) := by decide +kernel
theorem dX0_countRightWeeks_18 : decode cX0_countRightWeeks 18 = .ok (.invokevirtual 65, 3) := by decide +kernel
theorem dX0_countRightWeeks_21 : decode cX0_countRightWeeks 21 = .ok (.ifCond .eq 6, 3) := by decide +kernel
theorem dX0_countRightWeeks_24 : decode cX0_countRightWeeks 24 = .ok (.iinc 3 1, 3) := by decide +kernel
theorem dX0_countRightWeeks_27 : decode cX0_countRightWeeks 27 = .ok (.iinc 4 1, 3) := by decide +kernel
theorem dX0_countRightWeeks_30 : decode cX0_countRightWeeks 30 = .ok (.goto (-25), 3) := by decide +kernel
theorem dX0_countRightWeeks_33 : decode cX0_countRightWeeks 33 = .ok (.iload_n 3, 1) := by decide +kernel
theorem dX0_countRightWeeks_34 : decode cX0_countRightWeeks 34 = .ok (.ireturn, 1) := by decide +kernel
theorem dX0_bringWash_0 : decode cX0_bringWash 0 = .ok (.iconst 0, 1) := by decide +kernel
theorem dX0_bringWash_1 : decode cX0_bringWash 1 = .ok (.istore_n 1, 1) := by decide +kernel
theorem dX0_bringWash_2 : decode cX0_bringWash 2 = .ok (.iload_n 1, 1) := by decide +kernel
theorem dX0_bringWash_3 : decode cX0_bringWash 3 = .ok (.aload_n 0, 1) := by decide +kernel
theorem dX0_bringWash_4 : decode cX0_bringWash 4 = .ok (.getfield 34, 3) := by decide +kernel
theorem dX0_bringWash_7 : decode cX0_bringWash 7 = .ok (.if_icmp .ge 86, 3) := by decide +kernel
theorem dX0_bringWash_10 : decode cX0_bringWash 10 = .ok (.aload_n 0, 1) := by decide +kernel
theorem dX0_bringWash_11 : decode cX0_bringWash 11 = .ok (.getfield 46, 3) := by decide +kernel
theorem dX0_bringWash_14 : decode cX0_bringWash 14 = .ok (.iload_n 1, 1) := by decide +kernel
theorem dX0_bringWash_15 : decode cX0_bringWash 15 = .ok (.iaload, 1) := by decide +kernel
theorem dX0_bringWash_16 : decode cX0_bringWash 16 = .ok (.istore_n 2, 1) := by decide +kernel
theorem dX0_bringWash_17 : decode cX0_bringWash 17 = .ok (.iload_n 2, 1) := by decide +kernel
theorem dX0_bringWash_18 : decode cX0_bringWash 18 = .ok (.iconst (-1), 1) := by decide +kernel
theorem dX0_bringWash_19 : decode cX0_bringWash 19 = .ok (.if_icmp .ne 6, 3) := by decide +kernel
theorem dX0_bringWash_22 : decode cX0_bringWash 22 = .ok (.goto 65, 3) := by decide +kernel
theorem dX0_bringWash_25 : decode cX0_bringWash 25 = .ok (.aload_n 0, 1) := by decide +kernel
theorem dX0_bringWash_26 : decode cX0_bringWash 26 = .ok (.getfield 43, 3) := by decide +kernel
theorem dX0_bringWash_29 : decode cX0_bringWash 29 = .ok (.iload_n 1, 1) := by decide +kernel
theorem dX0_bringWash_30 : decode cX0_bringWash 30 = .ok (.iconst 0, 1) := by decide +kernel
theorem dX0_bringWash_31 : decode cX0_bringWash 31 = .ok (.aload_n 0, 1) := by decide +kernel
theorem dX0_bringWash_32 : decode cX0_bringWash 32 = .ok (.getfield 43, 3) := by decide +kernel
theorem dX0_bringWash_35 : decode cX0_bringWash 35 = .ok (.iload_n 1, 1) := by decide +kernel
theorem dX0_bringWash_36 : decode cX0_bringWash 36 = .ok (.iaload, 1) := by decide +kernel
theorem dX0_bringWash_37 : decode cX0_bringWash 37 = .ok (.aload_n 0, 1) := by decide +kernel
theorem dX0_bringWash_38 : decode cX0_bringWash 38 = .ok (.iload_n 1, 1) := by decide +kernel
theorem dX0_bringWash_39 : decode cX0_bringWash 39 = .ok (.invokevirtual 98, 3) := by decide +kernel
theorem dX0_bringWash_42 : decode cX0_bringWash 42 = .ok (.isub, 1) := by decide +kernel
theorem dX0_bringWash_43 : decode cX0_bringWash 43 = .ok (.invokestatic 69, 3) := by decide +kernel
theorem dX0_bringWash_46 : decode cX0_bringWash 46 = .ok (.iastore, 1) := by decide +kernel
theorem dX0_bringWash_47 : decode cX0_bringWash 47 = .ok (.iload_n 2, 1) := by decide +kernel
theorem dX0_bringWash_48 : decode cX0_bringWash 48 = .ok (.aload_n 0, 1) := by decide +kernel
theorem dX0_bringWash_49 : decode cX0_bringWash 49 = .ok (.getfield 37, 3) := by decide +kernel
theorem dX0_bringWash_52 : decode cX0_bringWash 52 = .ok (.iload_n 1, 1) := by decide +kernel
theorem dX0_bringWash_53 : decode cX0_bringWash 53 = .ok (.iaload, 1) := by decide +kernel
theorem dX0_bringWash_54 : decode cX0_bringWash 54 = .ok (.if_icmp .eq 22, 3) := by decide +kernel
theorem dX0_bringWash_57 : decode cX0_bringWash 57 = .ok (.aload_n 0, 1) := by decide +kernel
theorem dX0_bringWash_58 : decode cX0_bringWash 58 = .ok (.getfield 31, 3) := by decide +kernel
theorem dX0_bringWash_61 : decode cX0_bringWash 61 = .ok (.iload_n 2, 1) := by decide +kernel
theorem dX0_bringWash_62 : decode cX0_bringWash 62 = .ok (.iaload, 1) := by decide +kernel
theorem dX0_bringWash_63 : decode cX0_bringWash 63 = .ok (.iconst 1, 1) := by decide +kernel
theorem dX0_bringWash_64 : decode cX0_bringWash 64 = .ok (.if_icmp .eq 12, 3) := by decide +kernel
theorem dX0_bringWash_67 : decode cX0_bringWash 67 = .ok (.aload_n 0, 1) := by decide +kernel
theorem dX0_bringWash_68 : decode cX0_bringWash 68 = .ok (.iload_n 2, 1) := by decide +kernel
theorem dX0_bringWash_69 : decode cX0_bringWash 69 = .ok (.iload_n 1, 1) := by decide +kernel
theorem dX0_bringWash_70 : decode cX0_bringWash 70 = .ok (.invokevirtual 101, 3) := by decide +kernel
theorem dX0_bringWash_73 : decode cX0_bringWash 73 = .ok (.ifCond .eq 14, 3) := by decide +kernel
theorem dX0_bringWash_76 : decode cX0_bringWash 76 = .ok (.aload_n 0, 1) := by decide +kernel
theorem dX0_bringWash_77 : decode cX0_bringWash 77 = .ok (.getfield 46, 3) := by decide +kernel
theorem dX0_bringWash_80 : decode cX0_bringWash 80 = .ok (.iload_n 1, 1) := by decide +kernel
theorem dX0_bringWash_81 : decode cX0_bringWash 81 = .ok (.aload_n 0, 1) := by decide +kernel
theorem dX0_bringWash_82 : decode cX0_bringWash 82 = .ok (.iload_n 1, 1) := by decide +kernel
theorem dX0_bringWash_83 : decode cX0_bringWash 83 = .ok (.invokevirtual 105, 3) := by decide +kernel
theorem dX0_bringWash_86 : decode cX0_bringWash 86 = .ok (.iastore, 1) := by decide +kernel
theorem dX0_bringWash_87 : decode cX0_bringWash 87 = .ok (.iinc 1 1, 3) := by decide +kernel
theorem dX0_bringWash_90 : decode cX0_bringWash 90 = .ok (.goto (-88), 3) := by decide +kernel
theorem dX0_bringWash_93 : decode cX0_bringWash 93 = .ok (.return_, 1) := by decide +kernel
theorem dX0_layTable_0 : decode cX0_layTable 0 = .ok (.iconst 0, 1) := by decide +kernel
theorem dX0_layTable_1 : decode cX0_layTable 1 = .ok (.istore_n 1, 1) := by decide +kernel
theorem dX0_layTable_2 : decode cX0_layTable 2 = .ok (.iload_n 1, 1) := by decide +kernel
theorem dX0_layTable_3 : decode cX0_layTable 3 = .ok (.aload_n 0, 1) := by decide +kernel
theorem dX0_layTable_4 : decode cX0_layTable 4 = .ok (.getfield 34, 3) := by decide +kernel
theorem dX0_layTable_7 : decode cX0_layTable 7 = .ok (.if_icmp .ge 45, 3) := by decide +kernel
theorem dX0_layTable_10 : decode cX0_layTable 10 = .ok (.aload_n 0, 1) := by decide +kernel
theorem dX0_layTable_11 : decode cX0_layTable 11 = .ok (.getfield 46, 3) := by decide +kernel
theorem dX0_layTable_14 : decode cX0_layTable 14 = .ok (.iload_n 1, 1) := by decide +kernel
theorem dX0_layTable_15 : decode cX0_layTable 15 = .ok (.iaload, 1) := by decide +kernel
theorem dX0_layTable_16 : decode cX0_layTable 16 = .ok (.iconst (-1), 1) := by decide +kernel
theorem dX0_layTable_17 : decode cX0_layTable 17 = .ok (.if_icmp .ne 29, 3) := by decide +kernel
theorem dX0_layTable_20 : decode cX0_layTable 20 = .ok (.aload_n 0, 1) := by decide +kernel
theorem dX0_layTable_21 : decode cX0_layTable 21 = .ok (.getfield 46, 3) := by decide +kernel
theorem dX0_layTable_24 : decode cX0_layTable 24 = .ok (.iload_n 1, 1) := by decide +kernel
theorem dX0_layTable_25 : decode cX0_layTable 25 = .ok (.aload_n 0, 1) := by decide +kernel
theorem dX0_layTable_26 : decode cX0_layTable 26 = .ok (.iload_n 1, 1) := by decide +kernel
theorem dX0_layTable_27 : decode cX0_layTable 27 = .ok (.invokevirtual 108, 3) := by decide +kernel
theorem dX0_layTable_30 : decode cX0_layTable 30 = .ok (.iastore, 1) := by decide +kernel
theorem dX0_layTable_31 : decode cX0_layTable 31 = .ok (.aload_n 0, 1) := by decide +kernel
theorem dX0_layTable_32 : decode cX0_layTable 32 = .ok (.getfield 46, 3) := by decide +kernel
theorem dX0_layTable_35 : decode cX0_layTable 35 = .ok (.iload_n 1, 1) := by decide +kernel
theorem dX0_layTable_36 : decode cX0_layTable 36 = .ok (.iaload, 1) := by decide +kernel
theorem dX0_layTable_37 : decode cX0_layTable 37 = .ok (.iconst (-1), 1) := by decide +kernel
theorem dX0_layTable_38 : decode cX0_layTable 38 = .ok (.if_icmp .eq 8, 3) := by decide +kernel
theorem dX0_layTable_41 : decode cX0_layTable 41 = .ok (.aload_n 0, 1) := by decide +kernel
theorem dX0_layTable_42 : decode cX0_layTable 42 = .ok (.iload_n 1, 1) := by decide +kernel
theorem dX0_layTable_43 : decode cX0_layTable 43 = .ok (.invokevirtual 79, 3) := by decide +kernel
theorem dX0_layTable_46 : decode cX0_layTable 46 = .ok (.iinc 1 1, 3) := by decide +kernel
theorem dX0_layTable_49 : decode cX0_layTable 49 = .ok (.goto (-47), 3) := by decide +kernel
theorem dX0_layTable_52 : decode cX0_layTable 52 = .ok (.return_, 1) := by decide +kernel
theorem dX0_leastClaimant_0 : decode cX0_leastClaimant 0 = .ok (.iconst 0, 1) := by decide +kernel
theorem dX0_leastClaimant_1 : decode cX0_leastClaimant 1 = .ok (.istore_n 2, 1) := by decide +kernel
theorem dX0_leastClaimant_2 : decode cX0_leastClaimant 2 = .ok (.iload_n 2, 1) := by decide +kernel
theorem dX0_leastClaimant_3 : decode cX0_leastClaimant 3 = .ok (.aload_n 0, 1) := by decide +kernel
theorem dX0_leastClaimant_4 : decode cX0_leastClaimant 4 = .ok (.getfield 18, 3) := by decide +kernel
theorem dX0_leastClaimant_7 : decode cX0_leastClaimant 7 = .ok (.if_icmp .ge 29, 3) := by decide +kernel
theorem dX0_leastClaimant_10 : decode cX0_leastClaimant 10 = .ok (.aload_n 0, 1) := by decide +kernel
theorem dX0_leastClaimant_11 : decode cX0_leastClaimant 11 = .ok (.getfield 31, 3) := by decide +kernel
theorem dX0_leastClaimant_14 : decode cX0_leastClaimant 14 = .ok (.iload_n 2, 1) := by decide +kernel
theorem dX0_leastClaimant_15 : decode cX0_leastClaimant 15 = .ok (.iaload, 1) := by decide +kernel
theorem dX0_leastClaimant_16 : decode cX0_leastClaimant 16 = .ok (.ifCond .ne 14, 3) := by decide +kernel
theorem dX0_leastClaimant_19 : decode cX0_leastClaimant 19 = .ok (.aload_n 0, 1) := by decide +kernel
theorem dX0_leastClaimant_20 : decode cX0_leastClaimant 20 = .ok (.iload_n 2, 1) := by decide +kernel
theorem dX0_leastClaimant_21 : decode cX0_leastClaimant 21 = .ok (.iload_n 1, 1) := by decide +kernel
theorem dX0_leastClaimant_22 : decode cX0_leastClaimant 22 = .ok (.invokevirtual 111, 3) := by decide +kernel
theorem dX0_leastClaimant_25 : decode cX0_leastClaimant 25 = .ok (.ifCond .eq 5, 3) := by decide +kernel
theorem dX0_leastClaimant_28 : decode cX0_leastClaimant 28 = .ok (.iload_n 2, 1) := by decide +kernel
theorem dX0_leastClaimant_29 : decode cX0_leastClaimant 29 = .ok (.ireturn, 1) := by decide +kernel
theorem dX0_leastClaimant_30 : decode cX0_leastClaimant 30 = .ok (.iinc 2 1, 3) := by decide +kernel
theorem dX0_leastClaimant_33 : decode cX0_leastClaimant 33 = .ok (.goto (-31), 3) := by decide +kernel
theorem dX0_leastClaimant_36 : decode cX0_leastClaimant 36 = .ok (.iconst (-1), 1) := by decide +kernel
theorem dX0_leastClaimant_37 : decode cX0_leastClaimant 37 = .ok (.ireturn, 1) := by decide +kernel
theorem dX0_addContents_0 : decode cX0_addContents 0 = .ok (.iconst 0, 1) := by decide +kernel
theorem dX0_addContents_1 : decode cX0_addContents 1 = .ok (.istore_n 1, 1) := by decide +kernel
theorem dX0_addContents_2 : decode cX0_addContents 2 = .ok (.iload_n 1, 1) := by decide +kernel
theorem dX0_addContents_3 : decode cX0_addContents 3 = .ok (.aload_n 0, 1) := by decide +kernel
theorem dX0_addContents_4 : decode cX0_addContents 4 = .ok (.getfield 18, 3) := by decide +kernel
theorem dX0_addContents_7 : decode cX0_addContents 7 = .ok (.if_icmp .ge 50, 3) := by decide +kernel
theorem dX0_addContents_10 : decode cX0_addContents 10 = .ok (.aload_n 0, 1) := by decide +kernel
theorem dX0_addContents_11 : decode cX0_addContents 11 = .ok (.getfield 31, 3) := by decide +kernel
theorem dX0_addContents_14 : decode cX0_addContents 14 = .ok (.iload_n 1, 1) := by decide +kernel
theorem dX0_addContents_15 : decode cX0_addContents 15 = .ok (.iaload, 1) := by decide +kernel
theorem dX0_addContents_16 : decode cX0_addContents 16 = .ok (.ifCond .ne 35, 3) := by decide +kernel
theorem dX0_addContents_19 : decode cX0_addContents 19 = .ok (.aload_n 0, 1) := by decide +kernel
theorem dX0_addContents_20 : decode cX0_addContents 20 = .ok (.getfield 28, 3) := by decide +kernel
theorem dX0_addContents_23 : decode cX0_addContents 23 = .ok (.iload_n 1, 1) := by decide +kernel
theorem dX0_addContents_24 : decode cX0_addContents 24 = .ok (.iaload, 1) := by decide +kernel
theorem dX0_addContents_25 : decode cX0_addContents 25 = .ok (.aload_n 0, 1) := by decide +kernel
theorem dX0_addContents_26 : decode cX0_addContents 26 = .ok (.iload_n 1, 1) := by decide +kernel
theorem dX0_addContents_27 : decode cX0_addContents 27 = .ok (.invokevirtual 114, 3) := by decide +kernel
theorem dX0_addContents_30 : decode cX0_addContents 30 = .ok (.iadd, 1) := by decide +kernel
theorem dX0_addContents_31 : decode cX0_addContents 31 = .ok (.istore_n 2, 1) := by decide +kernel
theorem dX0_addContents_32 : decode cX0_addContents 32 = .ok (.aload_n 0, 1) := by decide +kernel
theorem dX0_addContents_33 : decode cX0_addContents 33 = .ok (.getfield 28, 3) := by decide +kernel
theorem dX0_addContents_36 : decode cX0_addContents 36 = .ok (.iload_n 1, 1) := by decide +kernel
theorem dX0_addContents_37 : decode cX0_addContents 37 = .ok (.sipush (-999), 3) := by decide +kernel
theorem dX0_addContents_40 : decode cX0_addContents 40 = .ok (.sipush 999, 3) := by decide +kernel
theorem dX0_addContents_43 : decode cX0_addContents 43 = .ok (.iload_n 2, 1) := by decide +kernel
theorem dX0_addContents_44 : decode cX0_addContents 44 = .ok (.invokestatic 117, 3) := by decide +kernel
theorem dX0_addContents_47 : decode cX0_addContents 47 = .ok (.invokestatic 69, 3) := by decide +kernel
theorem dX0_addContents_50 : decode cX0_addContents 50 = .ok (.iastore, 1) := by decide +kernel
theorem dX0_addContents_51 : decode cX0_addContents 51 = .ok (.iinc 1 1, 3) := by decide +kernel
theorem dX0_addContents_54 : decode cX0_addContents 54 = .ok (.goto (-52), 3) := by decide +kernel
theorem dX0_addContents_57 : decode cX0_addContents 57 = .ok (.return_, 1) := by decide +kernel
theorem dX1_init_0 : decode cX1_init 0 = .ok (.aload_n 0, 1) := by decide +kernel
theorem dX1_init_1 : decode cX1_init 1 = .ok (.invokespecial 3, 3) := by decide +kernel
theorem dX1_init_4 : decode cX1_init 4 = .ok (.aload_n 0, 1) := by decide +kernel
theorem dX1_init_5 : decode cX1_init 5 = .ok (.aload_n 1, 1) := by decide +kernel
theorem dX1_init_6 : decode cX1_init 6 = .ok (.putfield 9, 3) := by decide +kernel
theorem dX1_init_9 : decode cX1_init 9 = .ok (.aload_n 0, 1) := by decide +kernel
theorem dX1_init_10 : decode cX1_init 10 = .ok (.aload_n 2, 1) := by decide +kernel
theorem dX1_init_11 : decode cX1_init 11 = .ok (.putfield 15, 3) := by decide +kernel
theorem dX1_init_14 : decode cX1_init 14 = .ok (.aload_n 0, 1) := by decide +kernel
theorem dX1_init_15 : decode cX1_init 15 = .ok (.iconst 0, 1) := by decide +kernel
theorem dX1_init_16 : decode cX1_init 16 = .ok (.putfield 19, 3) := by decide +kernel
theorem dX1_init_19 : decode cX1_init 19 = .ok (.return_, 1) := by decide +kernel
theorem dX1_takeItems_0 : decode cX1_takeItems 0 = .ok (.aload_n 0, 1) := by decide +kernel
theorem dX1_takeItems_1 : decode cX1_takeItems 1 = .ok (.iconst 0, 1) := by decide +kernel
theorem dX1_takeItems_2 : decode cX1_takeItems 2 = .ok (.putfield 19, 3) := by decide +kernel
theorem dX1_takeItems_5 : decode cX1_takeItems 5 = .ok (.aload_n 0, 1) := by decide +kernel
theorem dX1_takeItems_6 : decode cX1_takeItems 6 = .ok (.getfield 9, 3) := by decide +kernel
theorem dX1_takeItems_9 : decode cX1_takeItems 9 = .ok (.invokevirtual 23, 3) := by decide +kernel
theorem dX1_takeItems_12 : decode cX1_takeItems 12 = .ok (.iconst 0, 1) := by decide +kernel
theorem dX1_takeItems_13 : decode cX1_takeItems 13 = .ok (.istore_n 1, 1) := by decide +kernel
theorem dX1_takeItems_14 : decode cX1_takeItems 14 = .ok (.iload_n 1, 1) := by decide +kernel
theorem dX1_takeItems_15 : decode cX1_takeItems 15 = .ok (.aload_n 0, 1) := by decide +kernel
theorem dX1_takeItems_16 : decode cX1_takeItems 16 = .ok (.getfield 9, 3) := by decide +kernel
theorem dX1_takeItems_19 : decode cX1_takeItems 19 = .ok (.getfield 28, 3) := by decide +kernel
theorem dX1_takeItems_22 : decode cX1_takeItems 22 = .ok (.if_icmp .gt 62, 3) := by decide +kernel
theorem dX1_takeItems_25 : decode cX1_takeItems 25 = .ok (.aload_n 0, 1) := by decide +kernel
theorem dX1_takeItems_26 : decode cX1_takeItems 26 = .ok (.getfield 9, 3) := by decide +kernel
theorem dX1_takeItems_29 : decode cX1_takeItems 29 = .ok (.invokevirtual 31, 3) := by decide +kernel
theorem dX1_takeItems_32 : decode cX1_takeItems 32 = .ok (.aload_n 0, 1) := by decide +kernel
theorem dX1_takeItems_33 : decode cX1_takeItems 33 = .ok (.invokevirtual 34, 3) := by decide +kernel
theorem dX1_takeItems_36 : decode cX1_takeItems 36 = .ok (.ifCond .ne 5, 3) := by decide +kernel
theorem dX1_takeItems_39 : decode cX1_takeItems 39 = .ok (.iconst 0, 1) := by decide +kernel
theorem dX1_takeItems_40 : decode cX1_takeItems 40 = .ok (.ireturn, 1) := by decide +kernel
theorem dX1_takeItems_41 : decode cX1_takeItems 41 = .ok (.aload_n 0, 1) := by decide +kernel
theorem dX1_takeItems_42 : decode cX1_takeItems 42 = .ok (.dup, 1) := by decide +kernel
theorem dX1_takeItems_43 : decode cX1_takeItems 43 = .ok (.getfield 19, 3) := by decide +kernel
theorem dX1_takeItems_46 : decode cX1_takeItems 46 = .ok (.iconst 1, 1) := by decide +kernel
theorem dX1_takeItems_47 : decode cX1_takeItems 47 = .ok (.iadd, 1) := by decide +kernel
theorem dX1_takeItems_48 : decode cX1_takeItems 48 = .ok (.putfield 19, 3) := by decide +kernel
theorem dX1_takeItems_51 : decode cX1_takeItems 51 = .ok (.aload_n 0, 1) := by decide +kernel
theorem dX1_takeItems_52 : decode cX1_takeItems 52 = .ok (.getfield 9, 3) := by decide +kernel
theorem dX1_takeItems_55 : decode cX1_takeItems 55 = .ok (.getfield 38, 3) := by decide +kernel
theorem dX1_takeItems_58 : decode cX1_takeItems 58 = .ok (.iconst 3, 1) := by decide +kernel
theorem dX1_takeItems_59 : decode cX1_takeItems 59 = .ok (.if_icmp .eq 19, 3) := by decide +kernel
theorem dX1_takeItems_62 : decode cX1_takeItems 62 = .ok (.aload_n 0, 1) := by decide +kernel
theorem dX1_takeItems_63 : decode cX1_takeItems 63 = .ok (.getfield 9, 3) := by decide +kernel
theorem dX1_takeItems_66 : decode cX1_takeItems 66 = .ok (.getfield 38, 3) := by decide +kernel
theorem dX1_takeItems_69 : decode cX1_takeItems 69 = .ok (.ifCond .ne 7, 3) := by decide +kernel
theorem dX1_takeItems_72 : decode cX1_takeItems 72 = .ok (.iconst 1, 1) := by decide +kernel
theorem dX1_takeItems_73 : decode cX1_takeItems 73 = .ok (.goto 4, 3) := by decide +kernel
theorem dX1_takeItems_76 : decode cX1_takeItems 76 = .ok (.iconst 0, 1) := by decide +kernel
theorem dX1_takeItems_77 : decode cX1_takeItems 77 = .ok (.ireturn, 1) := by decide +kernel
theorem dX1_takeItems_78 : decode cX1_takeItems 78 = .ok (.iinc 1 1, 3) := by decide +kernel
theorem dX1_takeItems_81 : decode cX1_takeItems 81 = .ok (.goto (-67), 3) := by decide +kernel
theorem dX1_takeItems_84 : decode cX1_takeItems 84 = .ok (.iconst 0, 1) := by decide +kernel
theorem dX1_takeItems_85 : decode cX1_takeItems 85 = .ok (.ireturn, 1) := by decide +kernel
theorem dX1_takeItem_0 : decode cX1_takeItem 0 = .ok (.aload_n 0, 1) := by decide +kernel
theorem dX1_takeItem_1 : decode cX1_takeItem 1 = .ok (.invokevirtual 41, 3) := by decide +kernel
theorem dX1_takeItem_4 : decode cX1_takeItem 4 = .ok (.istore_n 1, 1) := by decide +kernel
theorem dX1_takeItem_5 : decode cX1_takeItem 5 = .ok (.iload_n 1, 1) := by decide +kernel
theorem dX1_takeItem_6 : decode cX1_takeItem 6 = .ok (.ifCond .lt 9, 3) := by decide +kernel
theorem dX1_takeItem_9 : decode cX1_takeItem 9 = .ok (.aload_n 0, 1) := by decide +kernel
theorem dX1_takeItem_10 : decode cX1_takeItem 10 = .ok (.iload_n 1, 1) := by decide +kernel
theorem dX1_takeItem_11 : decode cX1_takeItem 11 = .ok (.invokevirtual 45, 3) := by decide +kernel
theorem dX1_takeItem_14 : decode cX1_takeItem 14 = .ok (.ireturn, 1) := by decide +kernel
theorem dX1_takeItem_15 : decode cX1_takeItem 15 = .ok (.aload_n 0, 1) := by decide +kernel
theorem dX1_takeItem_16 : decode cX1_takeItem 16 = .ok (.invokevirtual 49, 3) := by decide +kernel
theorem dX1_takeItem_19 : decode cX1_takeItem 19 = .ok (.istore_n 2, 1) := by decide +kernel
theorem dX1_takeItem_20 : decode cX1_takeItem 20 = .ok (.iload_n 2, 1) := by decide +kernel
theorem dX1_takeItem_21 : decode cX1_takeItem 21 = .ok (.ifCond .lt 9, 3) := by decide +kernel
theorem dX1_takeItem_24 : decode cX1_takeItem 24 = .ok (.aload_n 0, 1) := by decide +kernel
theorem dX1_takeItem_25 : decode cX1_takeItem 25 = .ok (.iload_n 2, 1) := by decide +kernel
theorem dX1_takeItem_26 : decode cX1_takeItem 26 = .ok (.invokevirtual 52, 3) := by decide +kernel
theorem dX1_takeItem_29 : decode cX1_takeItem 29 = .ok (.ireturn, 1) := by decide +kernel
theorem dX1_takeItem_30 : decode cX1_takeItem 30 = .ok (.aload_n 0, 1) := by decide +kernel
theorem dX1_takeItem_31 : decode cX1_takeItem 31 = .ok (.getfield 9, 3) := by decide +kernel
theorem dX1_takeItem_34 : decode cX1_takeItem 34 = .ok (.ldc 55, 2) := by decide +kernel
theorem dX1_takeItem_36 : decode cX1_takeItem 36 = .ok (.invokevirtual 57, 3) := by decide +kernel
theorem dX1_takeItem_39 : decode cX1_takeItem 39 = .ok (.ifCond .eq 8, 3) := by decide +kernel
theorem dX1_takeItem_42 : decode cX1_takeItem 42 = .ok (.aload_n 0, 1) := by decide +kernel
theorem dX1_takeItem_43 : decode cX1_takeItem 43 = .ok (.invokevirtual 61, 3) := by decide +kernel
theorem dX1_takeItem_46 : decode cX1_takeItem 46 = .ok (.ireturn, 1) := by decide +kernel
theorem dX1_takeItem_47 : decode cX1_takeItem 47 = .ok (.aload_n 0, 1) := by decide +kernel
theorem dX1_takeItem_48 : decode cX1_takeItem 48 = .ok (.getfield 9, 3) := by decide +kernel
theorem dX1_takeItem_51 : decode cX1_takeItem 51 = .ok (.ldc 64, 2) := by decide +kernel
theorem dX1_takeItem_53 : decode cX1_takeItem 53 = .ok (.invokevirtual 57, 3) := by decide +kernel
theorem dX1_takeItem_56 : decode cX1_takeItem 56 = .ok (.ifCond .eq 14, 3) := by decide +kernel
theorem dX1_takeItem_59 : decode cX1_takeItem 59 = .ok (.aload_n 0, 1) := by decide +kernel
theorem dX1_takeItem_60 : decode cX1_takeItem 60 = .ok (.invokevirtual 66, 3) := by decide +kernel
theorem dX1_takeItem_63 : decode cX1_takeItem 63 = .ok (.ifCond .eq 7, 3) := by decide +kernel
theorem dX1_takeItem_66 : decode cX1_takeItem 66 = .ok (.iconst 1, 1) := by decide +kernel
theorem dX1_takeItem_67 : decode cX1_takeItem 67 = .ok (.goto 4, 3) := by decide +kernel
theorem dX1_takeItem_70 : decode cX1_takeItem 70 = .ok (.iconst 0, 1) := by decide +kernel
theorem dX1_takeItem_71 : decode cX1_takeItem 71 = .ok (.ireturn, 1) := by decide +kernel
theorem dX1_takePerson_0 : decode cX1_takePerson 0 = .ok (.aload_n 0, 1) := by decide +kernel
theorem dX1_takePerson_1 : decode cX1_takePerson 1 = .ok (.getfield 15, 3) := by decide +kernel
theorem dX1_takePerson_4 : decode cX1_takePerson 4 = .ok (.getfield 69, 3) := by decide +kernel
theorem dX1_takePerson_7 : decode cX1_takePerson 7 = .ok (.bipush 6, 2) := by decide +kernel
theorem dX1_takePerson_9 : decode cX1_takePerson 9 = .ok (.if_icmp .lt 5, 3) := by decide +kernel
theorem dX1_takePerson_12 : decode cX1_takePerson 12 = .ok (.iconst 0, 1) := by decide +kernel
theorem dX1_takePerson_13 : decode cX1_takePerson 13 = .ok (.ireturn, 1) := by decide +kernel
theorem dX1_takePerson_14 : decode cX1_takePerson 14 = .ok (.aload_n 0, 1) := by decide +kernel
theorem dX1_takePerson_15 : decode cX1_takePerson 15 = .ok (.getfield 15, 3) := by decide +kernel
theorem dX1_takePerson_18 : decode cX1_takePerson 18 = .ok (.iload_n 1, 1) := by decide +kernel
theorem dX1_takePerson_19 : decode cX1_takePerson 19 = .ok (.invokevirtual 74, 3) := by decide +kernel
theorem dX1_takePerson_22 : decode cX1_takePerson 22 = .ok (.istore_n 2, 1) := by decide +kernel
theorem dX1_takePerson_23 : decode cX1_takePerson 23 = .ok (.aload_n 0, 1) := by decide +kernel
theorem dX1_takePerson_24 : decode cX1_takePerson 24 = .ok (.getfield 9, 3) := by decide +kernel
theorem dX1_takePerson_27 : decode cX1_takePerson 27 = .ok (.invokevirtual 31, 3) := by decide +kernel
theorem dX1_takePerson_30 : decode cX1_takePerson 30 = .ok (.aload_n 0, 1) := by decide +kernel
theorem dX1_takePerson_31 : decode cX1_takePerson 31 = .ok (.getfield 9, 3) := by decide +kernel
theorem dX1_takePerson_34 : decode cX1_takePerson 34 = .ok (.ldc 78, 2) := by decide +kernel
theorem dX1_takePerson_36 : decode cX1_takePerson 36 = .ok (.invokevirtual 57, 3) := by decide +kernel
theorem dX1_takePerson_39 : decode cX1_takePerson 39 = .ok (.ifCond .eq 37, 3) := by decide +kernel
theorem dX1_takePerson_42 : decode cX1_takePerson 42 = .ok (.aload_n 0, 1) := by decide +kernel
theorem dX1_takePerson_43 : decode cX1_takePerson 43 = .ok (.iconst 0, 1) := by decide +kernel
theorem dX1_takePerson_44 : decode cX1_takePerson 44 = .ok (.iconst 2, 1) := by decide +kernel
theorem dX1_takePerson_45 : decode cX1_takePerson 45 = .ok (.invokevirtual 80, 3) := by decide +kernel
theorem dX1_takePerson_48 : decode cX1_takePerson 48 = .ok (.ifCond .ne 5, 3) := by decide +kernel
theorem dX1_takePerson_51 : decode cX1_takePerson 51 = .ok (.iconst 0, 1) := by decide +kernel
theorem dX1_takePerson_52 : decode cX1_takePerson 52 = .ok (.ireturn, 1) := by decide +kernel
theorem dX1_takePerson_53 : decode cX1_takePerson 53 = .ok (.aload_n 0, 1) := by decide +kernel
theorem dX1_takePerson_54 : decode cX1_takePerson 54 = .ok (.getfield 15, 3) := by decide +kernel
theorem dX1_takePerson_57 : decode cX1_takePerson 57 = .ok (.getfield 84, 3) := by decide +kernel
theorem dX1_takePerson_60 : decode cX1_takePerson 60 = .ok (.iload_n 2, 1) := by decide +kernel
theorem dX1_takePerson_61 : decode cX1_takePerson 61 = .ok (.aload_n 0, 1) := by decide +kernel
theorem dX1_takePerson_62 : decode cX1_takePerson 62 = .ok (.getfield 9, 3) := by decide +kernel
theorem dX1_takePerson_65 : decode cX1_takePerson 65 = .ok (.getfield 88, 3) := by decide +kernel
theorem dX1_takePerson_68 : decode cX1_takePerson 68 = .ok (.iastore, 1) := by decide +kernel
theorem dX1_takePerson_69 : decode cX1_takePerson 69 = .ok (.aload_n 0, 1) := by decide +kernel
theorem dX1_takePerson_70 : decode cX1_takePerson 70 = .ok (.getfield 9, 3) := by decide +kernel
theorem dX1_takePerson_73 : decode cX1_takePerson 73 = .ok (.invokevirtual 31, 3) := by decide +kernel
theorem dX1_takePerson_76 : decode cX1_takePerson 76 = .ok (.iconst 1, 1) := by decide +kernel
theorem dX1_takePerson_77 : decode cX1_takePerson 77 = .ok (.ireturn, 1) := by decide +kernel
theorem dX1_takeGarment_0 : decode cX1_takeGarment 0 = .ok (.aload_n 0, 1) := by decide +kernel
theorem dX1_takeGarment_1 : decode cX1_takeGarment 1 = .ok (.getfield 15, 3) := by decide +kernel
theorem dX1_takeGarment_4 : decode cX1_takeGarment 4 = .ok (.getfield 91, 3) := by decide +kernel
theorem dX1_takeGarment_7 : decode cX1_takeGarment 7 = .ok (.bipush 10, 2) := by decide +kernel
theorem dX1_takeGarment_9 : decode cX1_takeGarment 9 = .ok (.if_icmp .ge 20, 3) := by decide +kernel
theorem dX1_takeGarment_12 : decode cX1_takeGarment 12 = .ok (.aload_n 0, 1) := by decide +kernel
theorem dX1_takeGarment_13 : decode cX1_takeGarment 13 = .ok (.iconst 0, 1) := by decide +kernel
theorem dX1_takeGarment_14 : decode cX1_takeGarment 14 = .ok (.aload_n 0, 1) := by decide +kernel
theorem dX1_takeGarment_15 : decode cX1_takeGarment 15 = .ok (.getfield 15, 3) := by decide +kernel
theorem dX1_takeGarment_18 : decode cX1_takeGarment 18 = .ok (.getfield 69, 3) := by decide +kernel
theorem dX1_takeGarment_21 : decode cX1_takeGarment 21 = .ok (.iconst 1, 1) := by decide +kernel
theorem dX1_takeGarment_22 : decode cX1_takeGarment 22 = .ok (.isub, 1) := by decide +kernel
theorem dX1_takeGarment_23 : decode cX1_takeGarment 23 = .ok (.invokevirtual 80, 3) := by decide +kernel
theorem dX1_takeGarment_26 : decode cX1_takeGarment 26 = .ok (.ifCond .ne 5, 3) := by decide +kernel
theorem dX1_takeGarment_29 : decode cX1_takeGarment 29 = .ok (.iconst 0, 1) := by decide +kernel
theorem dX1_takeGarment_30 : decode cX1_takeGarment 30 = .ok (.ireturn, 1) := by decide +kernel
theorem dX1_takeGarment_31 : decode cX1_takeGarment 31 = .ok (.aload_n 0, 1) := by decide +kernel
theorem dX1_takeGarment_32 : decode cX1_takeGarment 32 = .ok (.getfield 15, 3) := by decide +kernel
theorem dX1_takeGarment_35 : decode cX1_takeGarment 35 = .ok (.aload_n 0, 1) := by decide +kernel
theorem dX1_takeGarment_36 : decode cX1_takeGarment 36 = .ok (.getfield 9, 3) := by decide +kernel
theorem dX1_takeGarment_39 : decode cX1_takeGarment 39 = .ok (.getfield 88, 3) := by decide +kernel
theorem dX1_takeGarment_42 : decode cX1_takeGarment 42 = .ok (.iload_n 1, 1) := by decide +kernel
theorem dX1_takeGarment_43 : decode cX1_takeGarment 43 = .ok (.invokevirtual 94, 3) := by decide +kernel
theorem dX1_takeGarment_46 : decode cX1_takeGarment 46 = .ok (.istore_n 2, 1) := by decide +kernel
theorem dX1_takeGarment_47 : decode cX1_takeGarment 47 = .ok (.aload_n 0, 1) := by decide +kernel
theorem dX1_takeGarment_48 : decode cX1_takeGarment 48 = .ok (.getfield 9, 3) := by decide +kernel
theorem dX1_takeGarment_51 : decode cX1_takeGarment 51 = .ok (.invokevirtual 31, 3) := by decide +kernel
theorem dX1_takeGarment_54 : decode cX1_takeGarment 54 = .ok (.aload_n 0, 1) := by decide +kernel
theorem dX1_takeGarment_55 : decode cX1_takeGarment 55 = .ok (.getfield 9, 3) := by decide +kernel
theorem dX1_takeGarment_58 : decode cX1_takeGarment 58 = .ok (.ldc 98, 2) := by decide +kernel
theorem dX1_takeGarment_60 : decode cX1_takeGarment 60 = .ok (.invokevirtual 57, 3) := by decide +kernel
theorem dX1_takeGarment_63 : decode cX1_takeGarment 63 = .ok (.ifCond .eq 38, 3) := by decide +kernel
theorem dX1_takeGarment_66 : decode cX1_takeGarment 66 = .ok (.aload_n 0, 1) := by decide +kernel
theorem dX1_takeGarment_67 : decode cX1_takeGarment 67 = .ok (.iconst 0, 1) := by decide +kernel
theorem dX1_takeGarment_68 : decode cX1_takeGarment 68 = .ok (.bipush 99, 2) := by decide +kernel
theorem dX1_takeGarment_70 : decode cX1_takeGarment 70 = .ok (.invokevirtual 80, 3) := by decide +kernel
theorem dX1_takeGarment_73 : decode cX1_takeGarment 73 = .ok (.ifCond .ne 5, 3) := by decide +kernel
theorem dX1_takeGarment_76 : decode cX1_takeGarment 76 = .ok (.iconst 0, 1) := by decide +kernel
theorem dX1_takeGarment_77 : decode cX1_takeGarment 77 = .ok (.ireturn, 1) := by decide +kernel
theorem dX1_takeGarment_78 : decode cX1_takeGarment 78 = .ok (.aload_n 0, 1) := by decide +kernel
theorem dX1_takeGarment_79 : decode cX1_takeGarment 79 = .ok (.getfield 15, 3) := by decide +kernel
theorem dX1_takeGarment_82 : decode cX1_takeGarment 82 = .ok (.getfield 100, 3) := by decide +kernel
theorem dX1_takeGarment_85 : decode cX1_takeGarment 85 = .ok (.iload_n 2, 1) := by decide +kernel
theorem dX1_takeGarment_86 : decode cX1_takeGarment 86 = .ok (.aload_n 0, 1) := by decide +kernel
theorem dX1_takeGarment_87 : decode cX1_takeGarment 87 = .ok (.getfield 9, 3) := by decide +kernel
theorem dX1_takeGarment_90 : decode cX1_takeGarment 90 = .ok (.getfield 88, 3) := by decide +kernel
theorem dX1_takeGarment_93 : decode cX1_takeGarment 93 = .ok (.iastore, 1) := by decide +kernel
theorem dX1_takeGarment_94 : decode cX1_takeGarment 94 = .ok (.aload_n 0, 1) := by decide +kernel
theorem dX1_takeGarment_95 : decode cX1_takeGarment 95 = .ok (.getfield 9, 3) := by decide +kernel
theorem dX1_takeGarment_98 : decode cX1_takeGarment 98 = .ok (.invokevirtual 31, 3) := by decide +kernel
theorem dX1_takeGarment_101 : decode cX1_takeGarment 101 = .ok (.aload_n 0, 1) := by decide +kernel
theorem dX1_takeGarment_102 : decode cX1_takeGarment 102 = .ok (.getfield 9, 3) := by decide +kernel
theorem dX1_takeGarment_105 : decode cX1_takeGarment 105 = .ok (.ldc 103, 2) := by decide +kernel
theorem dX1_takeGarment_107 : decode cX1_takeGarment 107 = .ok (.invokevirtual 57, 3) := by decide +kernel
theorem dX1_takeGarment_110 : decode cX1_takeGarment 110 = .ok (.ifCond .eq 20, 3) := by decide +kernel
theorem dX1_takeGarment_113 : decode cX1_takeGarment 113 = .ok (.aload_n 0, 1) := by decide +kernel
theorem dX1_takeGarment_114 : decode cX1_takeGarment 114 = .ok (.getfield 15, 3) := by decide +kernel
theorem dX1_takeGarment_117 : decode cX1_takeGarment 117 = .ok (.getfield 105, 3) := by decide +kernel
theorem dX1_takeGarment_120 : decode cX1_takeGarment 120 = .ok (.iload_n 2, 1) := by decide +kernel
theorem dX1_takeGarment_121 : decode cX1_takeGarment 121 = .ok (.iconst (-1), 1) := by decide +kernel
theorem dX1_takeGarment_122 : decode cX1_takeGarment 122 = .ok (.iastore, 1) := by decide +kernel
theorem dX1_takeGarment_123 : decode cX1_takeGarment 123 = .ok (.aload_n 0, 1) := by decide +kernel
theorem dX1_takeGarment_124 : decode cX1_takeGarment 124 = .ok (.getfield 9, 3) := by decide +kernel
theorem dX1_takeGarment_127 : decode cX1_takeGarment 127 = .ok (.invokevirtual 31, 3) := by decide +kernel
theorem dX1_takeGarment_130 : decode cX1_takeGarment 130 = .ok (.iconst 1, 1) := by decide +kernel
theorem dX1_takeGarment_131 : decode cX1_takeGarment 131 = .ok (.ireturn, 1) := by decide +kernel
theorem dX1_takeHeat_0 : decode cX1_takeHeat 0 = .ok (.aload_n 0, 1) := by decide +kernel
theorem dX1_takeHeat_1 : decode cX1_takeHeat 1 = .ok (.bipush 20, 2) := by decide +kernel
theorem dX1_takeHeat_3 : decode cX1_takeHeat 3 = .ok (.bipush 90, 2) := by decide +kernel
theorem dX1_takeHeat_5 : decode cX1_takeHeat 5 = .ok (.invokevirtual 80, 3) := by decide +kernel
theorem dX1_takeHeat_8 : decode cX1_takeHeat 8 = .ok (.ifCond .ne 5, 3) := by decide +kernel
theorem dX1_takeHeat_11 : decode cX1_takeHeat 11 = .ok (.iconst 0, 1) := by decide +kernel
theorem dX1_takeHeat_12 : decode cX1_takeHeat 12 = .ok (.ireturn, 1) := by decide +kernel
theorem dX1_takeHeat_13 : decode cX1_takeHeat 13 = .ok (.aload_n 0, 1) := by decide +kernel
theorem dX1_takeHeat_14 : decode cX1_takeHeat 14 = .ok (.getfield 15, 3) := by decide +kernel
theorem dX1_takeHeat_17 : decode cX1_takeHeat 17 = .ok (.aload_n 0, 1) := by decide +kernel
theorem dX1_takeHeat_18 : decode cX1_takeHeat 18 = .ok (.getfield 9, 3) := by decide +kernel
theorem dX1_takeHeat_21 : decode cX1_takeHeat 21 = .ok (.getfield 88, 3) := by decide +kernel
theorem dX1_takeHeat_24 : decode cX1_takeHeat 24 = .ok (.putfield 108, 3) := by decide +kernel
theorem dX1_takeHeat_27 : decode cX1_takeHeat 27 = .ok (.aload_n 0, 1) := by decide +kernel
theorem dX1_takeHeat_28 : decode cX1_takeHeat 28 = .ok (.getfield 9, 3) := by decide +kernel
theorem dX1_takeHeat_31 : decode cX1_takeHeat 31 = .ok (.invokevirtual 31, 3) := by decide +kernel
theorem dX1_takeHeat_34 : decode cX1_takeHeat 34 = .ok (.iconst 1, 1) := by decide +kernel
theorem dX1_takeHeat_35 : decode cX1_takeHeat 35 = .ok (.ireturn, 1) := by decide +kernel
theorem dX1_takeDeath_0 : decode cX1_takeDeath 0 = .ok (.aload_n 0, 1) := by decide +kernel
theorem dX1_takeDeath_1 : decode cX1_takeDeath 1 = .ok (.iconst 0, 1) := by decide +kernel
theorem dX1_takeDeath_2 : decode cX1_takeDeath 2 = .ok (.aload_n 0, 1) := by decide +kernel
theorem dX1_takeDeath_3 : decode cX1_takeDeath 3 = .ok (.getfield 15, 3) := by decide +kernel
theorem dX1_takeDeath_6 : decode cX1_takeDeath 6 = .ok (.getfield 69, 3) := by decide +kernel
theorem dX1_takeDeath_9 : decode cX1_takeDeath 9 = .ok (.iconst 1, 1) := by decide +kernel
theorem dX1_takeDeath_10 : decode cX1_takeDeath 10 = .ok (.isub, 1) := by decide +kernel
theorem dX1_takeDeath_11 : decode cX1_takeDeath 11 = .ok (.invokevirtual 80, 3) := by decide +kernel
theorem dX1_takeDeath_14 : decode cX1_takeDeath 14 = .ok (.ifCond .ne 5, 3) := by decide +kernel
theorem dX1_takeDeath_17 : decode cX1_takeDeath 17 = .ok (.iconst 0, 1) := by decide +kernel
theorem dX1_takeDeath_18 : decode cX1_takeDeath 18 = .ok (.ireturn, 1) := by decide +kernel
theorem dX1_takeDeath_19 : decode cX1_takeDeath 19 = .ok (.aload_n 0, 1) := by decide +kernel
theorem dX1_takeDeath_20 : decode cX1_takeDeath 20 = .ok (.getfield 15, 3) := by decide +kernel
theorem dX1_takeDeath_23 : decode cX1_takeDeath 23 = .ok (.getfield 111, 3) := by decide +kernel
theorem dX1_takeDeath_26 : decode cX1_takeDeath 26 = .ok (.aload_n 0, 1) := by decide +kernel
theorem dX1_takeDeath_27 : decode cX1_takeDeath 27 = .ok (.getfield 9, 3) := by decide +kernel
theorem dX1_takeDeath_30 : decode cX1_takeDeath 30 = .ok (.getfield 88, 3) := by decide +kernel
theorem dX1_takeDeath_33 : decode cX1_takeDeath 33 = .ok (.iconst 1, 1) := by decide +kernel
theorem dX1_takeDeath_34 : decode cX1_takeDeath 34 = .ok (.iastore, 1) := by decide +kernel
theorem dX1_takeDeath_35 : decode cX1_takeDeath 35 = .ok (.aload_n 0, 1) := by decide +kernel
theorem dX1_takeDeath_36 : decode cX1_takeDeath 36 = .ok (.getfield 9, 3) := by decide +kernel
theorem dX1_takeDeath_39 : decode cX1_takeDeath 39 = .ok (.invokevirtual 31, 3) := by decide +kernel
theorem dX1_takeDeath_42 : decode cX1_takeDeath 42 = .ok (.iconst 1, 1) := by decide +kernel
theorem dX1_takeDeath_43 : decode cX1_takeDeath 43 = .ok (.ireturn, 1) := by decide +kernel
theorem dX1_takeNumber_0 : decode cX1_takeNumber 0 = .ok (.aload_n 0, 1) := by decide +kernel
theorem dX1_takeNumber_1 : decode cX1_takeNumber 1 = .ok (.getfield 9, 3) := by decide +kernel
theorem dX1_takeNumber_4 : decode cX1_takeNumber 4 = .ok (.invokevirtual 31, 3) := by decide +kernel
theorem dX1_takeNumber_7 : decode cX1_takeNumber 7 = .ok (.aload_n 0, 1) := by decide +kernel
theorem dX1_takeNumber_8 : decode cX1_takeNumber 8 = .ok (.getfield 9, 3) := by decide +kernel
theorem dX1_takeNumber_11 : decode cX1_takeNumber 11 = .ok (.iload_n 1, 1) := by decide +kernel
theorem dX1_takeNumber_12 : decode cX1_takeNumber 12 = .ok (.iload_n 2, 1) := by decide +kernel
theorem dX1_takeNumber_13 : decode cX1_takeNumber 13 = .ok (.invokevirtual 114, 3) := by decide +kernel
theorem dX1_takeNumber_16 : decode cX1_takeNumber 16 = .ok (.ireturn, 1) := by decide +kernel
theorem dX1_kindAtTape_0 : decode cX1_kindAtTape 0 = .ok (.aload_n 0, 1) := by decide +kernel
theorem dX1_kindAtTape_1 : decode cX1_kindAtTape 1 = .ok (.getfield 9, 3) := by decide +kernel
theorem dX1_kindAtTape_4 : decode cX1_kindAtTape 4 = .ok (.ldc 117, 2) := by decide +kernel
theorem dX1_kindAtTape_6 : decode cX1_kindAtTape 6 = .ok (.invokevirtual 57, 3) := by decide +kernel
theorem dX1_kindAtTape_9 : decode cX1_kindAtTape 9 = .ok (.ifCond .eq 5, 3) := by decide +kernel
theorem dX1_kindAtTape_12 : decode cX1_kindAtTape 12 = .ok (.iconst 0, 1) := by decide +kernel
theorem dX1_kindAtTape_13 : decode cX1_kindAtTape 13 = .ok (.ireturn, 1) := by decide +kernel
theorem dX1_kindAtTape_14 : decode cX1_kindAtTape 14 = .ok (.aload_n 0, 1) := by decide +kernel
theorem dX1_kindAtTape_15 : decode cX1_kindAtTape 15 = .ok (.getfield 9, 3) := by decide +kernel
theorem dX1_kindAtTape_18 : decode cX1_kindAtTape 18 = .ok (.ldc 119, 2) := by decide +kernel
theorem dX1_kindAtTape_20 : decode cX1_kindAtTape 20 = .ok (.invokevirtual 57, 3) := by decide +kernel
theorem dX1_kindAtTape_23 : decode cX1_kindAtTape 23 = .ok (.ifCond .eq 5, 3) := by decide +kernel
theorem dX1_kindAtTape_26 : decode cX1_kindAtTape 26 = .ok (.iconst 1, 1) := by decide +kernel
theorem dX1_kindAtTape_27 : decode cX1_kindAtTape 27 = .ok (.ireturn, 1) := by decide +kernel
theorem dX1_kindAtTape_28 : decode cX1_kindAtTape 28 = .ok (.aload_n 0, 1) := by decide +kernel
theorem dX1_kindAtTape_29 : decode cX1_kindAtTape 29 = .ok (.getfield 9, 3) := by decide +kernel
theorem dX1_kindAtTape_32 : decode cX1_kindAtTape 32 = .ok (.ldc 121, 2) := by decide +kernel
theorem dX1_kindAtTape_34 : decode cX1_kindAtTape 34 = .ok (.invokevirtual 57, 3) := by decide +kernel
theorem dX1_kindAtTape_37 : decode cX1_kindAtTape 37 = .ok (.ifCond .eq 5, 3) := by decide +kernel
theorem dX1_kindAtTape_40 : decode cX1_kindAtTape 40 = .ok (.iconst 2, 1) := by decide +kernel
theorem dX1_kindAtTape_41 : decode cX1_kindAtTape 41 = .ok (.ireturn, 1) := by decide +kernel
theorem dX1_kindAtTape_42 : decode cX1_kindAtTape 42 = .ok (.aload_n 0, 1) := by decide +kernel
theorem dX1_kindAtTape_43 : decode cX1_kindAtTape 43 = .ok (.getfield 9, 3) := by decide +kernel
theorem dX1_kindAtTape_46 : decode cX1_kindAtTape 46 = .ok (.ldc 123, 2) := by decide +kernel
theorem dX1_kindAtTape_48 : decode cX1_kindAtTape 48 = .ok (.invokevirtual 57, 3) := by decide +kernel
theorem dX1_kindAtTape_51 : decode cX1_kindAtTape 51 = .ok (.ifCond .eq 5, 3) := by decide +kernel
theorem dX1_kindAtTape_54 : decode cX1_kindAtTape 54 = .ok (.iconst 3, 1) := by decide +kernel
theorem dX1_kindAtTape_55 : decode cX1_kindAtTape 55 = .ok (.ireturn, 1) := by decide +kernel
theorem dX1_kindAtTape_56 : decode cX1_kindAtTape 56 = .ok (.aload_n 0, 1) := by decide +kernel
theorem dX1_kindAtTape_57 : decode cX1_kindAtTape 57 = .ok (.getfield 9, 3) := by decide +kernel
theorem dX1_kindAtTape_60 : decode cX1_kindAtTape 60 = .ok (.ldc 125, 2) := by decide +kernel
theorem dX1_kindAtTape_62 : decode cX1_kindAtTape 62 = .ok (.invokevirtual 57, 3) := by decide +kernel
theorem dX1_kindAtTape_65 : decode cX1_kindAtTape 65 = .ok (.ifCond .eq 5, 3) := by decide +kernel
theorem dX1_kindAtTape_68 : decode cX1_kindAtTape 68 = .ok (.iconst 4, 1) := by decide +kernel
theorem dX1_kindAtTape_69 : decode cX1_kindAtTape 69 = .ok (.ireturn, 1) := by decide +kernel
theorem dX1_kindAtTape_70 : decode cX1_kindAtTape 70 = .ok (.aload_n 0, 1) := by decide +kernel
theorem dX1_kindAtTape_71 : decode cX1_kindAtTape 71 = .ok (.getfield 9, 3) := by decide +kernel
theorem dX1_kindAtTape_74 : decode cX1_kindAtTape 74 = .ok (.ldc 127, 2) := by decide +kernel
theorem dX1_kindAtTape_76 : decode cX1_kindAtTape 76 = .ok (.invokevirtual 57, 3) := by decide +kernel
theorem dX1_kindAtTape_79 : decode cX1_kindAtTape 79 = .ok (.ifCond .eq 7, 3) := by decide +kernel
theorem dX1_kindAtTape_82 : decode cX1_kindAtTape 82 = .ok (.iconst 5, 1) := by decide +kernel
theorem dX1_kindAtTape_83 : decode cX1_kindAtTape 83 = .ok (.goto 4, 3) := by decide +kernel
theorem dX1_kindAtTape_86 : decode cX1_kindAtTape 86 = .ok (.iconst (-1), 1) := by decide +kernel
theorem dX1_kindAtTape_87 : decode cX1_kindAtTape 87 = .ok (.ireturn, 1) := by decide +kernel
theorem dX1_markAtTape_0 : decode cX1_markAtTape 0 = .ok (.aload_n 0, 1) := by decide +kernel
theorem dX1_markAtTape_1 : decode cX1_markAtTape 1 = .ok (.getfield 9, 3) := by decide +kernel
theorem dX1_markAtTape_4 : decode cX1_markAtTape 4 = .ok (.ldc 129, 2) := by decide +kernel
theorem dX1_markAtTape_6 : decode cX1_markAtTape 6 = .ok (.invokevirtual 57, 3) := by decide +kernel
theorem dX1_markAtTape_9 : decode cX1_markAtTape 9 = .ok (.ifCond .eq 5, 3) := by decide +kernel
theorem dX1_markAtTape_12 : decode cX1_markAtTape 12 = .ok (.iconst 0, 1) := by decide +kernel
theorem dX1_markAtTape_13 : decode cX1_markAtTape 13 = .ok (.ireturn, 1) := by decide +kernel
theorem dX1_markAtTape_14 : decode cX1_markAtTape 14 = .ok (.aload_n 0, 1) := by decide +kernel
theorem dX1_markAtTape_15 : decode cX1_markAtTape 15 = .ok (.getfield 9, 3) := by decide +kernel
theorem dX1_markAtTape_18 : decode cX1_markAtTape 18 = .ok (.ldc 131, 2) := by decide +kernel
theorem dX1_markAtTape_20 : decode cX1_markAtTape 20 = .ok (.invokevirtual 57, 3) := by decide +kernel
theorem dX1_markAtTape_23 : decode cX1_markAtTape 23 = .ok (.ifCond .eq 5, 3) := by decide +kernel
theorem dX1_markAtTape_26 : decode cX1_markAtTape 26 = .ok (.iconst 1, 1) := by decide +kernel
theorem dX1_markAtTape_27 : decode cX1_markAtTape 27 = .ok (.ireturn, 1) := by decide +kernel
theorem dX1_markAtTape_28 : decode cX1_markAtTape 28 = .ok (.aload_n 0, 1) := by decide +kernel
theorem dX1_markAtTape_29 : decode cX1_markAtTape 29 = .ok (.getfield 9, 3) := by decide +kernel
theorem dX1_markAtTape_32 : decode cX1_markAtTape 32 = .ok (.ldc 133, 2) := by decide +kernel
theorem dX1_markAtTape_34 : decode cX1_markAtTape 34 = .ok (.invokevirtual 57, 3) := by decide +kernel
theorem dX1_markAtTape_37 : decode cX1_markAtTape 37 = .ok (.ifCond .eq 7, 3) := by decide +kernel
theorem dX1_markAtTape_40 : decode cX1_markAtTape 40 = .ok (.iconst 2, 1) := by decide +kernel
theorem dX1_markAtTape_41 : decode cX1_markAtTape 41 = .ok (.goto 4, 3) := by decide +kernel
theorem dX1_markAtTape_44 : decode cX1_markAtTape 44 = .ok (.iconst (-1), 1) := by decide +kernel
theorem dX1_markAtTape_45 : decode cX1_markAtTape 45 = .ok (.ireturn, 1) := by decide +kernel
theorem dX2_init_0 : decode cX2_init 0 = .ok (.aload_n 0, 1) := by decide +kernel
theorem dX2_init_1 : decode cX2_init 1 = .ok (.invokespecial 3, 3) := by decide +kernel
theorem dX2_init_4 : decode cX2_init 4 = .ok (.aload_n 0, 1) := by decide +kernel
theorem dX2_init_5 : decode cX2_init 5 = .ok (.bipush 40, 2) := by decide +kernel
theorem dX2_init_7 : decode cX2_init 7 = .ok (.newarray .long, 2) := by decide +kernel
theorem dX2_init_9 : decode cX2_init 9 = .ok (.putfield 9, 3) := by decide +kernel
theorem dX2_init_12 : decode cX2_init 12 = .ok (.aload_n 0, 1) := by decide +kernel
theorem dX2_init_13 : decode cX2_init 13 = .ok (.iconst 0, 1) := by decide +kernel
theorem dX2_init_14 : decode cX2_init 14 = .ok (.putfield 15, 3) := by decide +kernel
theorem dX2_init_17 : decode cX2_init 17 = .ok (.aload_n 0, 1) := by decide +kernel
theorem dX2_init_18 : decode cX2_init 18 = .ok (.iconst 0, 1) := by decide +kernel
theorem dX2_init_19 : decode cX2_init 19 = .ok (.putfield 19, 3) := by decide +kernel
theorem dX2_init_22 : decode cX2_init 22 = .ok (.return_, 1) := by decide +kernel
theorem dX2_isMissing_0 : decode cX2_isMissing 0 = .ok (.aload_n 0, 1) := by decide +kernel
theorem dX2_isMissing_1 : decode cX2_isMissing 1 = .ok (.getfield 15, 3) := by decide +kernel
theorem dX2_isMissing_4 : decode cX2_isMissing 4 = .ok (.ifCond .ne 7, 3) := by decide +kernel
theorem dX2_isMissing_7 : decode cX2_isMissing 7 = .ok (.iconst 1, 1) := by decide +kernel
theorem dX2_isMissing_8 : decode cX2_isMissing 8 = .ok (.goto 4, 3) := by decide +kernel
theorem dX2_isMissing_11 : decode cX2_isMissing 11 = .ok (.iconst 0, 1) := by decide +kernel
theorem dX2_isMissing_12 : decode cX2_isMissing 12 = .ok (.ireturn, 1) := by decide +kernel
theorem dX2_begin_0 : decode cX2_begin 0 = .ok (.aload_n 0, 1) := by decide +kernel
theorem dX2_begin_1 : decode cX2_begin 1 = .ok (.iload_n 1, 1) := by decide +kernel
theorem dX2_begin_2 : decode cX2_begin 2 = .ok (.putfield 15, 3) := by decide +kernel
theorem dX2_begin_5 : decode cX2_begin 5 = .ok (.aload_n 0, 1) := by decide +kernel
theorem dX2_begin_6 : decode cX2_begin 6 = .ok (.iload_n 1, 1) := by decide +kernel
theorem dX2_begin_7 : decode cX2_begin 7 = .ok (.ifCond .ne 7, 3) := by decide +kernel
theorem dX2_begin_10 : decode cX2_begin 10 = .ok (.iconst 0, 1) := by decide +kernel
theorem dX2_begin_11 : decode cX2_begin 11 = .ok (.goto 4, 3) := by decide +kernel
theorem dX2_begin_14 : decode cX2_begin 14 = .ok (.iload_n 2, 1) := by decide +kernel
theorem dX2_begin_15 : decode cX2_begin 15 = .ok (.putfield 19, 3) := by decide +kernel
theorem dX2_begin_18 : decode cX2_begin 18 = .ok (.iconst 0, 1) := by decide +kernel
theorem dX2_begin_19 : decode cX2_begin 19 = .ok (.istore_n 3, 1) := by decide +kernel
theorem dX2_begin_20 : decode cX2_begin 20 = .ok (.iload_n 3, 1) := by decide +kernel
theorem dX2_begin_21 : decode cX2_begin 21 = .ok (.bipush 40, 2) := by decide +kernel
theorem dX2_begin_23 : decode cX2_begin 23 = .ok (.if_icmp .ge 16, 3) := by decide +kernel
theorem dX2_begin_26 : decode cX2_begin 26 = .ok (.aload_n 0, 1) := by decide +kernel
theorem dX2_begin_27 : decode cX2_begin 27 = .ok (.getfield 9, 3) := by decide +kernel
theorem dX2_begin_30 : decode cX2_begin 30 = .ok (.iload_n 3, 1) := by decide +kernel
theorem dX2_begin_31 : decode cX2_begin 31 = .ok (.lconst 0, 1) := by decide +kernel
theorem dX2_begin_32 : decode cX2_begin 32 = .ok (.lastore, 1) := by decide +kernel
theorem dX2_begin_33 : decode cX2_begin 33 = .ok (.iinc 3 1, 3) := by decide +kernel
theorem dX2_begin_36 : decode cX2_begin 36 = .ok (.goto (-16), 3) := by decide +kernel
theorem dX2_begin_39 : decode cX2_begin 39 = .ok (.return_, 1) := by decide +kernel
theorem dX2_put_0 : decode cX2_put 0 = .ok (.aload_n 0, 1) := by decide +kernel
theorem dX2_put_1 : decode cX2_put 1 = .ok (.getfield 15, 3) := by decide +kernel
theorem dX2_put_4 : decode cX2_put 4 = .ok (.lookupswitch 54 #[(8, 28), (16, 41)], 28) := by decide +kernel
theorem dX2_put_32 : decode cX2_put 32 = .ok (.aload_n 0, 1) := by decide +kernel
theorem dX2_put_33 : decode cX2_put 33 = .ok (.getfield 9, 3) := by decide +kernel
theorem dX2_put_36 : decode cX2_put 36 = .ok (.iload_n 1, 1) := by decide +kernel
theorem dX2_put_37 : decode cX2_put 37 = .ok (.lload_n 2, 1) := by decide +kernel
theorem dX2_put_38 : decode cX2_put 38 = .ok (.l2i, 1) := by decide +kernel
theorem dX2_put_39 : decode cX2_put 39 = .ok (.i2b, 1) := by decide +kernel
theorem dX2_put_40 : decode cX2_put 40 = .ok (.i2l, 1) := by decide +kernel
theorem dX2_put_41 : decode cX2_put 41 = .ok (.lastore, 1) := by decide +kernel
theorem dX2_put_42 : decode cX2_put 42 = .ok (.goto 23, 3) := by decide +kernel
theorem dX2_put_45 : decode cX2_put 45 = .ok (.aload_n 0, 1) := by decide +kernel
theorem dX2_put_46 : decode cX2_put 46 = .ok (.getfield 9, 3) := by decide +kernel
theorem dX2_put_49 : decode cX2_put 49 = .ok (.iload_n 1, 1) := by decide +kernel
theorem dX2_put_50 : decode cX2_put 50 = .ok (.lload_n 2, 1) := by decide +kernel
theorem dX2_put_51 : decode cX2_put 51 = .ok (.l2i, 1) := by decide +kernel
theorem dX2_put_52 : decode cX2_put 52 = .ok (.i2s, 1) := by decide +kernel
theorem dX2_put_53 : decode cX2_put 53 = .ok (.i2l, 1) := by decide +kernel
theorem dX2_put_54 : decode cX2_put 54 = .ok (.lastore, 1) := by decide +kernel
theorem dX2_put_55 : decode cX2_put 55 = .ok (.goto 10, 3) := by decide +kernel
theorem dX2_put_58 : decode cX2_put 58 = .ok (.aload_n 0, 1) := by decide +kernel
theorem dX2_put_59 : decode cX2_put 59 = .ok (.getfield 9, 3) := by decide +kernel
theorem dX2_put_62 : decode cX2_put 62 = .ok (.iload_n 1, 1) := by decide +kernel
theorem dX2_put_63 : decode cX2_put 63 = .ok (.lload_n 2, 1) := by decide +kernel
theorem dX2_put_64 : decode cX2_put 64 = .ok (.lastore, 1) := by decide +kernel
theorem dX2_put_65 : decode cX2_put 65 = .ok (.return_, 1) := by decide +kernel
theorem dX2_hasRun_0 : decode cX2_hasRun 0 = .ok (.iload_n 1, 1) := by decide +kernel
theorem dX2_hasRun_1 : decode cX2_hasRun 1 = .ok (.ifCond .lt 29, 3) := by decide +kernel
theorem dX2_hasRun_4 : decode cX2_hasRun 4 = .ok (.iload_n 2, 1) := by decide +kernel
theorem dX2_hasRun_5 : decode cX2_hasRun 5 = .ok (.ifCond .lt 25, 3) := by decide +kernel
theorem dX2_hasRun_8 : decode cX2_hasRun 8 = .ok (.iload_n 1, 1) := by decide +kernel
theorem dX2_hasRun_9 : decode cX2_hasRun 9 = .ok (.aload_n 0, 1) := by decide +kernel
theorem dX2_hasRun_10 : decode cX2_hasRun 10 = .ok (.getfield 19, 3) := by decide +kernel
theorem dX2_hasRun_13 : decode cX2_hasRun 13 = .ok (.if_icmp .gt 17, 3) := by decide +kernel
theorem dX2_hasRun_16 : decode cX2_hasRun 16 = .ok (.iload_n 2, 1) := by decide +kernel
theorem dX2_hasRun_17 : decode cX2_hasRun 17 = .ok (.aload_n 0, 1) := by decide +kernel
theorem dX2_hasRun_18 : decode cX2_hasRun 18 = .ok (.getfield 19, 3) := by decide +kernel
theorem dX2_hasRun_21 : decode cX2_hasRun 21 = .ok (.iload_n 1, 1) := by decide +kernel
theorem dX2_hasRun_22 : decode cX2_hasRun 22 = .ok (.isub, 1) := by decide +kernel
theorem dX2_hasRun_23 : decode cX2_hasRun 23 = .ok (.if_icmp .gt 7, 3) := by decide +kernel
theorem dX2_hasRun_26 : decode cX2_hasRun 26 = .ok (.iconst 1, 1) := by decide +kernel
theorem dX2_hasRun_27 : decode cX2_hasRun 27 = .ok (.goto 4, 3) := by decide +kernel
theorem dX2_hasRun_30 : decode cX2_hasRun 30 = .ok (.iconst 0, 1) := by decide +kernel
theorem dX2_hasRun_31 : decode cX2_hasRun 31 = .ok (.ireturn, 1) := by decide +kernel
theorem dX3_init_0 : decode cX3_init 0 = .ok (.aload_n 0, 1) := by decide +kernel
theorem dX3_init_1 : decode cX3_init 1 = .ok (.invokespecial 3, 3) := by decide +kernel
theorem dX3_init_4 : decode cX3_init 4 = .ok (.aload_n 0, 1) := by decide +kernel
theorem dX3_init_5 : decode cX3_init 5 = .ok (.bipush 120, 2) := by decide +kernel
theorem dX3_init_7 : decode cX3_init 7 = .ok (.newarray .int, 2) := by decide +kernel
theorem dX3_init_9 : decode cX3_init 9 = .ok (.putfield 9, 3) := by decide +kernel
theorem dX3_init_12 : decode cX3_init 12 = .ok (.aload_n 0, 1) := by decide +kernel
theorem dX3_init_13 : decode cX3_init 13 = .ok (.iconst 0, 1) := by decide +kernel
theorem dX3_init_14 : decode cX3_init 14 = .ok (.putfield 15, 3) := by decide +kernel
theorem dX3_init_17 : decode cX3_init 17 = .ok (.aload_n 0, 1) := by decide +kernel
theorem dX3_init_18 : decode cX3_init 18 = .ok (.invokevirtual 19, 3) := by decide +kernel
theorem dX3_init_21 : decode cX3_init 21 = .ok (.return_, 1) := by decide +kernel
theorem dX3_append_0 : decode cX3_append 0 = .ok (.aload_n 0, 1) := by decide +kernel
theorem dX3_append_1 : decode cX3_append 1 = .ok (.getfield 9, 3) := by decide +kernel
theorem dX3_append_4 : decode cX3_append 4 = .ok (.aload_n 0, 1) := by decide +kernel
theorem dX3_append_5 : decode cX3_append 5 = .ok (.getfield 15, 3) := by decide +kernel
theorem dX3_append_8 : decode cX3_append 8 = .ok (.iload_n 1, 1) := by decide +kernel
theorem dX3_append_9 : decode cX3_append 9 = .ok (.iastore, 1) := by decide +kernel
theorem dX3_append_10 : decode cX3_append 10 = .ok (.aload_n 0, 1) := by decide +kernel
theorem dX3_append_11 : decode cX3_append 11 = .ok (.dup, 1) := by decide +kernel
theorem dX3_append_12 : decode cX3_append 12 = .ok (.getfield 15, 3) := by decide +kernel
theorem dX3_append_15 : decode cX3_append 15 = .ok (.iconst 1, 1) := by decide +kernel
theorem dX3_append_16 : decode cX3_append 16 = .ok (.iadd, 1) := by decide +kernel
theorem dX3_append_17 : decode cX3_append 17 = .ok (.putfield 15, 3) := by decide +kernel
theorem dX3_append_20 : decode cX3_append 20 = .ok (.return_, 1) := by decide +kernel
theorem dX3_clear_0 : decode cX3_clear 0 = .ok (.aload_n 0, 1) := by decide +kernel
theorem dX3_clear_1 : decode cX3_clear 1 = .ok (.iconst 0, 1) := by decide +kernel
theorem dX3_clear_2 : decode cX3_clear 2 = .ok (.putfield 15, 3) := by decide +kernel
theorem dX3_clear_5 : decode cX3_clear 5 = .ok (.return_, 1) := by decide +kernel
theorem dX3_rewind_0 : decode cX3_rewind 0 = .ok (.aload_n 0, 1) := by decide +kernel
theorem dX3_rewind_1 : decode cX3_rewind 1 = .ok (.iconst 0, 1) := by decide +kernel
theorem dX3_rewind_2 : decode cX3_rewind 2 = .ok (.putfield 22, 3) := by decide +kernel
theorem dX3_rewind_5 : decode cX3_rewind 5 = .ok (.aload_n 0, 1) := by decide +kernel
theorem dX3_rewind_6 : decode cX3_rewind 6 = .ok (.iconst 0, 1) := by decide +kernel
theorem dX3_rewind_7 : decode cX3_rewind 7 = .ok (.putfield 25, 3) := by decide +kernel
theorem dX3_rewind_10 : decode cX3_rewind 10 = .ok (.aload_n 0, 1) := by decide +kernel
theorem dX3_rewind_11 : decode cX3_rewind 11 = .ok (.iconst 0, 1) := by decide +kernel
theorem dX3_rewind_12 : decode cX3_rewind 12 = .ok (.putfield 28, 3) := by decide +kernel
theorem dX3_rewind_15 : decode cX3_rewind 15 = .ok (.aload_n 0, 1) := by decide +kernel
theorem dX3_rewind_16 : decode cX3_rewind 16 = .ok (.iconst 0, 1) := by decide +kernel
theorem dX3_rewind_17 : decode cX3_rewind 17 = .ok (.putfield 31, 3) := by decide +kernel
theorem dX3_rewind_20 : decode cX3_rewind 20 = .ok (.return_, 1) := by decide +kernel
theorem dX3_step_0 : decode cX3_step 0 = .ok (.aload_n 0, 1) := by decide +kernel
theorem dX3_step_1 : decode cX3_step 1 = .ok (.aload_n 0, 1) := by decide +kernel
theorem dX3_step_2 : decode cX3_step 2 = .ok (.getfield 28, 3) := by decide +kernel
theorem dX3_step_5 : decode cX3_step 5 = .ok (.putfield 25, 3) := by decide +kernel
theorem dX3_step_8 : decode cX3_step 8 = .ok (.aload_n 0, 1) := by decide +kernel
theorem dX3_step_9 : decode cX3_step 9 = .ok (.getfield 25, 3) := by decide +kernel
theorem dX3_step_12 : decode cX3_step 12 = .ok (.aload_n 0, 1) := by decide +kernel
theorem dX3_step_13 : decode cX3_step 13 = .ok (.getfield 15, 3) := by decide +kernel
theorem dX3_step_16 : decode cX3_step 16 = .ok (.if_icmp .ge 30, 3) := by decide +kernel
theorem dX3_step_19 : decode cX3_step 19 = .ok (.aload_n 0, 1) := by decide +kernel
theorem dX3_step_20 : decode cX3_step 20 = .ok (.getfield 9, 3) := by decide +kernel
theorem dX3_step_23 : decode cX3_step 23 = .ok (.aload_n 0, 1) := by decide +kernel
theorem dX3_step_24 : decode cX3_step 24 = .ok (.getfield 25, 3) := by decide +kernel
theorem dX3_step_27 : decode cX3_step 27 = .ok (.iaload, 1) := by decide +kernel
theorem dX3_step_28 : decode cX3_step 28 = .ok (.bipush 32, 2) := by decide +kernel
theorem dX3_step_30 : decode cX3_step 30 = .ok (.if_icmp .ne 16, 3) := by decide +kernel
theorem dX3_step_33 : decode cX3_step 33 = .ok (.aload_n 0, 1) := by decide +kernel
theorem dX3_step_34 : decode cX3_step 34 = .ok (.dup, 1) := by decide +kernel
theorem dX3_step_35 : decode cX3_step 35 = .ok (.getfield 25, 3) := by decide +kernel
theorem dX3_step_38 : decode cX3_step 38 = .ok (.iconst 1, 1) := by decide +kernel
theorem dX3_step_39 : decode cX3_step 39 = .ok (.iadd, 1) := by decide +kernel
theorem dX3_step_40 : decode cX3_step 40 = .ok (.putfield 25, 3) := by decide +kernel
theorem dX3_step_43 : decode cX3_step 43 = .ok (.goto (-35), 3) := by decide +kernel
theorem dX3_step_46 : decode cX3_step 46 = .ok (.aload_n 0, 1) := by decide +kernel
theorem dX3_step_47 : decode cX3_step 47 = .ok (.aload_n 0, 1) := by decide +kernel
theorem dX3_step_48 : decode cX3_step 48 = .ok (.getfield 25, 3) := by decide +kernel
theorem dX3_step_51 : decode cX3_step 51 = .ok (.putfield 28, 3) := by decide +kernel
theorem dX3_step_54 : decode cX3_step 54 = .ok (.aload_n 0, 1) := by decide +kernel
theorem dX3_step_55 : decode cX3_step 55 = .ok (.iconst 0, 1) := by decide +kernel
theorem dX3_step_56 : decode cX3_step 56 = .ok (.putfield 31, 3) := by decide +kernel
theorem dX3_step_59 : decode cX3_step 59 = .ok (.aload_n 0, 1) := by decide +kernel
theorem dX3_step_60 : decode cX3_step 60 = .ok (.aload_n 0, 1) := by decide +kernel
theorem dX3_step_61 : decode cX3_step 61 = .ok (.getfield 25, 3) := by decide +kernel
theorem dX3_step_64 : decode cX3_step 64 = .ok (.aload_n 0, 1) := by decide +kernel
theorem dX3_step_65 : decode cX3_step 65 = .ok (.getfield 15, 3) := by decide +kernel
theorem dX3_step_68 : decode cX3_step 68 = .ok (.if_icmp .ge 18, 3) := by decide +kernel
theorem dX3_step_71 : decode cX3_step 71 = .ok (.aload_n 0, 1) := by decide +kernel
theorem dX3_step_72 : decode cX3_step 72 = .ok (.getfield 9, 3) := by decide +kernel
theorem dX3_step_75 : decode cX3_step 75 = .ok (.aload_n 0, 1) := by decide +kernel
theorem dX3_step_76 : decode cX3_step 76 = .ok (.getfield 25, 3) := by decide +kernel
theorem dX3_step_79 : decode cX3_step 79 = .ok (.iaload, 1) := by decide +kernel
theorem dX3_step_80 : decode cX3_step 80 = .ok (.invokestatic 34, 3) := by decide +kernel
theorem dX3_step_83 : decode cX3_step 83 = .ok (.goto 4, 3) := by decide +kernel
theorem dX3_step_86 : decode cX3_step 86 = .ok (.iconst 0, 1) := by decide +kernel
theorem dX3_step_87 : decode cX3_step 87 = .ok (.putfield 22, 3) := by decide +kernel
theorem dX3_step_90 : decode cX3_step 90 = .ok (.aload_n 0, 1) := by decide +kernel
theorem dX3_step_91 : decode cX3_step 91 = .ok (.getfield 22, 3) := by decide +kernel
theorem dX3_step_94 : decode cX3_step 94 = .ok (.iconst 3, 1) := by decide +kernel
theorem dX3_step_95 : decode cX3_step 95 = .ok (.if_icmp .eq 11, 3) := by decide +kernel
theorem dX3_step_98 : decode cX3_step 98 = .ok (.aload_n 0, 1) := by decide +kernel
theorem dX3_step_99 : decode cX3_step 99 = .ok (.getfield 22, 3) := by decide +kernel
theorem dX3_step_102 : decode cX3_step 102 = .ok (.iconst 4, 1) := by decide +kernel
theorem dX3_step_103 : decode cX3_step 103 = .ok (.if_icmp .ne 12, 3) := by decide +kernel
theorem dX3_step_106 : decode cX3_step 106 = .ok (.aload_n 0, 1) := by decide +kernel
theorem dX3_step_107 : decode cX3_step 107 = .ok (.getfield 25, 3) := by decide +kernel
theorem dX3_step_110 : decode cX3_step 110 = .ok (.iconst 1, 1) := by decide +kernel
theorem dX3_step_111 : decode cX3_step 111 = .ok (.iadd, 1) := by decide +kernel
theorem dX3_step_112 : decode cX3_step 112 = .ok (.goto 7, 3) := by decide +kernel
theorem dX3_step_115 : decode cX3_step 115 = .ok (.aload_n 0, 1) := by decide +kernel
theorem dX3_step_116 : decode cX3_step 116 = .ok (.getfield 15, 3) := by decide +kernel
theorem dX3_step_119 : decode cX3_step 119 = .ok (.istore_n 1, 1) := by decide +kernel
theorem dX3_step_120 : decode cX3_step 120 = .ok (.aload_n 0, 1) := by decide +kernel
theorem dX3_step_121 : decode cX3_step 121 = .ok (.getfield 28, 3) := by decide +kernel
theorem dX3_step_124 : decode cX3_step 124 = .ok (.iload_n 1, 1) := by decide +kernel
theorem dX3_step_125 : decode cX3_step 125 = .ok (.if_icmp .ge 73, 3) := by decide +kernel
theorem dX3_step_128 : decode cX3_step 128 = .ok (.aload_n 0, 1) := by decide +kernel
theorem dX3_step_129 : decode cX3_step 129 = .ok (.getfield 9, 3) := by decide +kernel
theorem dX3_step_132 : decode cX3_step 132 = .ok (.aload_n 0, 1) := by decide +kernel
theorem dX3_step_133 : decode cX3_step 133 = .ok (.getfield 28, 3) := by decide +kernel
theorem dX3_step_136 : decode cX3_step 136 = .ok (.iaload, 1) := by decide +kernel
theorem dX3_step_137 : decode cX3_step 137 = .ok (.invokestatic 34, 3) := by decide +kernel
theorem dX3_step_140 : decode cX3_step 140 = .ok (.aload_n 0, 1) := by decide +kernel
theorem dX3_step_141 : decode cX3_step 141 = .ok (.getfield 22, 3) := by decide +kernel
theorem dX3_step_144 : decode cX3_step 144 = .ok (.if_icmp .ne 54, 3) := by decide +kernel
theorem dX3_step_147 : decode cX3_step 147 = .ok (.aload_n 0, 1) := by decide +kernel
theorem dX3_step_148 : decode cX3_step 148 = .ok (.getfield 22, 3) := by decide +kernel
theorem dX3_step_151 : decode cX3_step 151 = .ok (.iconst 2, 1) := by decide +kernel
theorem dX3_step_152 : decode cX3_step 152 = .ok (.if_icmp .ne 33, 3) := by decide +kernel
theorem dX3_step_155 : decode cX3_step 155 = .ok (.aload_n 0, 1) := by decide +kernel
theorem dX3_step_156 : decode cX3_step 156 = .ok (.sipush 1000, 3) := by decide +kernel
theorem dX3_step_159 : decode cX3_step 159 = .ok (.aload_n 0, 1) := by decide +kernel
theorem dX3_step_160 : decode cX3_step 160 = .ok (.getfield 31, 3) := by decide +kernel
theorem dX3_step_163 : decode cX3_step 163 = .ok (.bipush 10, 2) := by decide +kernel
theorem dX3_step_165 : decode cX3_step 165 = .ok (.imul, 1) := by decide +kernel
theorem dX3_step_166 : decode cX3_step 166 = .ok (.aload_n 0, 1) := by decide +kernel
theorem dX3_step_167 : decode cX3_step 167 = .ok (.getfield 9, 3) := by decide +kernel
theorem dX3_step_170 : decode cX3_step 170 = .ok (.aload_n 0, 1) := by decide +kernel
theorem dX3_step_171 : decode cX3_step 171 = .ok (.getfield 28, 3) := by decide +kernel
theorem dX3_step_174 : decode cX3_step 174 = .ok (.iaload, 1) := by decide +kernel
theorem dX3_step_175 : decode cX3_step 175 = .ok (.iadd, 1) := by decide +kernel
theorem dX3_step_176 : decode cX3_step 176 = .ok (.bipush 48, 2) := by decide +kernel
theorem dX3_step_178 : decode cX3_step 178 = .ok (.isub, 1) := by decide +kernel
theorem dX3_step_179 : decode cX3_step 179 = .ok (.invokestatic 38, 3) := by decide +kernel
theorem dX3_step_182 : decode cX3_step 182 = .ok (.putfield 31, 3) := by decide +kernel
theorem dX3_step_185 : decode cX3_step 185 = .ok (.aload_n 0, 1) := by decide +kernel
theorem dX3_step_186 : decode cX3_step 186 = .ok (.dup, 1) := by decide +kernel
theorem dX3_step_187 : decode cX3_step 187 = .ok (.getfield 28, 3) := by decide +kernel
theorem dX3_step_190 : decode cX3_step 190 = .ok (.iconst 1, 1) := by decide +kernel
theorem dX3_step_191 : decode cX3_step 191 = .ok (.iadd, 1) := by decide +kernel
theorem dX3_step_192 : decode cX3_step 192 = .ok (.putfield 28, 3) := by decide +kernel
theorem dX3_step_195 : decode cX3_step 195 = .ok (.goto (-75), 3) := by decide +kernel
theorem dX3_step_198 : decode cX3_step 198 = .ok (.return_, 1) := by decide +kernel
theorem dX3_tokenOf_0 : decode cX3_tokenOf 0 = .ok (.iload_n 0, 1) := by decide +kernel
theorem dX3_tokenOf_1 : decode cX3_tokenOf 1 = .ok (.bipush 97, 2) := by decide +kernel
theorem dX3_tokenOf_3 : decode cX3_tokenOf 3 = .ok (.if_icmp .lt 11, 3) := by decide +kernel
theorem dX3_tokenOf_6 : decode cX3_tokenOf 6 = .ok (.iload_n 0, 1) := by decide +kernel
theorem dX3_tokenOf_7 : decode cX3_tokenOf 7 = .ok (.bipush 122, 2) := by decide +kernel
theorem dX3_tokenOf_9 : decode cX3_tokenOf 9 = .ok (.if_icmp .gt 5, 3) := by decide +kernel
theorem dX3_tokenOf_12 : decode cX3_tokenOf 12 = .ok (.iconst 1, 1) := by decide +kernel
theorem dX3_tokenOf_13 : decode cX3_tokenOf 13 = .ok (.ireturn, 1) := by decide +kernel
theorem dX3_tokenOf_14 : decode cX3_tokenOf 14 = .ok (.iload_n 0, 1) := by decide +kernel
theorem dX3_tokenOf_15 : decode cX3_tokenOf 15 = .ok (.bipush 48, 2) := by decide +kernel
theorem dX3_tokenOf_17 : decode cX3_tokenOf 17 = .ok (.if_icmp .lt 11, 3) := by decide +kernel
theorem dX3_tokenOf_20 : decode cX3_tokenOf 20 = .ok (.iload_n 0, 1) := by decide +kernel
theorem dX3_tokenOf_21 : decode cX3_tokenOf 21 = .ok (.bipush 57, 2) := by decide +kernel
theorem dX3_tokenOf_23 : decode cX3_tokenOf 23 = .ok (.if_icmp .gt 5, 3) := by decide +kernel
theorem dX3_tokenOf_26 : decode cX3_tokenOf 26 = .ok (.iconst 2, 1) := by decide +kernel
theorem dX3_tokenOf_27 : decode cX3_tokenOf 27 = .ok (.ireturn, 1) := by decide +kernel
theorem dX3_tokenOf_28 : decode cX3_tokenOf 28 = .ok (.iload_n 0, 1) := by decide +kernel
theorem dX3_tokenOf_29 : decode cX3_tokenOf 29 = .ok (.bipush 59, 2) := by decide +kernel
theorem dX3_tokenOf_31 : decode cX3_tokenOf 31 = .ok (.if_icmp .ne 7, 3) := by decide +kernel
theorem dX3_tokenOf_34 : decode cX3_tokenOf 34 = .ok (.iconst 3, 1) := by decide +kernel
theorem dX3_tokenOf_35 : decode cX3_tokenOf 35 = .ok (.goto 4, 3) := by decide +kernel
theorem dX3_tokenOf_38 : decode cX3_tokenOf 38 = .ok (.iconst 4, 1) := by decide +kernel
theorem dX3_tokenOf_39 : decode cX3_tokenOf 39 = .ok (.ireturn, 1) := by decide +kernel
theorem dX3_isAtWord_0 : decode cX3_isAtWord 0 = .ok (.aload_n 0, 1) := by decide +kernel
theorem dX3_isAtWord_1 : decode cX3_isAtWord 1 = .ok (.getfield 22, 3) := by decide +kernel
theorem dX3_isAtWord_4 : decode cX3_isAtWord 4 = .ok (.iconst 1, 1) := by decide +kernel
theorem dX3_isAtWord_5 : decode cX3_isAtWord 5 = .ok (.if_icmp .ne 19, 3) := by decide +kernel
theorem dX3_isAtWord_8 : decode cX3_isAtWord 8 = .ok (.aload_n 0, 1) := by decide +kernel
theorem dX3_isAtWord_9 : decode cX3_isAtWord 9 = .ok (.getfield 28, 3) := by decide +kernel
theorem dX3_isAtWord_12 : decode cX3_isAtWord 12 = .ok (.aload_n 0, 1) := by decide +kernel
theorem dX3_isAtWord_13 : decode cX3_isAtWord 13 = .ok (.getfield 25, 3) := by decide +kernel
theorem dX3_isAtWord_16 : decode cX3_isAtWord 16 = .ok (.isub, 1) := by decide +kernel
theorem dX3_isAtWord_17 : decode cX3_isAtWord 17 = .ok (.aload_n 1, 1) := by decide +kernel
theorem dX3_isAtWord_18 : decode cX3_isAtWord 18 = .ok (.invokevirtual 44, 3) := by decide +kernel
theorem dX3_isAtWord_21 : decode cX3_isAtWord 21 = .ok (.if_icmp .eq 5, 3) := by decide +kernel
theorem dX3_isAtWord_24 : decode cX3_isAtWord 24 = .ok (.iconst 0, 1) := by decide +kernel
theorem dX3_isAtWord_25 : decode cX3_isAtWord 25 = .ok (.ireturn, 1) := by decide +kernel
theorem dX3_isAtWord_26 : decode cX3_isAtWord 26 = .ok (.iconst 0, 1) := by decide +kernel
theorem dX3_isAtWord_27 : decode cX3_isAtWord 27 = .ok (.istore_n 2, 1) := by decide +kernel
theorem dX3_isAtWord_28 : decode cX3_isAtWord 28 = .ok (.iload_n 2, 1) := by decide +kernel
theorem dX3_isAtWord_29 : decode cX3_isAtWord 29 = .ok (.aload_n 1, 1) := by decide +kernel
theorem dX3_isAtWord_30 : decode cX3_isAtWord 30 = .ok (.invokevirtual 44, 3) := by decide +kernel
theorem dX3_isAtWord_33 : decode cX3_isAtWord 33 = .ok (.if_icmp .ge 30, 3) := by decide +kernel
theorem dX3_isAtWord_36 : decode cX3_isAtWord 36 = .ok (.aload_n 0, 1) := by decide +kernel
theorem dX3_isAtWord_37 : decode cX3_isAtWord 37 = .ok (.getfield 9, 3) := by decide +kernel
theorem dX3_isAtWord_40 : decode cX3_isAtWord 40 = .ok (.aload_n 0, 1) := by decide +kernel
theorem dX3_isAtWord_41 : decode cX3_isAtWord 41 = .ok (.getfield 25, 3) := by decide +kernel
theorem dX3_isAtWord_44 : decode cX3_isAtWord 44 = .ok (.iload_n 2, 1) := by decide +kernel
theorem dX3_isAtWord_45 : decode cX3_isAtWord 45 = .ok (.iadd, 1) := by decide +kernel
theorem dX3_isAtWord_46 : decode cX3_isAtWord 46 = .ok (.iaload, 1) := by decide +kernel
theorem dX3_isAtWord_47 : decode cX3_isAtWord 47 = .ok (.aload_n 1, 1) := by decide +kernel
theorem dX3_isAtWord_48 : decode cX3_isAtWord 48 = .ok (.iload_n 2, 1) := by decide +kernel
theorem dX3_isAtWord_49 : decode cX3_isAtWord 49 = .ok (.invokevirtual 49, 3) := by decide +kernel
theorem dX3_isAtWord_52 : decode cX3_isAtWord 52 = .ok (.if_icmp .eq 5, 3) := by decide +kernel
theorem dX3_isAtWord_55 : decode cX3_isAtWord 55 = .ok (.iconst 0, 1) := by decide +kernel
theorem dX3_isAtWord_56 : decode cX3_isAtWord 56 = .ok (.ireturn, 1) := by decide +kernel
theorem dX3_isAtWord_57 : decode cX3_isAtWord 57 = .ok (.iinc 2 1, 3) := by decide +kernel
theorem dX3_isAtWord_60 : decode cX3_isAtWord 60 = .ok (.goto (-32), 3) := by decide +kernel
theorem dX3_isAtWord_63 : decode cX3_isAtWord 63 = .ok (.iconst 1, 1) := by decide +kernel
theorem dX3_isAtWord_64 : decode cX3_isAtWord 64 = .ok (.ireturn, 1) := by decide +kernel
theorem dX3_isAtNumber_0 : decode cX3_isAtNumber 0 = .ok (.aload_n 0, 1) := by decide +kernel
theorem dX3_isAtNumber_1 : decode cX3_isAtNumber 1 = .ok (.getfield 22, 3) := by decide +kernel
theorem dX3_isAtNumber_4 : decode cX3_isAtNumber 4 = .ok (.iconst 2, 1) := by decide +kernel
theorem dX3_isAtNumber_5 : decode cX3_isAtNumber 5 = .ok (.if_icmp .ne 19, 3) := by decide +kernel
theorem dX3_isAtNumber_8 : decode cX3_isAtNumber 8 = .ok (.aload_n 0, 1) := by decide +kernel
theorem dX3_isAtNumber_9 : decode cX3_isAtNumber 9 = .ok (.getfield 31, 3) := by decide +kernel
theorem dX3_isAtNumber_12 : decode cX3_isAtNumber 12 = .ok (.iload_n 1, 1) := by decide +kernel
theorem dX3_isAtNumber_13 : decode cX3_isAtNumber 13 = .ok (.iload_n 2, 1) := by decide +kernel
theorem dX3_isAtNumber_14 : decode cX3_isAtNumber 14 = .ok (.invokestatic 53, 3) := by decide +kernel
theorem dX3_isAtNumber_17 : decode cX3_isAtNumber 17 = .ok (.ifCond .eq 7, 3) := by decide +kernel
theorem dX3_isAtNumber_20 : decode cX3_isAtNumber 20 = .ok (.iconst 1, 1) := by decide +kernel
theorem dX3_isAtNumber_21 : decode cX3_isAtNumber 21 = .ok (.goto 4, 3) := by decide +kernel
theorem dX3_isAtNumber_24 : decode cX3_isAtNumber 24 = .ok (.iconst 0, 1) := by decide +kernel
theorem dX3_isAtNumber_25 : decode cX3_isAtNumber 25 = .ok (.ireturn, 1) := by decide +kernel
theorem dX4_init_0 : decode cX4_init 0 = .ok (.aload_n 0, 1) := by decide +kernel
theorem dX4_init_1 : decode cX4_init 1 = .ok (.invokespecial 1, 3) := by decide +kernel
theorem dX4_init_4 : decode cX4_init 4 = .ok (.aload_n 0, 1) := by decide +kernel
theorem dX4_init_5 : decode cX4_init 5 = .ok (.new 7, 3) := by decide +kernel
theorem dX4_init_8 : decode cX4_init 8 = .ok (.dup, 1) := by decide +kernel
theorem dX4_init_9 : decode cX4_init 9 = .ok (.invokespecial 9, 3) := by decide +kernel
theorem dX4_init_12 : decode cX4_init 12 = .ok (.putfield 10, 3) := by decide +kernel
theorem dX4_init_15 : decode cX4_init 15 = .ok (.aload_n 0, 1) := by decide +kernel
theorem dX4_init_16 : decode cX4_init 16 = .ok (.new 7, 3) := by decide +kernel
theorem dX4_init_19 : decode cX4_init 19 = .ok (.dup, 1) := by decide +kernel
theorem dX4_init_20 : decode cX4_init 20 = .ok (.invokespecial 9, 3) := by decide +kernel
theorem dX4_init_23 : decode cX4_init 23 = .ok (.putfield 16, 3) := by decide +kernel
theorem dX4_init_26 : decode cX4_init 26 = .ok (.aload_n 0, 1) := by decide +kernel
theorem dX4_init_27 : decode cX4_init 27 = .ok (.new 7, 3) := by decide +kernel
theorem dX4_init_30 : decode cX4_init 30 = .ok (.dup, 1) := by decide +kernel
theorem dX4_init_31 : decode cX4_init 31 = .ok (.invokespecial 9, 3) := by decide +kernel
theorem dX4_init_34 : decode cX4_init 34 = .ok (.putfield 19, 3) := by decide +kernel
theorem dX4_init_37 : decode cX4_init 37 = .ok (.aload_n 0, 1) := by decide +kernel
theorem dX4_init_38 : decode cX4_init 38 = .ok (.iconst 0, 1) := by decide +kernel
theorem dX4_init_39 : decode cX4_init 39 = .ok (.putfield 22, 3) := by decide +kernel
theorem dX4_init_42 : decode cX4_init 42 = .ok (.aload_n 0, 1) := by decide +kernel
theorem dX4_init_43 : decode cX4_init 43 = .ok (.new 26, 3) := by decide +kernel
theorem dX4_init_46 : decode cX4_init 46 = .ok (.dup, 1) := by decide +kernel
theorem dX4_init_47 : decode cX4_init 47 = .ok (.invokespecial 28, 3) := by decide +kernel
theorem dX4_init_50 : decode cX4_init 50 = .ok (.putfield 29, 3) := by decide +kernel
theorem dX4_init_53 : decode cX4_init 53 = .ok (.aload_n 0, 1) := by decide +kernel
theorem dX4_init_54 : decode cX4_init 54 = .ok (.new 33, 3) := by decide +kernel
theorem dX4_init_57 : decode cX4_init 57 = .ok (.dup, 1) := by decide +kernel
theorem dX4_init_58 : decode cX4_init 58 = .ok (.aload_n 0, 1) := by decide +kernel
theorem dX4_init_59 : decode cX4_init 59 = .ok (.getfield 29, 3) := by decide +kernel
theorem dX4_init_62 : decode cX4_init 62 = .ok (.aload_n 0, 1) := by decide +kernel
theorem dX4_init_63 : decode cX4_init 63 = .ok (.getfield 16, 3) := by decide +kernel
theorem dX4_init_66 : decode cX4_init 66 = .ok (.invokespecial 35, 3) := by decide +kernel
theorem dX4_init_69 : decode cX4_init 69 = .ok (.putfield 38, 3) := by decide +kernel
theorem dX4_init_72 : decode cX4_init 72 = .ok (.aload_n 0, 1) := by decide +kernel
theorem dX4_init_73 : decode cX4_init 73 = .ok (.iconst 4, 1) := by decide +kernel
theorem dX4_init_74 : decode cX4_init 74 = .ok (.anewarray 42, 3) := by decide +kernel
theorem dX4_init_77 : decode cX4_init 77 = .ok (.putfield 44, 3) := by decide +kernel
theorem dX4_init_80 : decode cX4_init 80 = .ok (.iconst 0, 1) := by decide +kernel
theorem dX4_init_81 : decode cX4_init 81 = .ok (.istore_n 1, 1) := by decide +kernel
theorem dX4_init_82 : decode cX4_init 82 = .ok (.iload_n 1, 1) := by decide +kernel
theorem dX4_init_83 : decode cX4_init 83 = .ok (.iconst 4, 1) := by decide +kernel
theorem dX4_init_84 : decode cX4_init 84 = .ok (.if_icmp .ge 22, 3) := by decide +kernel
theorem dX4_init_87 : decode cX4_init 87 = .ok (.aload_n 0, 1) := by decide +kernel
theorem dX4_init_88 : decode cX4_init 88 = .ok (.getfield 44, 3) := by decide +kernel
theorem dX4_init_91 : decode cX4_init 91 = .ok (.iload_n 1, 1) := by decide +kernel
theorem dX4_init_92 : decode cX4_init 92 = .ok (.new 42, 3) := by decide +kernel
theorem dX4_init_95 : decode cX4_init 95 = .ok (.dup, 1) := by decide +kernel
theorem dX4_init_96 : decode cX4_init 96 = .ok (.invokespecial 48, 3) := by decide +kernel
theorem dX4_init_99 : decode cX4_init 99 = .ok (.aastore, 1) := by decide +kernel
theorem dX4_init_100 : decode cX4_init 100 = .ok (.iinc 1 1, 3) := by decide +kernel
theorem dX4_init_103 : decode cX4_init 103 = .ok (.goto (-21), 3) := by decide +kernel
theorem dX4_init_106 : decode cX4_init 106 = .ok (.aload_n 0, 1) := by decide +kernel
theorem dX4_init_107 : decode cX4_init 107 = .ok (.bipush 7, 2) := by decide +kernel
theorem dX4_init_109 : decode cX4_init 109 = .ok (.newarray .int, 2) := by decide +kernel
theorem dX4_init_111 : decode cX4_init 111 = .ok (.putfield 49, 3) := by decide +kernel
theorem dX4_init_114 : decode cX4_init 114 = .ok (.return_, 1) := by decide +kernel
theorem dX4_heat_0 : decode cX4_heat 0 = .ok (.iload_n 1, 1) := by decide +kernel
theorem dX4_heat_1 : decode cX4_heat 1 = .ok (.bipush 20, 2) := by decide +kernel
theorem dX4_heat_3 : decode cX4_heat 3 = .ok (.bipush 90, 2) := by decide +kernel
theorem dX4_heat_5 : decode cX4_heat 5 = .ok (.invokestatic 53, 3) := by decide +kernel
theorem dX4_heat_8 : decode cX4_heat 8 = .ok (.ifCond .ne 9, 3) := by decide +kernel
theorem dX4_heat_11 : decode cX4_heat 11 = .ok (.aload_n 0, 1) := by decide +kernel
theorem dX4_heat_12 : decode cX4_heat 12 = .ok (.iconst 0, 1) := by decide +kernel
theorem dX4_heat_13 : decode cX4_heat 13 = .ok (.invokevirtual 57, 3) := by decide +kernel
theorem dX4_heat_16 : decode cX4_heat 16 = .ok (.ireturn, 1) := by decide +kernel
theorem dX4_heat_17 : decode cX4_heat 17 = .ok (.aload_n 0, 1) := by decide +kernel
theorem dX4_heat_18 : decode cX4_heat 18 = .ok (.getfield 10, 3) := by decide +kernel
theorem dX4_heat_21 : decode cX4_heat 21 = .ok (.getfield 61, 3) := by decide +kernel
theorem dX4_heat_24 : decode cX4_heat 24 = .ok (.istore_n 2, 1) := by decide +kernel
theorem dX4_heat_25 : decode cX4_heat 25 = .ok (.aload_n 0, 1) := by decide +kernel
theorem dX4_heat_26 : decode cX4_heat 26 = .ok (.getfield 10, 3) := by decide +kernel
theorem dX4_heat_29 : decode cX4_heat 29 = .ok (.iload_n 1, 1) := by decide +kernel
theorem dX4_heat_30 : decode cX4_heat 30 = .ok (.putfield 61, 3) := by decide +kernel
theorem dX4_heat_33 : decode cX4_heat 33 = .ok (.iload_n 2, 1) := by decide +kernel
theorem dX4_heat_34 : decode cX4_heat 34 = .ok (.ireturn, 1) := by decide +kernel
theorem dX4_now_0 : decode cX4_now 0 = .ok (.iload_n 1, 1) := by decide +kernel
theorem dX4_now_1 : decode cX4_now 1 = .ok (.tableswitch 92 0 5 #[39, 47, 55, 64, 72, 80], 39) := by decide +kernel
theorem dX4_now_40 : decode cX4_now 40 = .ok (.aload_n 0, 1) := by decide +kernel
theorem dX4_now_41 : decode cX4_now 41 = .ok (.getfield 10, 3) := by decide +kernel
theorem dX4_now_44 : decode cX4_now 44 = .ok (.getfield 65, 3) := by decide +kernel
theorem dX4_now_47 : decode cX4_now 47 = .ok (.ireturn, 1) := by decide +kernel
theorem dX4_now_48 : decode cX4_now 48 = .ok (.aload_n 0, 1) := by decide +kernel
theorem dX4_now_49 : decode cX4_now 49 = .ok (.getfield 10, 3) := by decide +kernel
theorem dX4_now_52 : decode cX4_now 52 = .ok (.getfield 61, 3) := by decide +kernel
theorem dX4_now_55 : decode cX4_now 55 = .ok (.ireturn, 1) := by decide +kernel
theorem dX4_now_56 : decode cX4_now 56 = .ok (.aload_n 0, 1) := by decide +kernel
theorem dX4_now_57 : decode cX4_now 57 = .ok (.getfield 10, 3) := by decide +kernel
theorem dX4_now_60 : decode cX4_now 60 = .ok (.iconst (-1), 1) := by decide +kernel
theorem dX4_now_61 : decode cX4_now 61 = .ok (.invokevirtual 68, 3) := by decide +kernel
theorem dX4_now_64 : decode cX4_now 64 = .ok (.ireturn, 1) := by decide +kernel
theorem dX4_now_65 : decode cX4_now 65 = .ok (.aload_n 0, 1) := by decide +kernel
theorem dX4_now_66 : decode cX4_now 66 = .ok (.getfield 10, 3) := by decide +kernel
theorem dX4_now_69 : decode cX4_now 69 = .ok (.invokevirtual 71, 3) := by decide +kernel
theorem dX4_now_72 : decode cX4_now 72 = .ok (.ireturn, 1) := by decide +kernel
theorem dX4_now_73 : decode cX4_now 73 = .ok (.aload_n 0, 1) := by decide +kernel
theorem dX4_now_74 : decode cX4_now 74 = .ok (.getfield 10, 3) := by decide +kernel
theorem dX4_now_77 : decode cX4_now 77 = .ok (.invokevirtual 75, 3) := by decide +kernel
theorem dX4_now_80 : decode cX4_now 80 = .ok (.ireturn, 1) := by decide +kernel
theorem dX4_now_81 : decode cX4_now 81 = .ok (.sipush 10000, 3) := by decide +kernel
theorem dX4_now_84 : decode cX4_now 84 = .ok (.aload_n 0, 1) := by decide +kernel
theorem dX4_now_85 : decode cX4_now 85 = .ok (.getfield 10, 3) := by decide +kernel
theorem dX4_now_88 : decode cX4_now 88 = .ok (.invokevirtual 78, 3) := by decide +kernel
theorem dX4_now_91 : decode cX4_now 91 = .ok (.iadd, 1) := by decide +kernel
theorem dX4_now_92 : decode cX4_now 92 = .ok (.ireturn, 1) := by decide +kernel
theorem dX4_now_93 : decode cX4_now 93 = .ok (.aload_n 0, 1) := by decide +kernel
theorem dX4_now_94 : decode cX4_now 94 = .ok (.iconst 0, 1) := by decide +kernel
theorem dX4_now_95 : decode cX4_now 95 = .ok (.invokevirtual 57, 3) := by decide +kernel
theorem dX4_now_98 : decode cX4_now 98 = .ok (.ireturn, 1) := by decide +kernel
theorem dX4_person_0 : decode cX4_person 0 = .ok (.iload_n 1, 1) := by decide +kernel
theorem dX4_person_1 : decode cX4_person 1 = .ok (.invokestatic 81, 3) := by decide +kernel
theorem dX4_person_4 : decode cX4_person 4 = .ok (.ifCond .ne 9, 3) := by decide +kernel
theorem dX4_person_7 : decode cX4_person 7 = .ok (.aload_n 0, 1) := by decide +kernel
theorem dX4_person_8 : decode cX4_person 8 = .ok (.iconst 0, 1) := by decide +kernel
theorem dX4_person_9 : decode cX4_person 9 = .ok (.invokevirtual 57, 3) := by decide +kernel
theorem dX4_person_12 : decode cX4_person 12 = .ok (.ireturn, 1) := by decide +kernel
theorem dX4_person_13 : decode cX4_person 13 = .ok (.aload_n 0, 1) := by decide +kernel
theorem dX4_person_14 : decode cX4_person 14 = .ok (.getfield 10, 3) := by decide +kernel
theorem dX4_person_17 : decode cX4_person 17 = .ok (.getfield 85, 3) := by decide +kernel
theorem dX4_person_20 : decode cX4_person 20 = .ok (.bipush 6, 2) := by decide +kernel
theorem dX4_person_22 : decode cX4_person 22 = .ok (.if_icmp .lt 9, 3) := by decide +kernel
theorem dX4_person_25 : decode cX4_person 25 = .ok (.aload_n 0, 1) := by decide +kernel
theorem dX4_person_26 : decode cX4_person 26 = .ok (.iconst 1, 1) := by decide +kernel
theorem dX4_person_27 : decode cX4_person 27 = .ok (.invokevirtual 57, 3) := by decide +kernel
theorem dX4_person_30 : decode cX4_person 30 = .ok (.ireturn, 1) := by decide +kernel
theorem dX4_person_31 : decode cX4_person 31 = .ok (.aload_n 0, 1) := by decide +kernel
theorem dX4_person_32 : decode cX4_person 32 = .ok (.getfield 10, 3) := by decide +kernel
theorem dX4_person_35 : decode cX4_person 35 = .ok (.iload_n 1, 1) := by decide +kernel
theorem dX4_person_36 : decode cX4_person 36 = .ok (.invokevirtual 88, 3) := by decide +kernel
theorem dX4_person_39 : decode cX4_person 39 = .ok (.ireturn, 1) := by decide +kernel
theorem dX4_of_0 : decode cX4_of 0 = .ok (.aload_n 0, 1) := by decide +kernel
theorem dX4_of_1 : decode cX4_of 1 = .ok (.getfield 10, 3) := by decide +kernel
theorem dX4_of_4 : decode cX4_of 4 = .ok (.iload_n 1, 1) := by decide +kernel
theorem dX4_of_5 : decode cX4_of 5 = .ok (.invokevirtual 91, 3) := by decide +kernel
theorem dX4_of_8 : decode cX4_of 8 = .ok (.ifCond .ne 9, 3) := by decide +kernel
theorem dX4_of_11 : decode cX4_of 11 = .ok (.aload_n 0, 1) := by decide +kernel
theorem dX4_of_12 : decode cX4_of 12 = .ok (.iconst 0, 1) := by decide +kernel
theorem dX4_of_13 : decode cX4_of 13 = .ok (.invokevirtual 57, 3) := by decide +kernel
theorem dX4_of_16 : decode cX4_of 16 = .ok (.ireturn, 1) := by decide +kernel
theorem dX4_of_17 : decode cX4_of 17 = .ok (.iload_n 2, 1) := by decide +kernel
theorem dX4_of_18 : decode cX4_of 18 = .ok (.tableswitch 111 0 5 #[38, 48, 58, 72, 82, 91], 38) := by decide +kernel
theorem dX4_of_56 : decode cX4_of 56 = .ok (.aload_n 0, 1) := by decide +kernel
theorem dX4_of_57 : decode cX4_of 57 = .ok (.getfield 10, 3) := by decide +kernel
theorem dX4_of_60 : decode cX4_of 60 = .ok (.getfield 94, 3) := by decide +kernel
theorem dX4_of_63 : decode cX4_of 63 = .ok (.iload_n 1, 1) := by decide +kernel
theorem dX4_of_64 : decode cX4_of 64 = .ok (.iaload, 1) := by decide +kernel
theorem dX4_of_65 : decode cX4_of 65 = .ok (.ireturn, 1) := by decide +kernel
theorem dX4_of_66 : decode cX4_of 66 = .ok (.aload_n 0, 1) := by decide +kernel
theorem dX4_of_67 : decode cX4_of 67 = .ok (.getfield 10, 3) := by decide +kernel
theorem dX4_of_70 : decode cX4_of 70 = .ok (.getfield 97, 3) := by decide +kernel
theorem dX4_of_73 : decode cX4_of 73 = .ok (.iload_n 1, 1) := by decide +kernel
theorem dX4_of_74 : decode cX4_of 74 = .ok (.iaload, 1) := by decide +kernel
theorem dX4_of_75 : decode cX4_of 75 = .ok (.ireturn, 1) := by decide +kernel
theorem dX4_of_76 : decode cX4_of 76 = .ok (.sipush 1000, 3) := by decide +kernel
theorem dX4_of_79 : decode cX4_of 79 = .ok (.aload_n 0, 1) := by decide +kernel
theorem dX4_of_80 : decode cX4_of 80 = .ok (.getfield 10, 3) := by decide +kernel
theorem dX4_of_83 : decode cX4_of 83 = .ok (.getfield 100, 3) := by decide +kernel
theorem dX4_of_86 : decode cX4_of 86 = .ok (.iload_n 1, 1) := by decide +kernel
theorem dX4_of_87 : decode cX4_of 87 = .ok (.iaload, 1) := by decide +kernel
theorem dX4_of_88 : decode cX4_of 88 = .ok (.iadd, 1) := by decide +kernel
theorem dX4_of_89 : decode cX4_of 89 = .ok (.ireturn, 1) := by decide +kernel
theorem dX4_of_90 : decode cX4_of 90 = .ok (.aload_n 0, 1) := by decide +kernel
theorem dX4_of_91 : decode cX4_of 91 = .ok (.getfield 10, 3) := by decide +kernel
theorem dX4_of_94 : decode cX4_of 94 = .ok (.getfield 103, 3) := by decide +kernel
theorem dX4_of_97 : decode cX4_of 97 = .ok (.iload_n 1, 1) := by decide +kernel
theorem dX4_of_98 : decode cX4_of 98 = .ok (.iaload, 1) := by decide +kernel
theorem dX4_of_99 : decode cX4_of 99 = .ok (.ireturn, 1) := by decide +kernel
theorem dX4_of_100 : decode cX4_of 100 = .ok (.aload_n 0, 1) := by decide +kernel
theorem dX4_of_101 : decode cX4_of 101 = .ok (.getfield 10, 3) := by decide +kernel
theorem dX4_of_104 : decode cX4_of 104 = .ok (.iload_n 1, 1) := by decide +kernel
theorem dX4_of_105 : decode cX4_of 105 = .ok (.invokevirtual 68, 3) := by decide +kernel
theorem dX4_of_108 : decode cX4_of 108 = .ok (.ireturn, 1) := by decide +kernel
theorem dX4_of_109 : decode cX4_of 109 = .ok (.aload_n 0, 1) := by decide +kernel
theorem dX4_of_110 : decode cX4_of 110 = .ok (.getfield 10, 3) := by decide +kernel
theorem dX4_of_113 : decode cX4_of 113 = .ok (.invokevirtual 106, 3) := by decide +kernel
theorem dX4_of_116 : decode cX4_of 116 = .ok (.sipush 1000, 3) := by decide +kernel
theorem dX4_of_119 : decode cX4_of 119 = .ok (.aload_n 0, 1) := by decide +kernel
theorem dX4_of_120 : decode cX4_of 120 = .ok (.getfield 10, 3) := by decide +kernel
theorem dX4_of_123 : decode cX4_of 123 = .ok (.iload_n 1, 1) := by decide +kernel
theorem dX4_of_124 : decode cX4_of 124 = .ok (.invokevirtual 109, 3) := by decide +kernel
theorem dX4_of_127 : decode cX4_of 127 = .ok (.iadd, 1) := by decide +kernel
theorem dX4_of_128 : decode cX4_of 128 = .ok (.ireturn, 1) := by decide +kernel
theorem dX4_of_129 : decode cX4_of 129 = .ok (.aload_n 0, 1) := by decide +kernel
theorem dX4_of_130 : decode cX4_of 130 = .ok (.iconst 0, 1) := by decide +kernel
theorem dX4_of_131 : decode cX4_of 131 = .ok (.invokevirtual 57, 3) := by decide +kernel
theorem dX4_of_134 : decode cX4_of 134 = .ok (.ireturn, 1) := by decide +kernel
theorem dX4_set_0 : decode cX4_set 0 = .ok (.aload_n 0, 1) := by decide +kernel
theorem dX4_set_1 : decode cX4_set 1 = .ok (.getfield 10, 3) := by decide +kernel
theorem dX4_set_4 : decode cX4_set 4 = .ok (.iload_n 1, 1) := by decide +kernel
theorem dX4_set_5 : decode cX4_set 5 = .ok (.invokevirtual 91, 3) := by decide +kernel
theorem dX4_set_8 : decode cX4_set 8 = .ok (.ifCond .ne 9, 3) := by decide +kernel
theorem dX4_set_11 : decode cX4_set 11 = .ok (.aload_n 0, 1) := by decide +kernel
theorem dX4_set_12 : decode cX4_set 12 = .ok (.iconst 0, 1) := by decide +kernel
theorem dX4_set_13 : decode cX4_set 13 = .ok (.invokevirtual 57, 3) := by decide +kernel
theorem dX4_set_16 : decode cX4_set 16 = .ok (.ireturn, 1) := by decide +kernel
theorem dX4_set_17 : decode cX4_set 17 = .ok (.iload_n 2, 1) := by decide +kernel
theorem dX4_set_18 : decode cX4_set 18 = .ok (.tableswitch 78 1 3 #[26, 42, 62], 26) := by decide +kernel
theorem dX4_set_44 : decode cX4_set 44 = .ok (.aload_n 0, 1) := by decide +kernel
theorem dX4_set_45 : decode cX4_set 45 = .ok (.aload_n 0, 1) := by decide +kernel
theorem dX4_set_46 : decode cX4_set 46 = .ok (.getfield 10, 3) := by decide +kernel
theorem dX4_set_49 : decode cX4_set 49 = .ok (.getfield 97, 3) := by decide +kernel
theorem dX4_set_52 : decode cX4_set 52 = .ok (.iload_n 1, 1) := by decide +kernel
theorem dX4_set_53 : decode cX4_set 53 = .ok (.iload_n 3, 1) := by decide +kernel
theorem dX4_set_54 : decode cX4_set 54 = .ok (.iconst 0, 1) := by decide +kernel
theorem dX4_set_55 : decode cX4_set 55 = .ok (.iconst 2, 1) := by decide +kernel
theorem dX4_set_56 : decode cX4_set 56 = .ok (.invokevirtual 112, 3) := by decide +kernel
theorem dX4_set_59 : decode cX4_set 59 = .ok (.ireturn, 1) := by decide +kernel
theorem dX4_set_60 : decode cX4_set 60 = .ok (.aload_n 0, 1) := by decide +kernel
theorem dX4_set_61 : decode cX4_set 61 = .ok (.aload_n 0, 1) := by decide +kernel
theorem dX4_set_62 : decode cX4_set 62 = .ok (.getfield 10, 3) := by decide +kernel
theorem dX4_set_65 : decode cX4_set 65 = .ok (.getfield 100, 3) := by decide +kernel
theorem dX4_set_68 : decode cX4_set 68 = .ok (.iload_n 1, 1) := by decide +kernel
theorem dX4_set_69 : decode cX4_set 69 = .ok (.iload_n 3, 1) := by decide +kernel
theorem dX4_set_70 : decode cX4_set 70 = .ok (.sipush (-999), 3) := by decide +kernel
theorem dX4_set_73 : decode cX4_set 73 = .ok (.sipush 999, 3) := by decide +kernel
theorem dX4_set_76 : decode cX4_set 76 = .ok (.invokevirtual 112, 3) := by decide +kernel
theorem dX4_set_79 : decode cX4_set 79 = .ok (.ireturn, 1) := by decide +kernel
theorem dX4_set_80 : decode cX4_set 80 = .ok (.aload_n 0, 1) := by decide +kernel
theorem dX4_set_81 : decode cX4_set 81 = .ok (.aload_n 0, 1) := by decide +kernel
theorem dX4_set_82 : decode cX4_set 82 = .ok (.getfield 10, 3) := by decide +kernel
theorem dX4_set_85 : decode cX4_set 85 = .ok (.getfield 103, 3) := by decide +kernel
theorem dX4_set_88 : decode cX4_set 88 = .ok (.iload_n 1, 1) := by decide +kernel
theorem dX4_set_89 : decode cX4_set 89 = .ok (.iload_n 3, 1) := by decide +kernel
theorem dX4_set_90 : decode cX4_set 90 = .ok (.iconst 0, 1) := by decide +kernel
theorem dX4_set_91 : decode cX4_set 91 = .ok (.iconst 1, 1) := by decide +kernel
theorem dX4_set_92 : decode cX4_set 92 = .ok (.invokevirtual 112, 3) := by decide +kernel
theorem dX4_set_95 : decode cX4_set 95 = .ok (.ireturn, 1) := by decide +kernel
theorem dX4_set_96 : decode cX4_set 96 = .ok (.aload_n 0, 1) := by decide +kernel
theorem dX4_set_97 : decode cX4_set 97 = .ok (.iconst 0, 1) := by decide +kernel
theorem dX4_set_98 : decode cX4_set 98 = .ok (.invokevirtual 57, 3) := by decide +kernel
theorem dX4_set_101 : decode cX4_set 101 = .ok (.ireturn, 1) := by decide +kernel
theorem dX4_would_0 : decode cX4_would 0 = .ok (.aload_n 0, 1) := by decide +kernel
theorem dX4_would_1 : decode cX4_would 1 = .ok (.getfield 10, 3) := by decide +kernel
theorem dX4_would_4 : decode cX4_would 4 = .ok (.iload_n 1, 1) := by decide +kernel
theorem dX4_would_5 : decode cX4_would 5 = .ok (.invokevirtual 91, 3) := by decide +kernel
theorem dX4_would_8 : decode cX4_would 8 = .ok (.ifCond .eq 23, 3) := by decide +kernel
theorem dX4_would_11 : decode cX4_would 11 = .ok (.aload_n 0, 1) := by decide +kernel
theorem dX4_would_12 : decode cX4_would 12 = .ok (.getfield 10, 3) := by decide +kernel
theorem dX4_would_15 : decode cX4_would 15 = .ok (.iload_n 2, 1) := by decide +kernel
theorem dX4_would_16 : decode cX4_would 16 = .ok (.invokevirtual 116, 3) := by decide +kernel
theorem dX4_would_19 : decode cX4_would 19 = .ok (.ifCond .eq 12, 3) := by decide +kernel
theorem dX4_would_22 : decode cX4_would 22 = .ok (.iload_n 3, 1) := by decide +kernel
theorem dX4_would_23 : decode cX4_would 23 = .ok (.iconst 0, 1) := by decide +kernel
theorem dX4_would_24 : decode cX4_would 24 = .ok (.iconst 1, 1) := by decide +kernel
theorem dX4_would_25 : decode cX4_would 25 = .ok (.invokestatic 53, 3) := by decide +kernel
theorem dX4_would_28 : decode cX4_would 28 = .ok (.ifCond .ne 9, 3) := by decide +kernel
theorem dX4_would_31 : decode cX4_would 31 = .ok (.aload_n 0, 1) := by decide +kernel
theorem dX4_would_32 : decode cX4_would 32 = .ok (.iconst 0, 1) := by decide +kernel
theorem dX4_would_33 : decode cX4_would 33 = .ok (.invokevirtual 57, 3) := by decide +kernel
theorem dX4_would_36 : decode cX4_would 36 = .ok (.ireturn, 1) := by decide +kernel
theorem dX4_would_37 : decode cX4_would 37 = .ok (.aload_n 0, 1) := by decide +kernel
theorem dX4_would_38 : decode cX4_would 38 = .ok (.getfield 10, 3) := by decide +kernel
theorem dX4_would_41 : decode cX4_would 41 = .ok (.invokevirtual 106, 3) := by decide +kernel
theorem dX4_would_44 : decode cX4_would 44 = .ok (.iload_n 3, 1) := by decide +kernel
theorem dX4_would_45 : decode cX4_would 45 = .ok (.ifCond .ne 15, 3) := by decide +kernel
theorem dX4_would_48 : decode cX4_would 48 = .ok (.aload_n 0, 1) := by decide +kernel
theorem dX4_would_49 : decode cX4_would 49 = .ok (.getfield 10, 3) := by decide +kernel
theorem dX4_would_52 : decode cX4_would 52 = .ok (.iload_n 1, 1) := by decide +kernel
theorem dX4_would_53 : decode cX4_would 53 = .ok (.iload_n 2, 1) := by decide +kernel
theorem dX4_would_54 : decode cX4_would 54 = .ok (.invokevirtual 119, 3) := by decide +kernel
theorem dX4_would_57 : decode cX4_would 57 = .ok (.goto 12, 3) := by decide +kernel
theorem dX4_would_60 : decode cX4_would 60 = .ok (.aload_n 0, 1) := by decide +kernel
theorem dX4_would_61 : decode cX4_would 61 = .ok (.getfield 10, 3) := by decide +kernel
theorem dX4_would_64 : decode cX4_would 64 = .ok (.iload_n 1, 1) := by decide +kernel
theorem dX4_would_65 : decode cX4_would 65 = .ok (.iload_n 2, 1) := by decide +kernel
theorem dX4_would_66 : decode cX4_would 66 = .ok (.invokevirtual 123, 3) := by decide +kernel
theorem dX4_would_69 : decode cX4_would 69 = .ok (.istore 4, 2) := by decide +kernel
theorem dX4_would_71 : decode cX4_would 71 = .ok (.iload 4, 2) := by decide +kernel
theorem dX4_would_73 : decode cX4_would 73 = .ok (.ifCond .eq 7, 3) := by decide +kernel
theorem dX4_would_76 : decode cX4_would 76 = .ok (.iconst 1, 1) := by decide +kernel
theorem dX4_would_77 : decode cX4_would 77 = .ok (.goto 4, 3) := by decide +kernel
theorem dX4_would_80 : decode cX4_would 80 = .ok (.iconst 0, 1) := by decide +kernel
theorem dX4_would_81 : decode cX4_would 81 = .ok (.ireturn, 1) := by decide +kernel
theorem dX4_turn_0 : decode cX4_turn 0 = .ok (.aload_n 0, 1) := by decide +kernel
theorem dX4_turn_1 : decode cX4_turn 1 = .ok (.getfield 10, 3) := by decide +kernel
theorem dX4_turn_4 : decode cX4_turn 4 = .ok (.iload_n 1, 1) := by decide +kernel
theorem dX4_turn_5 : decode cX4_turn 5 = .ok (.invokevirtual 91, 3) := by decide +kernel
theorem dX4_turn_8 : decode cX4_turn 8 = .ok (.ifCond .ne 9, 3) := by decide +kernel
theorem dX4_turn_11 : decode cX4_turn 11 = .ok (.aload_n 0, 1) := by decide +kernel
theorem dX4_turn_12 : decode cX4_turn 12 = .ok (.iconst 0, 1) := by decide +kernel
theorem dX4_turn_13 : decode cX4_turn 13 = .ok (.invokevirtual 57, 3) := by decide +kernel
theorem dX4_turn_16 : decode cX4_turn 16 = .ok (.ireturn, 1) := by decide +kernel
theorem dX4_turn_17 : decode cX4_turn 17 = .ok (.aload_n 0, 1) := by decide +kernel
theorem dX4_turn_18 : decode cX4_turn 18 = .ok (.aload_n 0, 1) := by decide +kernel
theorem dX4_turn_19 : decode cX4_turn 19 = .ok (.getfield 10, 3) := by decide +kernel
theorem dX4_turn_22 : decode cX4_turn 22 = .ok (.getfield 94, 3) := by decide +kernel
theorem dX4_turn_25 : decode cX4_turn 25 = .ok (.iload_n 1, 1) := by decide +kernel
theorem dX4_turn_26 : decode cX4_turn 26 = .ok (.iload_n 2, 1) := by decide +kernel
theorem dX4_turn_27 : decode cX4_turn 27 = .ok (.iconst 0, 1) := by decide +kernel
theorem dX4_turn_28 : decode cX4_turn 28 = .ok (.iconst 5, 1) := by decide +kernel
theorem dX4_turn_29 : decode cX4_turn 29 = .ok (.invokevirtual 112, 3) := by decide +kernel
theorem dX4_turn_32 : decode cX4_turn 32 = .ok (.ireturn, 1) := by decide +kernel
theorem dX4_as_0 : decode cX4_as 0 = .ok (.aload_n 0, 1) := by decide +kernel
theorem dX4_as_1 : decode cX4_as 1 = .ok (.getfield 10, 3) := by decide +kernel
theorem dX4_as_4 : decode cX4_as 4 = .ok (.iload_n 1, 1) := by decide +kernel
theorem dX4_as_5 : decode cX4_as 5 = .ok (.invokevirtual 91, 3) := by decide +kernel
theorem dX4_as_8 : decode cX4_as 8 = .ok (.ifCond .eq 10, 3) := by decide +kernel
theorem dX4_as_11 : decode cX4_as 11 = .ok (.iload_n 2, 1) := by decide +kernel
theorem dX4_as_12 : decode cX4_as 12 = .ok (.invokestatic 81, 3) := by decide +kernel
theorem dX4_as_15 : decode cX4_as 15 = .ok (.ifCond .ne 9, 3) := by decide +kernel
theorem dX4_as_18 : decode cX4_as 18 = .ok (.aload_n 0, 1) := by decide +kernel
theorem dX4_as_19 : decode cX4_as 19 = .ok (.iconst 0, 1) := by decide +kernel
theorem dX4_as_20 : decode cX4_as 20 = .ok (.invokevirtual 57, 3) := by decide +kernel
theorem dX4_as_23 : decode cX4_as 23 = .ok (.ireturn, 1) := by decide +kernel
theorem dX4_as_24 : decode cX4_as 24 = .ok (.aload_n 0, 1) := by decide +kernel
theorem dX4_as_25 : decode cX4_as 25 = .ok (.getfield 10, 3) := by decide +kernel
theorem dX4_as_28 : decode cX4_as 28 = .ok (.getfield 94, 3) := by decide +kernel
theorem dX4_as_31 : decode cX4_as 31 = .ok (.iload_n 1, 1) := by decide +kernel
theorem dX4_as_32 : decode cX4_as 32 = .ok (.iaload, 1) := by decide +kernel
theorem dX4_as_33 : decode cX4_as 33 = .ok (.iload_n 2, 1) := by decide +kernel
theorem dX4_as_34 : decode cX4_as 34 = .ok (.invokestatic 126, 3) := by decide +kernel
theorem dX4_as_37 : decode cX4_as 37 = .ok (.ifCond .ne 9, 3) := by decide +kernel
theorem dX4_as_40 : decode cX4_as 40 = .ok (.aload_n 0, 1) := by decide +kernel
theorem dX4_as_41 : decode cX4_as 41 = .ok (.iconst 2, 1) := by decide +kernel
theorem dX4_as_42 : decode cX4_as 42 = .ok (.invokevirtual 57, 3) := by decide +kernel
theorem dX4_as_45 : decode cX4_as 45 = .ok (.ireturn, 1) := by decide +kernel
theorem dX4_as_46 : decode cX4_as 46 = .ok (.sipush 1000, 3) := by decide +kernel
theorem dX4_as_49 : decode cX4_as 49 = .ok (.aload_n 0, 1) := by decide +kernel
theorem dX4_as_50 : decode cX4_as 50 = .ok (.getfield 10, 3) := by decide +kernel
theorem dX4_as_53 : decode cX4_as 53 = .ok (.getfield 100, 3) := by decide +kernel
theorem dX4_as_56 : decode cX4_as 56 = .ok (.iload_n 1, 1) := by decide +kernel
theorem dX4_as_57 : decode cX4_as 57 = .ok (.iaload, 1) := by decide +kernel
theorem dX4_as_58 : decode cX4_as 58 = .ok (.iadd, 1) := by decide +kernel
theorem dX4_as_59 : decode cX4_as 59 = .ok (.ireturn, 1) := by decide +kernel
theorem dX4_garment_0 : decode cX4_garment 0 = .ok (.aload_n 0, 1) := by decide +kernel
theorem dX4_garment_1 : decode cX4_garment 1 = .ok (.getfield 10, 3) := by decide +kernel
theorem dX4_garment_4 : decode cX4_garment 4 = .ok (.iload_n 1, 1) := by decide +kernel
theorem dX4_garment_5 : decode cX4_garment 5 = .ok (.invokevirtual 91, 3) := by decide +kernel
theorem dX4_garment_8 : decode cX4_garment 8 = .ok (.ifCond .eq 12, 3) := by decide +kernel
theorem dX4_garment_11 : decode cX4_garment 11 = .ok (.iload_n 2, 1) := by decide +kernel
theorem dX4_garment_12 : decode cX4_garment 12 = .ok (.iconst 0, 1) := by decide +kernel
theorem dX4_garment_13 : decode cX4_garment 13 = .ok (.iconst 2, 1) := by decide +kernel
theorem dX4_garment_14 : decode cX4_garment 14 = .ok (.invokestatic 53, 3) := by decide +kernel
theorem dX4_garment_17 : decode cX4_garment 17 = .ok (.ifCond .ne 9, 3) := by decide +kernel
theorem dX4_garment_20 : decode cX4_garment 20 = .ok (.aload_n 0, 1) := by decide +kernel
theorem dX4_garment_21 : decode cX4_garment 21 = .ok (.iconst 0, 1) := by decide +kernel
theorem dX4_garment_22 : decode cX4_garment 22 = .ok (.invokevirtual 57, 3) := by decide +kernel
theorem dX4_garment_25 : decode cX4_garment 25 = .ok (.ireturn, 1) := by decide +kernel
theorem dX4_garment_26 : decode cX4_garment 26 = .ok (.aload_n 0, 1) := by decide +kernel
theorem dX4_garment_27 : decode cX4_garment 27 = .ok (.getfield 10, 3) := by decide +kernel
theorem dX4_garment_30 : decode cX4_garment 30 = .ok (.getfield 129, 3) := by decide +kernel
theorem dX4_garment_33 : decode cX4_garment 33 = .ok (.bipush 10, 2) := by decide +kernel
theorem dX4_garment_35 : decode cX4_garment 35 = .ok (.if_icmp .lt 9, 3) := by decide +kernel
theorem dX4_garment_38 : decode cX4_garment 38 = .ok (.aload_n 0, 1) := by decide +kernel
theorem dX4_garment_39 : decode cX4_garment 39 = .ok (.iconst 1, 1) := by decide +kernel
theorem dX4_garment_40 : decode cX4_garment 40 = .ok (.invokevirtual 57, 3) := by decide +kernel
theorem dX4_garment_43 : decode cX4_garment 43 = .ok (.ireturn, 1) := by decide +kernel
theorem dX4_garment_44 : decode cX4_garment 44 = .ok (.aload_n 0, 1) := by decide +kernel
theorem dX4_garment_45 : decode cX4_garment 45 = .ok (.getfield 10, 3) := by decide +kernel
theorem dX4_garment_48 : decode cX4_garment 48 = .ok (.iload_n 1, 1) := by decide +kernel
theorem dX4_garment_49 : decode cX4_garment 49 = .ok (.iload_n 2, 1) := by decide +kernel
theorem dX4_garment_50 : decode cX4_garment 50 = .ok (.invokevirtual 132, 3) := by decide +kernel
theorem dX4_garment_53 : decode cX4_garment 53 = .ok (.ireturn, 1) := by decide +kernel
theorem dX4_garmentOf_0 : decode cX4_garmentOf 0 = .ok (.aload_n 0, 1) := by decide +kernel
theorem dX4_garmentOf_1 : decode cX4_garmentOf 1 = .ok (.getfield 10, 3) := by decide +kernel
theorem dX4_garmentOf_4 : decode cX4_garmentOf 4 = .ok (.iload_n 1, 1) := by decide +kernel
theorem dX4_garmentOf_5 : decode cX4_garmentOf 5 = .ok (.invokevirtual 116, 3) := by decide +kernel
theorem dX4_garmentOf_8 : decode cX4_garmentOf 8 = .ok (.ifCond .ne 9, 3) := by decide +kernel
theorem dX4_garmentOf_11 : decode cX4_garmentOf 11 = .ok (.aload_n 0, 1) := by decide +kernel
theorem dX4_garmentOf_12 : decode cX4_garmentOf 12 = .ok (.iconst 0, 1) := by decide +kernel
theorem dX4_garmentOf_13 : decode cX4_garmentOf 13 = .ok (.invokevirtual 57, 3) := by decide +kernel
theorem dX4_garmentOf_16 : decode cX4_garmentOf 16 = .ok (.ireturn, 1) := by decide +kernel
theorem dX4_garmentOf_17 : decode cX4_garmentOf 17 = .ok (.iload_n 2, 1) := by decide +kernel
theorem dX4_garmentOf_18 : decode cX4_garmentOf 18 = .ok (.tableswitch 96 0 5 #[38, 48, 58, 68, 78, 87], 38) := by decide +kernel
theorem dX4_garmentOf_56 : decode cX4_garmentOf 56 = .ok (.aload_n 0, 1) := by decide +kernel
end
section
theorem dX4_garmentOf_57 : decode cX4_garmentOf 57 = .ok (.getfield 10, 3) := by decide +kernel
theorem dX4_garmentOf_60 : decode cX4_garmentOf 60 = .ok (.getfield 136, 3) := by decide +kernel
theorem dX4_garmentOf_63 : decode cX4_garmentOf 63 = .ok (.iload_n 1, 1) := by decide +kernel
theorem dX4_garmentOf_64 : decode cX4_garmentOf 64 = .ok (.iaload, 1) := by decide +kernel
theorem dX4_garmentOf_65 : decode cX4_garmentOf 65 = .ok (.ireturn, 1) := by decide +kernel
theorem dX4_garmentOf_66 : decode cX4_garmentOf 66 = .ok (.aload_n 0, 1) := by decide +kernel
theorem dX4_garmentOf_67 : decode cX4_garmentOf 67 = .ok (.getfield 10, 3) := by decide +kernel
theorem dX4_garmentOf_70 : decode cX4_garmentOf 70 = .ok (.getfield 139, 3) := by decide +kernel
theorem dX4_garmentOf_73 : decode cX4_garmentOf 73 = .ok (.iload_n 1, 1) := by decide +kernel
theorem dX4_garmentOf_74 : decode cX4_garmentOf 74 = .ok (.iaload, 1) := by decide +kernel
theorem dX4_garmentOf_75 : decode cX4_garmentOf 75 = .ok (.ireturn, 1) := by decide +kernel
theorem dX4_garmentOf_76 : decode cX4_garmentOf 76 = .ok (.aload_n 0, 1) := by decide +kernel
theorem dX4_garmentOf_77 : decode cX4_garmentOf 77 = .ok (.getfield 10, 3) := by decide +kernel
theorem dX4_garmentOf_80 : decode cX4_garmentOf 80 = .ok (.getfield 142, 3) := by decide +kernel
theorem dX4_garmentOf_83 : decode cX4_garmentOf 83 = .ok (.iload_n 1, 1) := by decide +kernel
theorem dX4_garmentOf_84 : decode cX4_garmentOf 84 = .ok (.iaload, 1) := by decide +kernel
theorem dX4_garmentOf_85 : decode cX4_garmentOf 85 = .ok (.ireturn, 1) := by decide +kernel
theorem dX4_garmentOf_86 : decode cX4_garmentOf 86 = .ok (.aload_n 0, 1) := by decide +kernel
theorem dX4_garmentOf_87 : decode cX4_garmentOf 87 = .ok (.getfield 10, 3) := by decide +kernel
theorem dX4_garmentOf_90 : decode cX4_garmentOf 90 = .ok (.getfield 145, 3) := by decide +kernel
theorem dX4_garmentOf_93 : decode cX4_garmentOf 93 = .ok (.iload_n 1, 1) := by decide +kernel
theorem dX4_garmentOf_94 : decode cX4_garmentOf 94 = .ok (.iaload, 1) := by decide +kernel
theorem dX4_garmentOf_95 : decode cX4_garmentOf 95 = .ok (.ireturn, 1) := by decide +kernel
theorem dX4_garmentOf_96 : decode cX4_garmentOf 96 = .ok (.aload_n 0, 1) := by decide +kernel
theorem dX4_garmentOf_97 : decode cX4_garmentOf 97 = .ok (.getfield 10, 3) := by decide +kernel
theorem dX4_garmentOf_100 : decode cX4_garmentOf 100 = .ok (.iload_n 1, 1) := by decide +kernel
theorem dX4_garmentOf_101 : decode cX4_garmentOf 101 = .ok (.invokevirtual 148, 3) := by decide +kernel
theorem dX4_garmentOf_104 : decode cX4_garmentOf 104 = .ok (.ireturn, 1) := by decide +kernel
theorem dX4_garmentOf_105 : decode cX4_garmentOf 105 = .ok (.aload_n 0, 1) := by decide +kernel
theorem dX4_garmentOf_106 : decode cX4_garmentOf 106 = .ok (.getfield 10, 3) := by decide +kernel
theorem dX4_garmentOf_109 : decode cX4_garmentOf 109 = .ok (.iload_n 1, 1) := by decide +kernel
theorem dX4_garmentOf_110 : decode cX4_garmentOf 110 = .ok (.invokevirtual 151, 3) := by decide +kernel
theorem dX4_garmentOf_113 : decode cX4_garmentOf 113 = .ok (.ireturn, 1) := by decide +kernel
theorem dX4_garmentOf_114 : decode cX4_garmentOf 114 = .ok (.aload_n 0, 1) := by decide +kernel
theorem dX4_garmentOf_115 : decode cX4_garmentOf 115 = .ok (.iconst 0, 1) := by decide +kernel
theorem dX4_garmentOf_116 : decode cX4_garmentOf 116 = .ok (.invokevirtual 57, 3) := by decide +kernel
theorem dX4_garmentOf_119 : decode cX4_garmentOf 119 = .ok (.ireturn, 1) := by decide +kernel
theorem dX4_sew_0 : decode cX4_sew 0 = .ok (.aload_n 0, 1) := by decide +kernel
theorem dX4_sew_1 : decode cX4_sew 1 = .ok (.getfield 10, 3) := by decide +kernel
theorem dX4_sew_4 : decode cX4_sew 4 = .ok (.iload_n 1, 1) := by decide +kernel
theorem dX4_sew_5 : decode cX4_sew 5 = .ok (.invokevirtual 116, 3) := by decide +kernel
theorem dX4_sew_8 : decode cX4_sew 8 = .ok (.ifCond .ne 9, 3) := by decide +kernel
theorem dX4_sew_11 : decode cX4_sew 11 = .ok (.aload_n 0, 1) := by decide +kernel
theorem dX4_sew_12 : decode cX4_sew 12 = .ok (.iconst 0, 1) := by decide +kernel
theorem dX4_sew_13 : decode cX4_sew 13 = .ok (.invokevirtual 57, 3) := by decide +kernel
theorem dX4_sew_16 : decode cX4_sew 16 = .ok (.ireturn, 1) := by decide +kernel
theorem dX4_sew_17 : decode cX4_sew 17 = .ok (.iload_n 2, 1) := by decide +kernel
theorem dX4_sew_18 : decode cX4_sew 18 = .ok (.tableswitch 111 0 3 #[30, 54, 70, 87], 30) := by decide +kernel
theorem dX4_sew_48 : decode cX4_sew 48 = .ok (.aload_n 0, 1) := by decide +kernel
theorem dX4_sew_49 : decode cX4_sew 49 = .ok (.aload_n 0, 1) := by decide +kernel
theorem dX4_sew_50 : decode cX4_sew 50 = .ok (.getfield 10, 3) := by decide +kernel
theorem dX4_sew_53 : decode cX4_sew 53 = .ok (.getfield 136, 3) := by decide +kernel
theorem dX4_sew_56 : decode cX4_sew 56 = .ok (.iload_n 1, 1) := by decide +kernel
theorem dX4_sew_57 : decode cX4_sew 57 = .ok (.iload_n 3, 1) := by decide +kernel
theorem dX4_sew_58 : decode cX4_sew 58 = .ok (.iconst 0, 1) := by decide +kernel
theorem dX4_sew_59 : decode cX4_sew 59 = .ok (.aload_n 0, 1) := by decide +kernel
theorem dX4_sew_60 : decode cX4_sew 60 = .ok (.getfield 10, 3) := by decide +kernel
theorem dX4_sew_63 : decode cX4_sew 63 = .ok (.getfield 85, 3) := by decide +kernel
theorem dX4_sew_66 : decode cX4_sew 66 = .ok (.iconst 1, 1) := by decide +kernel
theorem dX4_sew_67 : decode cX4_sew 67 = .ok (.isub, 1) := by decide +kernel
theorem dX4_sew_68 : decode cX4_sew 68 = .ok (.invokevirtual 112, 3) := by decide +kernel
theorem dX4_sew_71 : decode cX4_sew 71 = .ok (.ireturn, 1) := by decide +kernel
theorem dX4_sew_72 : decode cX4_sew 72 = .ok (.aload_n 0, 1) := by decide +kernel
theorem dX4_sew_73 : decode cX4_sew 73 = .ok (.aload_n 0, 1) := by decide +kernel
theorem dX4_sew_74 : decode cX4_sew 74 = .ok (.getfield 10, 3) := by decide +kernel
theorem dX4_sew_77 : decode cX4_sew 77 = .ok (.getfield 139, 3) := by decide +kernel
theorem dX4_sew_80 : decode cX4_sew 80 = .ok (.iload_n 1, 1) := by decide +kernel
theorem dX4_sew_81 : decode cX4_sew 81 = .ok (.iload_n 3, 1) := by decide +kernel
theorem dX4_sew_82 : decode cX4_sew 82 = .ok (.iconst 0, 1) := by decide +kernel
theorem dX4_sew_83 : decode cX4_sew 83 = .ok (.iconst 2, 1) := by decide +kernel
theorem dX4_sew_84 : decode cX4_sew 84 = .ok (.invokevirtual 112, 3) := by decide +kernel
theorem dX4_sew_87 : decode cX4_sew 87 = .ok (.ireturn, 1) := by decide +kernel
theorem dX4_sew_88 : decode cX4_sew 88 = .ok (.aload_n 0, 1) := by decide +kernel
theorem dX4_sew_89 : decode cX4_sew 89 = .ok (.aload_n 0, 1) := by decide +kernel
theorem dX4_sew_90 : decode cX4_sew 90 = .ok (.getfield 10, 3) := by decide +kernel
theorem dX4_sew_93 : decode cX4_sew 93 = .ok (.getfield 142, 3) := by decide +kernel
theorem dX4_sew_96 : decode cX4_sew 96 = .ok (.iload_n 1, 1) := by decide +kernel
theorem dX4_sew_97 : decode cX4_sew 97 = .ok (.iload_n 3, 1) := by decide +kernel
theorem dX4_sew_98 : decode cX4_sew 98 = .ok (.iconst 0, 1) := by decide +kernel
theorem dX4_sew_99 : decode cX4_sew 99 = .ok (.bipush 99, 2) := by decide +kernel
theorem dX4_sew_101 : decode cX4_sew 101 = .ok (.invokevirtual 112, 3) := by decide +kernel
theorem dX4_sew_104 : decode cX4_sew 104 = .ok (.ireturn, 1) := by decide +kernel
theorem dX4_sew_105 : decode cX4_sew 105 = .ok (.aload_n 0, 1) := by decide +kernel
theorem dX4_sew_106 : decode cX4_sew 106 = .ok (.aload_n 0, 1) := by decide +kernel
theorem dX4_sew_107 : decode cX4_sew 107 = .ok (.getfield 10, 3) := by decide +kernel
theorem dX4_sew_110 : decode cX4_sew 110 = .ok (.getfield 145, 3) := by decide +kernel
theorem dX4_sew_113 : decode cX4_sew 113 = .ok (.iload_n 1, 1) := by decide +kernel
theorem dX4_sew_114 : decode cX4_sew 114 = .ok (.iload_n 3, 1) := by decide +kernel
theorem dX4_sew_115 : decode cX4_sew 115 = .ok (.iconst (-1), 1) := by decide +kernel
theorem dX4_sew_116 : decode cX4_sew 116 = .ok (.aload_n 0, 1) := by decide +kernel
theorem dX4_sew_117 : decode cX4_sew 117 = .ok (.getfield 10, 3) := by decide +kernel
theorem dX4_sew_120 : decode cX4_sew 120 = .ok (.getfield 85, 3) := by decide +kernel
theorem dX4_sew_123 : decode cX4_sew 123 = .ok (.iconst 1, 1) := by decide +kernel
theorem dX4_sew_124 : decode cX4_sew 124 = .ok (.isub, 1) := by decide +kernel
theorem dX4_sew_125 : decode cX4_sew 125 = .ok (.invokevirtual 112, 3) := by decide +kernel
theorem dX4_sew_128 : decode cX4_sew 128 = .ok (.ireturn, 1) := by decide +kernel
theorem dX4_sew_129 : decode cX4_sew 129 = .ok (.aload_n 0, 1) := by decide +kernel
theorem dX4_sew_130 : decode cX4_sew 130 = .ok (.iconst 0, 1) := by decide +kernel
theorem dX4_sew_131 : decode cX4_sew 131 = .ok (.invokevirtual 57, 3) := by decide +kernel
theorem dX4_sew_134 : decode cX4_sew 134 = .ok (.ireturn, 1) := by decide +kernel
theorem dX4_weeks_0 : decode cX4_weeks 0 = .ok (.iload_n 1, 1) := by decide +kernel
theorem dX4_weeks_1 : decode cX4_weeks 1 = .ok (.iconst 1, 1) := by decide +kernel
theorem dX4_weeks_2 : decode cX4_weeks 2 = .ok (.bipush 60, 2) := by decide +kernel
theorem dX4_weeks_4 : decode cX4_weeks 4 = .ok (.invokestatic 53, 3) := by decide +kernel
theorem dX4_weeks_7 : decode cX4_weeks 7 = .ok (.ifCond .ne 9, 3) := by decide +kernel
theorem dX4_weeks_10 : decode cX4_weeks 10 = .ok (.aload_n 0, 1) := by decide +kernel
theorem dX4_weeks_11 : decode cX4_weeks 11 = .ok (.iconst 0, 1) := by decide +kernel
theorem dX4_weeks_12 : decode cX4_weeks 12 = .ok (.invokevirtual 57, 3) := by decide +kernel
theorem dX4_weeks_15 : decode cX4_weeks 15 = .ok (.ireturn, 1) := by decide +kernel
theorem dX4_weeks_16 : decode cX4_weeks 16 = .ok (.aload_n 0, 1) := by decide +kernel
theorem dX4_weeks_17 : decode cX4_weeks 17 = .ok (.getfield 10, 3) := by decide +kernel
theorem dX4_weeks_20 : decode cX4_weeks 20 = .ok (.getfield 65, 3) := by decide +kernel
theorem dX4_weeks_23 : decode cX4_weeks 23 = .ok (.iload_n 1, 1) := by decide +kernel
theorem dX4_weeks_24 : decode cX4_weeks 24 = .ok (.iadd, 1) := by decide +kernel
theorem dX4_weeks_25 : decode cX4_weeks 25 = .ok (.ldc 154, 2) := by decide +kernel
theorem dX4_weeks_27 : decode cX4_weeks 27 = .ok (.if_icmp .le 9, 3) := by decide +kernel
theorem dX4_weeks_30 : decode cX4_weeks 30 = .ok (.aload_n 0, 1) := by decide +kernel
theorem dX4_weeks_31 : decode cX4_weeks 31 = .ok (.iconst 4, 1) := by decide +kernel
theorem dX4_weeks_32 : decode cX4_weeks 32 = .ok (.invokevirtual 57, 3) := by decide +kernel
theorem dX4_weeks_35 : decode cX4_weeks 35 = .ok (.ireturn, 1) := by decide +kernel
theorem dX4_weeks_36 : decode cX4_weeks 36 = .ok (.aload_n 0, 1) := by decide +kernel
theorem dX4_weeks_37 : decode cX4_weeks 37 = .ok (.getfield 10, 3) := by decide +kernel
theorem dX4_weeks_40 : decode cX4_weeks 40 = .ok (.iload_n 1, 1) := by decide +kernel
theorem dX4_weeks_41 : decode cX4_weeks 41 = .ok (.invokevirtual 155, 3) := by decide +kernel
theorem dX4_weeks_44 : decode cX4_weeks 44 = .ok (.aload_n 0, 1) := by decide +kernel
theorem dX4_weeks_45 : decode cX4_weeks 45 = .ok (.getfield 10, 3) := by decide +kernel
theorem dX4_weeks_48 : decode cX4_weeks 48 = .ok (.invokevirtual 71, 3) := by decide +kernel
theorem dX4_weeks_51 : decode cX4_weeks 51 = .ok (.ireturn, 1) := by decide +kernel
theorem dX4_on_0 : decode cX4_on 0 = .ok (.aload_n 0, 1) := by decide +kernel
theorem dX4_on_1 : decode cX4_on 1 = .ok (.getfield 10, 3) := by decide +kernel
theorem dX4_on_4 : decode cX4_on 4 = .ok (.iload_n 1, 1) := by decide +kernel
theorem dX4_on_5 : decode cX4_on 5 = .ok (.invokevirtual 116, 3) := by decide +kernel
theorem dX4_on_8 : decode cX4_on 8 = .ok (.ifCond .eq 22, 3) := by decide +kernel
theorem dX4_on_11 : decode cX4_on 11 = .ok (.iload_n 2, 1) := by decide +kernel
theorem dX4_on_12 : decode cX4_on 12 = .ok (.iconst 0, 1) := by decide +kernel
theorem dX4_on_13 : decode cX4_on 13 = .ok (.bipush 100, 2) := by decide +kernel
theorem dX4_on_15 : decode cX4_on 15 = .ok (.invokestatic 53, 3) := by decide +kernel
theorem dX4_on_18 : decode cX4_on 18 = .ok (.ifCond .eq 12, 3) := by decide +kernel
theorem dX4_on_21 : decode cX4_on 21 = .ok (.iload_n 3, 1) := by decide +kernel
theorem dX4_on_22 : decode cX4_on 22 = .ok (.iconst 0, 1) := by decide +kernel
theorem dX4_on_23 : decode cX4_on 23 = .ok (.iconst 1, 1) := by decide +kernel
theorem dX4_on_24 : decode cX4_on 24 = .ok (.invokestatic 53, 3) := by decide +kernel
theorem dX4_on_27 : decode cX4_on 27 = .ok (.ifCond .ne 9, 3) := by decide +kernel
theorem dX4_on_30 : decode cX4_on 30 = .ok (.aload_n 0, 1) := by decide +kernel
theorem dX4_on_31 : decode cX4_on 31 = .ok (.iconst 0, 1) := by decide +kernel
theorem dX4_on_32 : decode cX4_on 32 = .ok (.invokevirtual 57, 3) := by decide +kernel
theorem dX4_on_35 : decode cX4_on 35 = .ok (.ireturn, 1) := by decide +kernel
theorem dX4_on_36 : decode cX4_on 36 = .ok (.aload_n 0, 1) := by decide +kernel
theorem dX4_on_37 : decode cX4_on 37 = .ok (.invokevirtual 159, 3) := by decide +kernel
theorem dX4_on_40 : decode cX4_on 40 = .ok (.aload_n 0, 1) := by decide +kernel
theorem dX4_on_41 : decode cX4_on 41 = .ok (.getfield 16, 3) := by decide +kernel
theorem dX4_on_44 : decode cX4_on 44 = .ok (.iload_n 2, 1) := by decide +kernel
theorem dX4_on_45 : decode cX4_on 45 = .ok (.invokevirtual 155, 3) := by decide +kernel
theorem dX4_on_48 : decode cX4_on 48 = .ok (.iload_n 3, 1) := by decide +kernel
theorem dX4_on_49 : decode cX4_on 49 = .ok (.ifCond .ne 15, 3) := by decide +kernel
theorem dX4_on_52 : decode cX4_on 52 = .ok (.aload_n 0, 1) := by decide +kernel
theorem dX4_on_53 : decode cX4_on 53 = .ok (.getfield 16, 3) := by decide +kernel
theorem dX4_on_56 : decode cX4_on 56 = .ok (.getfield 142, 3) := by decide +kernel
theorem dX4_on_59 : decode cX4_on 59 = .ok (.iload_n 1, 1) := by decide +kernel
theorem dX4_on_60 : decode cX4_on 60 = .ok (.iaload, 1) := by decide +kernel
theorem dX4_on_61 : decode cX4_on 61 = .ok (.goto 12, 3) := by decide +kernel
theorem dX4_on_64 : decode cX4_on 64 = .ok (.aload_n 0, 1) := by decide +kernel
theorem dX4_on_65 : decode cX4_on 65 = .ok (.getfield 16, 3) := by decide +kernel
theorem dX4_on_68 : decode cX4_on 68 = .ok (.getfield 145, 3) := by decide +kernel
theorem dX4_on_71 : decode cX4_on 71 = .ok (.iload_n 1, 1) := by decide +kernel
theorem dX4_on_72 : decode cX4_on 72 = .ok (.iaload, 1) := by decide +kernel
theorem dX4_on_73 : decode cX4_on 73 = .ok (.ireturn, 1) := by decide +kernel
theorem dX4_then_0 : decode cX4_then 0 = .ok (.aload_n 0, 1) := by decide +kernel
theorem dX4_then_1 : decode cX4_then 1 = .ok (.getfield 10, 3) := by decide +kernel
theorem dX4_then_4 : decode cX4_then 4 = .ok (.iload_n 1, 1) := by decide +kernel
theorem dX4_then_5 : decode cX4_then 5 = .ok (.invokevirtual 91, 3) := by decide +kernel
theorem dX4_then_8 : decode cX4_then 8 = .ok (.ifCond .eq 13, 3) := by decide +kernel
theorem dX4_then_11 : decode cX4_then 11 = .ok (.iload_n 2, 1) := by decide +kernel
theorem dX4_then_12 : decode cX4_then 12 = .ok (.iconst 0, 1) := by decide +kernel
theorem dX4_then_13 : decode cX4_then 13 = .ok (.bipush 100, 2) := by decide +kernel
theorem dX4_then_15 : decode cX4_then 15 = .ok (.invokestatic 53, 3) := by decide +kernel
theorem dX4_then_18 : decode cX4_then 18 = .ok (.ifCond .ne 9, 3) := by decide +kernel
theorem dX4_then_21 : decode cX4_then 21 = .ok (.aload_n 0, 1) := by decide +kernel
theorem dX4_then_22 : decode cX4_then 22 = .ok (.iconst 0, 1) := by decide +kernel
theorem dX4_then_23 : decode cX4_then 23 = .ok (.invokevirtual 57, 3) := by decide +kernel
theorem dX4_then_26 : decode cX4_then 26 = .ok (.ireturn, 1) := by decide +kernel
theorem dX4_then_27 : decode cX4_then 27 = .ok (.aload_n 0, 1) := by decide +kernel
theorem dX4_then_28 : decode cX4_then 28 = .ok (.invokevirtual 159, 3) := by decide +kernel
theorem dX4_then_31 : decode cX4_then 31 = .ok (.aload_n 0, 1) := by decide +kernel
theorem dX4_then_32 : decode cX4_then 32 = .ok (.getfield 16, 3) := by decide +kernel
theorem dX4_then_35 : decode cX4_then 35 = .ok (.iload_n 2, 1) := by decide +kernel
theorem dX4_then_36 : decode cX4_then 36 = .ok (.invokevirtual 155, 3) := by decide +kernel
theorem dX4_then_39 : decode cX4_then 39 = .ok (.sipush 1000, 3) := by decide +kernel
theorem dX4_then_42 : decode cX4_then 42 = .ok (.aload_n 0, 1) := by decide +kernel
theorem dX4_then_43 : decode cX4_then 43 = .ok (.getfield 16, 3) := by decide +kernel
theorem dX4_then_46 : decode cX4_then 46 = .ok (.getfield 100, 3) := by decide +kernel
theorem dX4_then_49 : decode cX4_then 49 = .ok (.iload_n 1, 1) := by decide +kernel
theorem dX4_then_50 : decode cX4_then 50 = .ok (.iaload, 1) := by decide +kernel
theorem dX4_then_51 : decode cX4_then 51 = .ok (.iadd, 1) := by decide +kernel
theorem dX4_then_52 : decode cX4_then 52 = .ok (.ireturn, 1) := by decide +kernel
theorem dX4_lost_0 : decode cX4_lost 0 = .ok (.aload_n 0, 1) := by decide +kernel
theorem dX4_lost_1 : decode cX4_lost 1 = .ok (.getfield 10, 3) := by decide +kernel
theorem dX4_lost_4 : decode cX4_lost 4 = .ok (.iload_n 1, 1) := by decide +kernel
theorem dX4_lost_5 : decode cX4_lost 5 = .ok (.invokevirtual 116, 3) := by decide +kernel
theorem dX4_lost_8 : decode cX4_lost 8 = .ok (.ifCond .ne 9, 3) := by decide +kernel
theorem dX4_lost_11 : decode cX4_lost 11 = .ok (.aload_n 0, 1) := by decide +kernel
theorem dX4_lost_12 : decode cX4_lost 12 = .ok (.iconst 0, 1) := by decide +kernel
theorem dX4_lost_13 : decode cX4_lost 13 = .ok (.invokevirtual 57, 3) := by decide +kernel
theorem dX4_lost_16 : decode cX4_lost 16 = .ok (.ireturn, 1) := by decide +kernel
theorem dX4_lost_17 : decode cX4_lost 17 = .ok (.aload_n 0, 1) := by decide +kernel
theorem dX4_lost_18 : decode cX4_lost 18 = .ok (.invokevirtual 159, 3) := by decide +kernel
theorem dX4_lost_21 : decode cX4_lost 21 = .ok (.iconst 0, 1) := by decide +kernel
theorem dX4_lost_22 : decode cX4_lost 22 = .ok (.istore_n 2, 1) := by decide +kernel
theorem dX4_lost_23 : decode cX4_lost 23 = .ok (.iload_n 2, 1) := by decide +kernel
theorem dX4_lost_24 : decode cX4_lost 24 = .ok (.bipush 100, 2) := by decide +kernel
theorem dX4_lost_26 : decode cX4_lost 26 = .ok (.if_icmp .gt 30, 3) := by decide +kernel
theorem dX4_lost_29 : decode cX4_lost 29 = .ok (.aload_n 0, 1) := by decide +kernel
theorem dX4_lost_30 : decode cX4_lost 30 = .ok (.getfield 16, 3) := by decide +kernel
theorem dX4_lost_33 : decode cX4_lost 33 = .ok (.iload_n 1, 1) := by decide +kernel
theorem dX4_lost_34 : decode cX4_lost 34 = .ok (.invokevirtual 162, 3) := by decide +kernel
theorem dX4_lost_37 : decode cX4_lost 37 = .ok (.ifCond .ne 5, 3) := by decide +kernel
theorem dX4_lost_40 : decode cX4_lost 40 = .ok (.iload_n 2, 1) := by decide +kernel
theorem dX4_lost_41 : decode cX4_lost 41 = .ok (.ireturn, 1) := by decide +kernel
theorem dX4_lost_42 : decode cX4_lost 42 = .ok (.aload_n 0, 1) := by decide +kernel
theorem dX4_lost_43 : decode cX4_lost 43 = .ok (.getfield 16, 3) := by decide +kernel
theorem dX4_lost_46 : decode cX4_lost 46 = .ok (.iconst 1, 1) := by decide +kernel
theorem dX4_lost_47 : decode cX4_lost 47 = .ok (.invokevirtual 155, 3) := by decide +kernel
theorem dX4_lost_50 : decode cX4_lost 50 = .ok (.iinc 2 1, 3) := by decide +kernel
theorem dX4_lost_53 : decode cX4_lost 53 = .ok (.goto (-30), 3) := by decide +kernel
theorem dX4_lost_56 : decode cX4_lost 56 = .ok (.aload_n 0, 1) := by decide +kernel
theorem dX4_lost_57 : decode cX4_lost 57 = .ok (.iconst 3, 1) := by decide +kernel
theorem dX4_lost_58 : decode cX4_lost 58 = .ok (.invokevirtual 57, 3) := by decide +kernel
theorem dX4_lost_61 : decode cX4_lost 61 = .ok (.ireturn, 1) := by decide +kernel
theorem dX4_comes_0 : decode cX4_comes 0 = .ok (.aload_n 0, 1) := by decide +kernel
theorem dX4_comes_1 : decode cX4_comes 1 = .ok (.getfield 10, 3) := by decide +kernel
theorem dX4_comes_4 : decode cX4_comes 4 = .ok (.iload_n 1, 1) := by decide +kernel
theorem dX4_comes_5 : decode cX4_comes 5 = .ok (.invokevirtual 116, 3) := by decide +kernel
theorem dX4_comes_8 : decode cX4_comes 8 = .ok (.ifCond .eq 14, 3) := by decide +kernel
theorem dX4_comes_11 : decode cX4_comes 11 = .ok (.aload_n 0, 1) := by decide +kernel
theorem dX4_comes_12 : decode cX4_comes 12 = .ok (.getfield 10, 3) := by decide +kernel
theorem dX4_comes_15 : decode cX4_comes 15 = .ok (.iload_n 2, 1) := by decide +kernel
theorem dX4_comes_16 : decode cX4_comes 16 = .ok (.invokevirtual 91, 3) := by decide +kernel
theorem dX4_comes_19 : decode cX4_comes 19 = .ok (.ifCond .ne 9, 3) := by decide +kernel
theorem dX4_comes_22 : decode cX4_comes 22 = .ok (.aload_n 0, 1) := by decide +kernel
theorem dX4_comes_23 : decode cX4_comes 23 = .ok (.iconst 0, 1) := by decide +kernel
theorem dX4_comes_24 : decode cX4_comes 24 = .ok (.invokevirtual 57, 3) := by decide +kernel
theorem dX4_comes_27 : decode cX4_comes 27 = .ok (.ireturn, 1) := by decide +kernel
theorem dX4_comes_28 : decode cX4_comes 28 = .ok (.aload_n 0, 1) := by decide +kernel
theorem dX4_comes_29 : decode cX4_comes 29 = .ok (.invokevirtual 159, 3) := by decide +kernel
theorem dX4_comes_32 : decode cX4_comes 32 = .ok (.iconst 0, 1) := by decide +kernel
theorem dX4_comes_33 : decode cX4_comes 33 = .ok (.istore_n 3, 1) := by decide +kernel
theorem dX4_comes_34 : decode cX4_comes 34 = .ok (.iload_n 3, 1) := by decide +kernel
theorem dX4_comes_35 : decode cX4_comes 35 = .ok (.bipush 100, 2) := by decide +kernel
theorem dX4_comes_37 : decode cX4_comes 37 = .ok (.if_icmp .gt 32, 3) := by decide +kernel
theorem dX4_comes_40 : decode cX4_comes 40 = .ok (.aload_n 0, 1) := by decide +kernel
theorem dX4_comes_41 : decode cX4_comes 41 = .ok (.getfield 16, 3) := by decide +kernel
theorem dX4_comes_44 : decode cX4_comes 44 = .ok (.getfield 145, 3) := by decide +kernel
theorem dX4_comes_47 : decode cX4_comes 47 = .ok (.iload_n 1, 1) := by decide +kernel
theorem dX4_comes_48 : decode cX4_comes 48 = .ok (.iaload, 1) := by decide +kernel
theorem dX4_comes_49 : decode cX4_comes 49 = .ok (.iload_n 2, 1) := by decide +kernel
theorem dX4_comes_50 : decode cX4_comes 50 = .ok (.if_icmp .ne 5, 3) := by decide +kernel
theorem dX4_comes_53 : decode cX4_comes 53 = .ok (.iload_n 3, 1) := by decide +kernel
theorem dX4_comes_54 : decode cX4_comes 54 = .ok (.ireturn, 1) := by decide +kernel
theorem dX4_comes_55 : decode cX4_comes 55 = .ok (.aload_n 0, 1) := by decide +kernel
theorem dX4_comes_56 : decode cX4_comes 56 = .ok (.getfield 16, 3) := by decide +kernel
theorem dX4_comes_59 : decode cX4_comes 59 = .ok (.iconst 1, 1) := by decide +kernel
theorem dX4_comes_60 : decode cX4_comes 60 = .ok (.invokevirtual 155, 3) := by decide +kernel
theorem dX4_comes_63 : decode cX4_comes 63 = .ok (.iinc 3 1, 3) := by decide +kernel
theorem dX4_comes_66 : decode cX4_comes 66 = .ok (.goto (-32), 3) := by decide +kernel
theorem dX4_comes_69 : decode cX4_comes 69 = .ok (.aload_n 0, 1) := by decide +kernel
theorem dX4_comes_70 : decode cX4_comes 70 = .ok (.iconst 3, 1) := by decide +kernel
theorem dX4_comes_71 : decode cX4_comes 71 = .ok (.invokevirtual 57, 3) := by decide +kernel
theorem dX4_comes_74 : decode cX4_comes 74 = .ok (.ireturn, 1) := by decide +kernel
theorem dX4_mark_0 : decode cX4_mark 0 = .ok (.aload_n 0, 1) := by decide +kernel
theorem dX4_mark_1 : decode cX4_mark 1 = .ok (.getfield 10, 3) := by decide +kernel
theorem dX4_mark_4 : decode cX4_mark 4 = .ok (.iload_n 1, 1) := by decide +kernel
theorem dX4_mark_5 : decode cX4_mark 5 = .ok (.invokevirtual 116, 3) := by decide +kernel
theorem dX4_mark_8 : decode cX4_mark 8 = .ok (.ifCond .eq 13, 3) := by decide +kernel
theorem dX4_mark_11 : decode cX4_mark 11 = .ok (.iload_n 2, 1) := by decide +kernel
theorem dX4_mark_12 : decode cX4_mark 12 = .ok (.iconst 1, 1) := by decide +kernel
theorem dX4_mark_13 : decode cX4_mark 13 = .ok (.bipush 40, 2) := by decide +kernel
theorem dX4_mark_15 : decode cX4_mark 15 = .ok (.invokestatic 53, 3) := by decide +kernel
theorem dX4_mark_18 : decode cX4_mark 18 = .ok (.ifCond .ne 9, 3) := by decide +kernel
theorem dX4_mark_21 : decode cX4_mark 21 = .ok (.aload_n 0, 1) := by decide +kernel
theorem dX4_mark_22 : decode cX4_mark 22 = .ok (.iconst 0, 1) := by decide +kernel
theorem dX4_mark_23 : decode cX4_mark 23 = .ok (.invokevirtual 57, 3) := by decide +kernel
theorem dX4_mark_26 : decode cX4_mark 26 = .ok (.ireturn, 1) := by decide +kernel
theorem dX4_mark_27 : decode cX4_mark 27 = .ok (.iconst 0, 1) := by decide +kernel
theorem dX4_mark_28 : decode cX4_mark 28 = .ok (.istore_n 3, 1) := by decide +kernel
theorem dX4_mark_29 : decode cX4_mark 29 = .ok (.iconst (-1), 1) := by decide +kernel
theorem dX4_mark_30 : decode cX4_mark 30 = .ok (.istore 4, 2) := by decide +kernel
theorem dX4_mark_32 : decode cX4_mark 32 = .ok (.iconst 0, 1) := by decide +kernel
theorem dX4_mark_33 : decode cX4_mark 33 = .ok (.istore 5, 2) := by decide +kernel
theorem dX4_mark_35 : decode cX4_mark 35 = .ok (.iload 5, 2) := by decide +kernel
theorem dX4_mark_37 : decode cX4_mark 37 = .ok (.iconst 3, 1) := by decide +kernel
theorem dX4_mark_38 : decode cX4_mark 38 = .ok (.if_icmp .ge 49, 3) := by decide +kernel
theorem dX4_mark_41 : decode cX4_mark 41 = .ok (.aload_n 0, 1) := by decide +kernel
theorem dX4_mark_42 : decode cX4_mark 42 = .ok (.invokevirtual 159, 3) := by decide +kernel
theorem dX4_mark_45 : decode cX4_mark 45 = .ok (.aload_n 0, 1) := by decide +kernel
theorem dX4_mark_46 : decode cX4_mark 46 = .ok (.getfield 16, 3) := by decide +kernel
theorem dX4_mark_49 : decode cX4_mark 49 = .ok (.getfield 139, 3) := by decide +kernel
theorem dX4_mark_52 : decode cX4_mark 52 = .ok (.iload_n 1, 1) := by decide +kernel
theorem dX4_mark_53 : decode cX4_mark 53 = .ok (.iload 5, 2) := by decide +kernel
theorem dX4_mark_55 : decode cX4_mark 55 = .ok (.iastore, 1) := by decide +kernel
theorem dX4_mark_56 : decode cX4_mark 56 = .ok (.aload_n 0, 1) := by decide +kernel
theorem dX4_mark_57 : decode cX4_mark 57 = .ok (.getfield 16, 3) := by decide +kernel
theorem dX4_mark_60 : decode cX4_mark 60 = .ok (.iload_n 1, 1) := by decide +kernel
theorem dX4_mark_61 : decode cX4_mark 61 = .ok (.iload_n 2, 1) := by decide +kernel
theorem dX4_mark_62 : decode cX4_mark 62 = .ok (.invokevirtual 165, 3) := by decide +kernel
theorem dX4_mark_65 : decode cX4_mark 65 = .ok (.istore 6, 2) := by decide +kernel
theorem dX4_mark_67 : decode cX4_mark 67 = .ok (.iload 6, 2) := by decide +kernel
theorem dX4_mark_69 : decode cX4_mark 69 = .ok (.iload 4, 2) := by decide +kernel
theorem dX4_mark_71 : decode cX4_mark 71 = .ok (.if_icmp .le 10, 3) := by decide +kernel
theorem dX4_mark_74 : decode cX4_mark 74 = .ok (.iload 6, 2) := by decide +kernel
theorem dX4_mark_76 : decode cX4_mark 76 = .ok (.istore 4, 2) := by decide +kernel
theorem dX4_mark_78 : decode cX4_mark 78 = .ok (.iload 5, 2) := by decide +kernel
theorem dX4_mark_80 : decode cX4_mark 80 = .ok (.istore_n 3, 1) := by decide +kernel
theorem dX4_mark_81 : decode cX4_mark 81 = .ok (.iinc 5 1, 3) := by decide +kernel
theorem dX4_mark_84 : decode cX4_mark 84 = .ok (.goto (-49), 3) := by decide +kernel
theorem dX4_mark_87 : decode cX4_mark 87 = .ok (.iload_n 3, 1) := by decide +kernel
theorem dX4_mark_88 : decode cX4_mark 88 = .ok (.ireturn, 1) := by decide +kernel
theorem dX4_kind_0 : decode cX4_kind 0 = .ok (.aload_n 0, 1) := by decide +kernel
theorem dX4_kind_1 : decode cX4_kind 1 = .ok (.getfield 10, 3) := by decide +kernel
theorem dX4_kind_4 : decode cX4_kind 4 = .ok (.iload_n 1, 1) := by decide +kernel
theorem dX4_kind_5 : decode cX4_kind 5 = .ok (.invokevirtual 91, 3) := by decide +kernel
theorem dX4_kind_8 : decode cX4_kind 8 = .ok (.ifCond .eq 13, 3) := by decide +kernel
theorem dX4_kind_11 : decode cX4_kind 11 = .ok (.iload_n 2, 1) := by decide +kernel
theorem dX4_kind_12 : decode cX4_kind 12 = .ok (.iconst 1, 1) := by decide +kernel
theorem dX4_kind_13 : decode cX4_kind 13 = .ok (.bipush 60, 2) := by decide +kernel
theorem dX4_kind_15 : decode cX4_kind 15 = .ok (.invokestatic 53, 3) := by decide +kernel
theorem dX4_kind_18 : decode cX4_kind 18 = .ok (.ifCond .ne 9, 3) := by decide +kernel
theorem dX4_kind_21 : decode cX4_kind 21 = .ok (.aload_n 0, 1) := by decide +kernel
theorem dX4_kind_22 : decode cX4_kind 22 = .ok (.iconst 0, 1) := by decide +kernel
theorem dX4_kind_23 : decode cX4_kind 23 = .ok (.invokevirtual 57, 3) := by decide +kernel
theorem dX4_kind_26 : decode cX4_kind 26 = .ok (.ireturn, 1) := by decide +kernel
theorem dX4_kind_27 : decode cX4_kind 27 = .ok (.iconst 0, 1) := by decide +kernel
theorem dX4_kind_28 : decode cX4_kind 28 = .ok (.istore_n 3, 1) := by decide +kernel
theorem dX4_kind_29 : decode cX4_kind 29 = .ok (.iconst (-1), 1) := by decide +kernel
theorem dX4_kind_30 : decode cX4_kind 30 = .ok (.istore 4, 2) := by decide +kernel
theorem dX4_kind_32 : decode cX4_kind 32 = .ok (.iconst 0, 1) := by decide +kernel
theorem dX4_kind_33 : decode cX4_kind 33 = .ok (.istore 5, 2) := by decide +kernel
theorem dX4_kind_35 : decode cX4_kind 35 = .ok (.iload 5, 2) := by decide +kernel
theorem dX4_kind_37 : decode cX4_kind 37 = .ok (.bipush 6, 2) := by decide +kernel
theorem dX4_kind_39 : decode cX4_kind 39 = .ok (.if_icmp .ge 67, 3) := by decide +kernel
theorem dX4_kind_42 : decode cX4_kind 42 = .ok (.aload_n 0, 1) := by decide +kernel
theorem dX4_kind_43 : decode cX4_kind 43 = .ok (.invokevirtual 159, 3) := by decide +kernel
theorem dX4_kind_46 : decode cX4_kind 46 = .ok (.aload_n 0, 1) := by decide +kernel
theorem dX4_kind_47 : decode cX4_kind 47 = .ok (.getfield 16, 3) := by decide +kernel
theorem dX4_kind_50 : decode cX4_kind 50 = .ok (.getfield 94, 3) := by decide +kernel
theorem dX4_kind_53 : decode cX4_kind 53 = .ok (.iload_n 1, 1) := by decide +kernel
theorem dX4_kind_54 : decode cX4_kind 54 = .ok (.iload 5, 2) := by decide +kernel
theorem dX4_kind_56 : decode cX4_kind 56 = .ok (.iastore, 1) := by decide +kernel
theorem dX4_kind_57 : decode cX4_kind 57 = .ok (.aload_n 0, 1) := by decide +kernel
theorem dX4_kind_58 : decode cX4_kind 58 = .ok (.getfield 16, 3) := by decide +kernel
theorem dX4_kind_61 : decode cX4_kind 61 = .ok (.iload_n 2, 1) := by decide +kernel
theorem dX4_kind_62 : decode cX4_kind 62 = .ok (.invokevirtual 155, 3) := by decide +kernel
theorem dX4_kind_65 : decode cX4_kind 65 = .ok (.aload_n 0, 1) := by decide +kernel
theorem dX4_kind_66 : decode cX4_kind 66 = .ok (.getfield 16, 3) := by decide +kernel
theorem dX4_kind_69 : decode cX4_kind 69 = .ok (.invokevirtual 71, 3) := by decide +kernel
theorem dX4_kind_72 : decode cX4_kind 72 = .ok (.aload_n 0, 1) := by decide +kernel
theorem dX4_kind_73 : decode cX4_kind 73 = .ok (.getfield 16, 3) := by decide +kernel
theorem dX4_kind_76 : decode cX4_kind 76 = .ok (.iload_n 1, 1) := by decide +kernel
theorem dX4_kind_77 : decode cX4_kind 77 = .ok (.invokevirtual 68, 3) := by decide +kernel
theorem dX4_kind_80 : decode cX4_kind 80 = .ok (.iand, 1) := by decide +kernel
theorem dX4_kind_81 : decode cX4_kind 81 = .ok (.invokestatic 168, 3) := by decide +kernel
theorem dX4_kind_84 : decode cX4_kind 84 = .ok (.istore 6, 2) := by decide +kernel
theorem dX4_kind_86 : decode cX4_kind 86 = .ok (.iload 6, 2) := by decide +kernel
theorem dX4_kind_88 : decode cX4_kind 88 = .ok (.iload 4, 2) := by decide +kernel
theorem dX4_kind_90 : decode cX4_kind 90 = .ok (.if_icmp .le 10, 3) := by decide +kernel
theorem dX4_kind_93 : decode cX4_kind 93 = .ok (.iload 6, 2) := by decide +kernel
theorem dX4_kind_95 : decode cX4_kind 95 = .ok (.istore 4, 2) := by decide +kernel
theorem dX4_kind_97 : decode cX4_kind 97 = .ok (.iload 5, 2) := by decide +kernel
theorem dX4_kind_99 : decode cX4_kind 99 = .ok (.istore_n 3, 1) := by decide +kernel
theorem dX4_kind_100 : decode cX4_kind 100 = .ok (.iinc 5 1, 3) := by decide +kernel
theorem dX4_kind_103 : decode cX4_kind 103 = .ok (.goto (-68), 3) := by decide +kernel
theorem dX4_kind_106 : decode cX4_kind 106 = .ok (.iload_n 3, 1) := by decide +kernel
theorem dX4_kind_107 : decode cX4_kind 107 = .ok (.ireturn, 1) := by decide +kernel
theorem dX4_warmest_0 : decode cX4_warmest 0 = .ok (.aload_n 0, 1) := by decide +kernel
theorem dX4_warmest_1 : decode cX4_warmest 1 = .ok (.getfield 10, 3) := by decide +kernel
theorem dX4_warmest_4 : decode cX4_warmest 4 = .ok (.iload_n 1, 1) := by decide +kernel
theorem dX4_warmest_5 : decode cX4_warmest 5 = .ok (.invokevirtual 116, 3) := by decide +kernel
theorem dX4_warmest_8 : decode cX4_warmest 8 = .ok (.ifCond .eq 13, 3) := by decide +kernel
theorem dX4_warmest_11 : decode cX4_warmest 11 = .ok (.iload_n 2, 1) := by decide +kernel
theorem dX4_warmest_12 : decode cX4_warmest 12 = .ok (.iconst 1, 1) := by decide +kernel
theorem dX4_warmest_13 : decode cX4_warmest 13 = .ok (.bipush 40, 2) := by decide +kernel
theorem dX4_warmest_15 : decode cX4_warmest 15 = .ok (.invokestatic 53, 3) := by decide +kernel
theorem dX4_warmest_18 : decode cX4_warmest 18 = .ok (.ifCond .ne 9, 3) := by decide +kernel
theorem dX4_warmest_21 : decode cX4_warmest 21 = .ok (.aload_n 0, 1) := by decide +kernel
theorem dX4_warmest_22 : decode cX4_warmest 22 = .ok (.iconst 0, 1) := by decide +kernel
theorem dX4_warmest_23 : decode cX4_warmest 23 = .ok (.invokevirtual 57, 3) := by decide +kernel
theorem dX4_warmest_26 : decode cX4_warmest 26 = .ok (.ireturn, 1) := by decide +kernel
theorem dX4_warmest_27 : decode cX4_warmest 27 = .ok (.bipush 90, 2) := by decide +kernel
theorem dX4_warmest_29 : decode cX4_warmest 29 = .ok (.istore_n 3, 1) := by decide +kernel
theorem dX4_warmest_30 : decode cX4_warmest 30 = .ok (.iload_n 3, 1) := by decide +kernel
theorem dX4_warmest_31 : decode cX4_warmest 31 = .ok (.bipush 20, 2) := by decide +kernel
theorem dX4_warmest_33 : decode cX4_warmest 33 = .ok (.if_icmp .lt 42, 3) := by decide +kernel
theorem dX4_warmest_36 : decode cX4_warmest 36 = .ok (.aload_n 0, 1) := by decide +kernel
theorem dX4_warmest_37 : decode cX4_warmest 37 = .ok (.invokevirtual 159, 3) := by decide +kernel
theorem dX4_warmest_40 : decode cX4_warmest 40 = .ok (.aload_n 0, 1) := by decide +kernel
theorem dX4_warmest_41 : decode cX4_warmest 41 = .ok (.getfield 16, 3) := by decide +kernel
theorem dX4_warmest_44 : decode cX4_warmest 44 = .ok (.iload_n 3, 1) := by decide +kernel
theorem dX4_warmest_45 : decode cX4_warmest 45 = .ok (.putfield 61, 3) := by decide +kernel
theorem dX4_warmest_48 : decode cX4_warmest 48 = .ok (.aload_n 0, 1) := by decide +kernel
theorem dX4_warmest_49 : decode cX4_warmest 49 = .ok (.getfield 16, 3) := by decide +kernel
theorem dX4_warmest_52 : decode cX4_warmest 52 = .ok (.iload_n 2, 1) := by decide +kernel
theorem dX4_warmest_53 : decode cX4_warmest 53 = .ok (.invokevirtual 155, 3) := by decide +kernel
theorem dX4_warmest_56 : decode cX4_warmest 56 = .ok (.aload_n 0, 1) := by decide +kernel
theorem dX4_warmest_57 : decode cX4_warmest 57 = .ok (.getfield 16, 3) := by decide +kernel
theorem dX4_warmest_60 : decode cX4_warmest 60 = .ok (.iload_n 1, 1) := by decide +kernel
theorem dX4_warmest_61 : decode cX4_warmest 61 = .ok (.invokevirtual 162, 3) := by decide +kernel
theorem dX4_warmest_64 : decode cX4_warmest 64 = .ok (.ifCond .eq 5, 3) := by decide +kernel
theorem dX4_warmest_67 : decode cX4_warmest 67 = .ok (.iload_n 3, 1) := by decide +kernel
theorem dX4_warmest_68 : decode cX4_warmest 68 = .ok (.ireturn, 1) := by decide +kernel
theorem dX4_warmest_69 : decode cX4_warmest 69 = .ok (.iinc 3 (-1), 3) := by decide +kernel
theorem dX4_warmest_72 : decode cX4_warmest 72 = .ok (.goto (-42), 3) := by decide +kernel
theorem dX4_warmest_75 : decode cX4_warmest 75 = .ok (.aload_n 0, 1) := by decide +kernel
theorem dX4_warmest_76 : decode cX4_warmest 76 = .ok (.iconst 3, 1) := by decide +kernel
theorem dX4_warmest_77 : decode cX4_warmest 77 = .ok (.invokevirtual 57, 3) := by decide +kernel
theorem dX4_warmest_80 : decode cX4_warmest 80 = .ok (.ireturn, 1) := by decide +kernel
theorem dX4_plain_0 : decode cX4_plain 0 = .ok (.aload_n 0, 1) := by decide +kernel
theorem dX4_plain_1 : decode cX4_plain 1 = .ok (.getfield 10, 3) := by decide +kernel
theorem dX4_plain_4 : decode cX4_plain 4 = .ok (.iload_n 1, 1) := by decide +kernel
theorem dX4_plain_5 : decode cX4_plain 5 = .ok (.invokevirtual 116, 3) := by decide +kernel
theorem dX4_plain_8 : decode cX4_plain 8 = .ok (.ifCond .eq 13, 3) := by decide +kernel
theorem dX4_plain_11 : decode cX4_plain 11 = .ok (.iload_n 2, 1) := by decide +kernel
theorem dX4_plain_12 : decode cX4_plain 12 = .ok (.iconst 1, 1) := by decide +kernel
theorem dX4_plain_13 : decode cX4_plain 13 = .ok (.bipush 60, 2) := by decide +kernel
theorem dX4_plain_15 : decode cX4_plain 15 = .ok (.invokestatic 53, 3) := by decide +kernel
theorem dX4_plain_18 : decode cX4_plain 18 = .ok (.ifCond .ne 9, 3) := by decide +kernel
theorem dX4_plain_21 : decode cX4_plain 21 = .ok (.aload_n 0, 1) := by decide +kernel
theorem dX4_plain_22 : decode cX4_plain 22 = .ok (.iconst 0, 1) := by decide +kernel
theorem dX4_plain_23 : decode cX4_plain 23 = .ok (.invokevirtual 57, 3) := by decide +kernel
theorem dX4_plain_26 : decode cX4_plain 26 = .ok (.ireturn, 1) := by decide +kernel
theorem dX4_plain_27 : decode cX4_plain 27 = .ok (.iconst 0, 1) := by decide +kernel
theorem dX4_plain_28 : decode cX4_plain 28 = .ok (.istore_n 3, 1) := by decide +kernel
theorem dX4_plain_29 : decode cX4_plain 29 = .ok (.iload_n 3, 1) := by decide +kernel
theorem dX4_plain_30 : decode cX4_plain 30 = .ok (.bipush 99, 2) := by decide +kernel
theorem dX4_plain_32 : decode cX4_plain 32 = .ok (.if_icmp .gt 44, 3) := by decide +kernel
theorem dX4_plain_35 : decode cX4_plain 35 = .ok (.aload_n 0, 1) := by decide +kernel
theorem dX4_plain_36 : decode cX4_plain 36 = .ok (.invokevirtual 159, 3) := by decide +kernel
theorem dX4_plain_39 : decode cX4_plain 39 = .ok (.aload_n 0, 1) := by decide +kernel
theorem dX4_plain_40 : decode cX4_plain 40 = .ok (.getfield 16, 3) := by decide +kernel
theorem dX4_plain_43 : decode cX4_plain 43 = .ok (.getfield 142, 3) := by decide +kernel
theorem dX4_plain_46 : decode cX4_plain 46 = .ok (.iload_n 1, 1) := by decide +kernel
theorem dX4_plain_47 : decode cX4_plain 47 = .ok (.iload_n 3, 1) := by decide +kernel
theorem dX4_plain_48 : decode cX4_plain 48 = .ok (.iastore, 1) := by decide +kernel
theorem dX4_plain_49 : decode cX4_plain 49 = .ok (.aload_n 0, 1) := by decide +kernel
theorem dX4_plain_50 : decode cX4_plain 50 = .ok (.getfield 16, 3) := by decide +kernel
theorem dX4_plain_53 : decode cX4_plain 53 = .ok (.iload_n 2, 1) := by decide +kernel
theorem dX4_plain_54 : decode cX4_plain 54 = .ok (.invokevirtual 155, 3) := by decide +kernel
theorem dX4_plain_57 : decode cX4_plain 57 = .ok (.aload_n 0, 1) := by decide +kernel
theorem dX4_plain_58 : decode cX4_plain 58 = .ok (.getfield 16, 3) := by decide +kernel
theorem dX4_plain_61 : decode cX4_plain 61 = .ok (.iload_n 1, 1) := by decide +kernel
theorem dX4_plain_62 : decode cX4_plain 62 = .ok (.invokevirtual 162, 3) := by decide +kernel
theorem dX4_plain_65 : decode cX4_plain 65 = .ok (.ifCond .eq 5, 3) := by decide +kernel
theorem dX4_plain_68 : decode cX4_plain 68 = .ok (.iload_n 3, 1) := by decide +kernel
theorem dX4_plain_69 : decode cX4_plain 69 = .ok (.ireturn, 1) := by decide +kernel
theorem dX4_plain_70 : decode cX4_plain 70 = .ok (.iinc 3 1, 3) := by decide +kernel
theorem dX4_plain_73 : decode cX4_plain 73 = .ok (.goto (-44), 3) := by decide +kernel
theorem dX4_plain_76 : decode cX4_plain 76 = .ok (.aload_n 0, 1) := by decide +kernel
theorem dX4_plain_77 : decode cX4_plain 77 = .ok (.iconst 3, 1) := by decide +kernel
theorem dX4_plain_78 : decode cX4_plain 78 = .ok (.invokevirtual 57, 3) := by decide +kernel
theorem dX4_plain_81 : decode cX4_plain 81 = .ok (.ireturn, 1) := by decide +kernel
theorem dX4_teach_0 : decode cX4_teach 0 = .ok (.iload_n 1, 1) := by decide +kernel
theorem dX4_teach_1 : decode cX4_teach 1 = .ok (.iconst 1, 1) := by decide +kernel
theorem dX4_teach_2 : decode cX4_teach 2 = .ok (.bipush 60, 2) := by decide +kernel
theorem dX4_teach_4 : decode cX4_teach 4 = .ok (.invokestatic 53, 3) := by decide +kernel
theorem dX4_teach_7 : decode cX4_teach 7 = .ok (.ifCond .ne 9, 3) := by decide +kernel
theorem dX4_teach_10 : decode cX4_teach 10 = .ok (.aload_n 0, 1) := by decide +kernel
theorem dX4_teach_11 : decode cX4_teach 11 = .ok (.iconst 0, 1) := by decide +kernel
theorem dX4_teach_12 : decode cX4_teach 12 = .ok (.invokevirtual 57, 3) := by decide +kernel
theorem dX4_teach_15 : decode cX4_teach 15 = .ok (.ireturn, 1) := by decide +kernel
theorem dX4_teach_16 : decode cX4_teach 16 = .ok (.aload_n 0, 1) := by decide +kernel
theorem dX4_teach_17 : decode cX4_teach 17 = .ok (.getfield 10, 3) := by decide +kernel
theorem dX4_teach_20 : decode cX4_teach 20 = .ok (.getfield 85, 3) := by decide +kernel
theorem dX4_teach_23 : decode cX4_teach 23 = .ok (.ifCond .ne 9, 3) := by decide +kernel
theorem dX4_teach_26 : decode cX4_teach 26 = .ok (.aload_n 0, 1) := by decide +kernel
theorem dX4_teach_27 : decode cX4_teach 27 = .ok (.iconst 3, 1) := by decide +kernel
theorem dX4_teach_28 : decode cX4_teach 28 = .ok (.invokevirtual 57, 3) := by decide +kernel
theorem dX4_teach_31 : decode cX4_teach 31 = .ok (.ireturn, 1) := by decide +kernel
theorem dX4_teach_32 : decode cX4_teach 32 = .ok (.iconst 0, 1) := by decide +kernel
theorem dX4_teach_33 : decode cX4_teach 33 = .ok (.istore_n 2, 1) := by decide +kernel
theorem dX4_teach_34 : decode cX4_teach 34 = .ok (.iconst (-1), 1) := by decide +kernel
theorem dX4_teach_35 : decode cX4_teach 35 = .ok (.istore_n 3, 1) := by decide +kernel
theorem dX4_teach_36 : decode cX4_teach 36 = .ok (.iconst 0, 1) := by decide +kernel
theorem dX4_teach_37 : decode cX4_teach 37 = .ok (.istore 4, 2) := by decide +kernel
theorem dX4_teach_39 : decode cX4_teach 39 = .ok (.iload 4, 2) := by decide +kernel
theorem dX4_teach_41 : decode cX4_teach 41 = .ok (.aload_n 0, 1) := by decide +kernel
theorem dX4_teach_42 : decode cX4_teach 42 = .ok (.getfield 10, 3) := by decide +kernel
theorem dX4_teach_45 : decode cX4_teach 45 = .ok (.getfield 85, 3) := by decide +kernel
theorem dX4_teach_48 : decode cX4_teach 48 = .ok (.if_icmp .ge 56, 3) := by decide +kernel
theorem dX4_teach_51 : decode cX4_teach 51 = .ok (.aload_n 0, 1) := by decide +kernel
theorem dX4_teach_52 : decode cX4_teach 52 = .ok (.invokevirtual 159, 3) := by decide +kernel
theorem dX4_teach_55 : decode cX4_teach 55 = .ok (.aload_n 0, 1) := by decide +kernel
theorem dX4_teach_56 : decode cX4_teach 56 = .ok (.getfield 16, 3) := by decide +kernel
theorem dX4_teach_59 : decode cX4_teach 59 = .ok (.getfield 94, 3) := by decide +kernel
theorem dX4_teach_62 : decode cX4_teach 62 = .ok (.iload 4, 2) := by decide +kernel
theorem dX4_teach_64 : decode cX4_teach 64 = .ok (.iconst 1, 1) := by decide +kernel
theorem dX4_teach_65 : decode cX4_teach 65 = .ok (.iastore, 1) := by decide +kernel
theorem dX4_teach_66 : decode cX4_teach 66 = .ok (.aload_n 0, 1) := by decide +kernel
theorem dX4_teach_67 : decode cX4_teach 67 = .ok (.getfield 16, 3) := by decide +kernel
theorem dX4_teach_70 : decode cX4_teach 70 = .ok (.iload_n 1, 1) := by decide +kernel
theorem dX4_teach_71 : decode cX4_teach 71 = .ok (.invokevirtual 155, 3) := by decide +kernel
theorem dX4_teach_74 : decode cX4_teach 74 = .ok (.aload_n 0, 1) := by decide +kernel
theorem dX4_teach_75 : decode cX4_teach 75 = .ok (.getfield 16, 3) := by decide +kernel
theorem dX4_teach_78 : decode cX4_teach 78 = .ok (.invokevirtual 71, 3) := by decide +kernel
theorem dX4_teach_81 : decode cX4_teach 81 = .ok (.invokestatic 168, 3) := by decide +kernel
theorem dX4_teach_84 : decode cX4_teach 84 = .ok (.istore 5, 2) := by decide +kernel
theorem dX4_teach_86 : decode cX4_teach 86 = .ok (.iload 5, 2) := by decide +kernel
theorem dX4_teach_88 : decode cX4_teach 88 = .ok (.iload_n 3, 1) := by decide +kernel
theorem dX4_teach_89 : decode cX4_teach 89 = .ok (.if_icmp .le 9, 3) := by decide +kernel
theorem dX4_teach_92 : decode cX4_teach 92 = .ok (.iload 5, 2) := by decide +kernel
theorem dX4_teach_94 : decode cX4_teach 94 = .ok (.istore_n 3, 1) := by decide +kernel
theorem dX4_teach_95 : decode cX4_teach 95 = .ok (.iload 4, 2) := by decide +kernel
theorem dX4_teach_97 : decode cX4_teach 97 = .ok (.istore_n 2, 1) := by decide +kernel
theorem dX4_teach_98 : decode cX4_teach 98 = .ok (.iinc 4 1, 3) := by decide +kernel
theorem dX4_teach_101 : decode cX4_teach 101 = .ok (.goto (-62), 3) := by decide +kernel
theorem dX4_teach_104 : decode cX4_teach 104 = .ok (.iload_n 2, 1) := by decide +kernel
theorem dX4_teach_105 : decode cX4_teach 105 = .ok (.ireturn, 1) := by decide +kernel
theorem dX4_best_0 : decode cX4_best 0 = .ok (.iload_n 1, 1) := by decide +kernel
theorem dX4_best_1 : decode cX4_best 1 = .ok (.iconst 0, 1) := by decide +kernel
theorem dX4_best_2 : decode cX4_best 2 = .ok (.bipush 100, 2) := by decide +kernel
theorem dX4_best_4 : decode cX4_best 4 = .ok (.invokestatic 53, 3) := by decide +kernel
theorem dX4_best_7 : decode cX4_best 7 = .ok (.ifCond .ne 9, 3) := by decide +kernel
theorem dX4_best_10 : decode cX4_best 10 = .ok (.aload_n 0, 1) := by decide +kernel
theorem dX4_best_11 : decode cX4_best 11 = .ok (.iconst 0, 1) := by decide +kernel
theorem dX4_best_12 : decode cX4_best 12 = .ok (.invokevirtual 57, 3) := by decide +kernel
theorem dX4_best_15 : decode cX4_best 15 = .ok (.ireturn, 1) := by decide +kernel
theorem dX4_best_16 : decode cX4_best 16 = .ok (.aload_n 0, 1) := by decide +kernel
theorem dX4_best_17 : decode cX4_best 17 = .ok (.getfield 10, 3) := by decide +kernel
theorem dX4_best_20 : decode cX4_best 20 = .ok (.getfield 85, 3) := by decide +kernel
theorem dX4_best_23 : decode cX4_best 23 = .ok (.ifCond .ne 9, 3) := by decide +kernel
theorem dX4_best_26 : decode cX4_best 26 = .ok (.aload_n 0, 1) := by decide +kernel
theorem dX4_best_27 : decode cX4_best 27 = .ok (.iconst 3, 1) := by decide +kernel
theorem dX4_best_28 : decode cX4_best 28 = .ok (.invokevirtual 57, 3) := by decide +kernel
theorem dX4_best_31 : decode cX4_best 31 = .ok (.ireturn, 1) := by decide +kernel
theorem dX4_best_32 : decode cX4_best 32 = .ok (.aload_n 0, 1) := by decide +kernel
theorem dX4_best_33 : decode cX4_best 33 = .ok (.invokevirtual 159, 3) := by decide +kernel
theorem dX4_best_36 : decode cX4_best 36 = .ok (.aload_n 0, 1) := by decide +kernel
theorem dX4_best_37 : decode cX4_best 37 = .ok (.getfield 16, 3) := by decide +kernel
theorem dX4_best_40 : decode cX4_best 40 = .ok (.iload_n 1, 1) := by decide +kernel
theorem dX4_best_41 : decode cX4_best 41 = .ok (.invokevirtual 155, 3) := by decide +kernel
theorem dX4_best_44 : decode cX4_best 44 = .ok (.iconst 0, 1) := by decide +kernel
theorem dX4_best_45 : decode cX4_best 45 = .ok (.istore_n 2, 1) := by decide +kernel
theorem dX4_best_46 : decode cX4_best 46 = .ok (.iconst 1, 1) := by decide +kernel
theorem dX4_best_47 : decode cX4_best 47 = .ok (.istore_n 3, 1) := by decide +kernel
theorem dX4_best_48 : decode cX4_best 48 = .ok (.iload_n 3, 1) := by decide +kernel
theorem dX4_best_49 : decode cX4_best 49 = .ok (.aload_n 0, 1) := by decide +kernel
theorem dX4_best_50 : decode cX4_best 50 = .ok (.getfield 16, 3) := by decide +kernel
theorem dX4_best_53 : decode cX4_best 53 = .ok (.getfield 85, 3) := by decide +kernel
theorem dX4_best_56 : decode cX4_best 56 = .ok (.if_icmp .ge 32, 3) := by decide +kernel
theorem dX4_best_59 : decode cX4_best 59 = .ok (.aload_n 0, 1) := by decide +kernel
theorem dX4_best_60 : decode cX4_best 60 = .ok (.getfield 16, 3) := by decide +kernel
theorem dX4_best_63 : decode cX4_best 63 = .ok (.getfield 100, 3) := by decide +kernel
theorem dX4_best_66 : decode cX4_best 66 = .ok (.iload_n 3, 1) := by decide +kernel
theorem dX4_best_67 : decode cX4_best 67 = .ok (.iaload, 1) := by decide +kernel
theorem dX4_best_68 : decode cX4_best 68 = .ok (.aload_n 0, 1) := by decide +kernel
theorem dX4_best_69 : decode cX4_best 69 = .ok (.getfield 16, 3) := by decide +kernel
theorem dX4_best_72 : decode cX4_best 72 = .ok (.getfield 100, 3) := by decide +kernel
theorem dX4_best_75 : decode cX4_best 75 = .ok (.iload_n 2, 1) := by decide +kernel
theorem dX4_best_76 : decode cX4_best 76 = .ok (.iaload, 1) := by decide +kernel
theorem dX4_best_77 : decode cX4_best 77 = .ok (.if_icmp .le 5, 3) := by decide +kernel
theorem dX4_best_80 : decode cX4_best 80 = .ok (.iload_n 3, 1) := by decide +kernel
theorem dX4_best_81 : decode cX4_best 81 = .ok (.istore_n 2, 1) := by decide +kernel
theorem dX4_best_82 : decode cX4_best 82 = .ok (.iinc 3 1, 3) := by decide +kernel
theorem dX4_best_85 : decode cX4_best 85 = .ok (.goto (-37), 3) := by decide +kernel
theorem dX4_best_88 : decode cX4_best 88 = .ok (.iload_n 2, 1) := by decide +kernel
theorem dX4_best_89 : decode cX4_best 89 = .ok (.ireturn, 1) := by decide +kernel
theorem dX4_feed_0 : decode cX4_feed 0 = .ok (.iload_n 2, 1) := by decide +kernel
theorem dX4_feed_1 : decode cX4_feed 1 = .ok (.iconst 1, 1) := by decide +kernel
theorem dX4_feed_2 : decode cX4_feed 2 = .ok (.iconst 4, 1) := by decide +kernel
theorem dX4_feed_3 : decode cX4_feed 3 = .ok (.invokestatic 53, 3) := by decide +kernel
theorem dX4_feed_6 : decode cX4_feed 6 = .ok (.ifCond .ne 9, 3) := by decide +kernel
theorem dX4_feed_9 : decode cX4_feed 9 = .ok (.aload_n 0, 1) := by decide +kernel
theorem dX4_feed_10 : decode cX4_feed 10 = .ok (.iconst 0, 1) := by decide +kernel
theorem dX4_feed_11 : decode cX4_feed 11 = .ok (.invokevirtual 57, 3) := by decide +kernel
theorem dX4_feed_14 : decode cX4_feed 14 = .ok (.ireturn, 1) := by decide +kernel
theorem dX4_feed_15 : decode cX4_feed 15 = .ok (.aload_n 0, 1) := by decide +kernel
theorem dX4_feed_16 : decode cX4_feed 16 = .ok (.getfield 29, 3) := by decide +kernel
theorem dX4_feed_19 : decode cX4_feed 19 = .ok (.getfield 173, 3) := by decide +kernel
theorem dX4_feed_22 : decode cX4_feed 22 = .ok (.iload_n 2, 1) := by decide +kernel
theorem dX4_feed_23 : decode cX4_feed 23 = .ok (.iadd, 1) := by decide +kernel
theorem dX4_feed_24 : decode cX4_feed 24 = .ok (.bipush 120, 2) := by decide +kernel
theorem dX4_feed_26 : decode cX4_feed 26 = .ok (.if_icmp .le 9, 3) := by decide +kernel
theorem dX4_feed_29 : decode cX4_feed 29 = .ok (.aload_n 0, 1) := by decide +kernel
theorem dX4_feed_30 : decode cX4_feed 30 = .ok (.iconst 1, 1) := by decide +kernel
theorem dX4_feed_31 : decode cX4_feed 31 = .ok (.invokevirtual 57, 3) := by decide +kernel
theorem dX4_feed_34 : decode cX4_feed 34 = .ok (.ireturn, 1) := by decide +kernel
theorem dX4_feed_35 : decode cX4_feed 35 = .ok (.iload_n 2, 1) := by decide +kernel
theorem dX4_feed_36 : decode cX4_feed 36 = .ok (.iconst 1, 1) := by decide +kernel
theorem dX4_feed_37 : decode cX4_feed 37 = .ok (.isub, 1) := by decide +kernel
theorem dX4_feed_38 : decode cX4_feed 38 = .ok (.istore_n 3, 1) := by decide +kernel
theorem dX4_feed_39 : decode cX4_feed 39 = .ok (.iload_n 3, 1) := by decide +kernel
theorem dX4_feed_40 : decode cX4_feed 40 = .ok (.ifCond .lt 26, 3) := by decide +kernel
theorem dX4_feed_43 : decode cX4_feed 43 = .ok (.aload_n 0, 1) := by decide +kernel
theorem dX4_feed_44 : decode cX4_feed 44 = .ok (.getfield 29, 3) := by decide +kernel
theorem dX4_feed_47 : decode cX4_feed 47 = .ok (.iload_n 1, 1) := by decide +kernel
theorem dX4_feed_48 : decode cX4_feed 48 = .ok (.bipush 8, 2) := by decide +kernel
theorem dX4_feed_50 : decode cX4_feed 50 = .ok (.iload_n 3, 1) := by decide +kernel
theorem dX4_feed_51 : decode cX4_feed 51 = .ok (.imul, 1) := by decide +kernel
theorem dX4_feed_52 : decode cX4_feed 52 = .ok (.ishr, 1) := by decide +kernel
theorem dX4_feed_53 : decode cX4_feed 53 = .ok (.sipush 255, 3) := by decide +kernel
theorem dX4_feed_56 : decode cX4_feed 56 = .ok (.iand, 1) := by decide +kernel
theorem dX4_feed_57 : decode cX4_feed 57 = .ok (.invokevirtual 176, 3) := by decide +kernel
theorem dX4_feed_60 : decode cX4_feed 60 = .ok (.iinc 3 (-1), 3) := by decide +kernel
theorem dX4_feed_63 : decode cX4_feed 63 = .ok (.goto (-24), 3) := by decide +kernel
theorem dX4_feed_66 : decode cX4_feed 66 = .ok (.aload_n 0, 1) := by decide +kernel
theorem dX4_feed_67 : decode cX4_feed 67 = .ok (.getfield 29, 3) := by decide +kernel
theorem dX4_feed_70 : decode cX4_feed 70 = .ok (.getfield 173, 3) := by decide +kernel
theorem dX4_feed_73 : decode cX4_feed 73 = .ok (.ireturn, 1) := by decide +kernel
theorem dX4_wipe_0 : decode cX4_wipe 0 = .ok (.aload_n 0, 1) := by decide +kernel
theorem dX4_wipe_1 : decode cX4_wipe 1 = .ok (.getfield 29, 3) := by decide +kernel
theorem dX4_wipe_4 : decode cX4_wipe 4 = .ok (.getfield 173, 3) := by decide +kernel
theorem dX4_wipe_7 : decode cX4_wipe 7 = .ok (.istore_n 1, 1) := by decide +kernel
theorem dX4_wipe_8 : decode cX4_wipe 8 = .ok (.aload_n 0, 1) := by decide +kernel
theorem dX4_wipe_9 : decode cX4_wipe 9 = .ok (.getfield 29, 3) := by decide +kernel
theorem dX4_wipe_12 : decode cX4_wipe 12 = .ok (.invokevirtual 179, 3) := by decide +kernel
theorem dX4_wipe_15 : decode cX4_wipe 15 = .ok (.iload_n 1, 1) := by decide +kernel
theorem dX4_wipe_16 : decode cX4_wipe 16 = .ok (.ireturn, 1) := by decide +kernel
theorem dX4_home_0 : decode cX4_home 0 = .ok (.aload_n 0, 1) := by decide +kernel
theorem dX4_home_1 : decode cX4_home 1 = .ok (.invokevirtual 159, 3) := by decide +kernel
theorem dX4_home_4 : decode cX4_home 4 = .ok (.aload_n 0, 1) := by decide +kernel
theorem dX4_home_5 : decode cX4_home 5 = .ok (.getfield 38, 3) := by decide +kernel
theorem dX4_home_8 : decode cX4_home 8 = .ok (.invokevirtual 182, 3) := by decide +kernel
theorem dX4_home_11 : decode cX4_home 11 = .ok (.istore_n 1, 1) := by decide +kernel
theorem dX4_home_12 : decode cX4_home 12 = .ok (.aload_n 0, 1) := by decide +kernel
theorem dX4_home_13 : decode cX4_home 13 = .ok (.getfield 29, 3) := by decide +kernel
theorem dX4_home_16 : decode cX4_home 16 = .ok (.getfield 186, 3) := by decide +kernel
theorem dX4_home_19 : decode cX4_home 19 = .ok (.istore_n 2, 1) := by decide +kernel
theorem dX4_home_20 : decode cX4_home 20 = .ok (.aload_n 0, 1) := by decide +kernel
theorem dX4_home_21 : decode cX4_home 21 = .ok (.getfield 29, 3) := by decide +kernel
theorem dX4_home_24 : decode cX4_home 24 = .ok (.invokevirtual 179, 3) := by decide +kernel
theorem dX4_home_27 : decode cX4_home 27 = .ok (.iload_n 1, 1) := by decide +kernel
theorem dX4_home_28 : decode cX4_home 28 = .ok (.ifCond .ne 7, 3) := by decide +kernel
theorem dX4_home_31 : decode cX4_home 31 = .ok (.iconst (-1), 1) := by decide +kernel
theorem dX4_home_32 : decode cX4_home 32 = .ok (.iload_n 2, 1) := by decide +kernel
theorem dX4_home_33 : decode cX4_home 33 = .ok (.isub, 1) := by decide +kernel
theorem dX4_home_34 : decode cX4_home 34 = .ok (.ireturn, 1) := by decide +kernel
theorem dX4_home_35 : decode cX4_home 35 = .ok (.aload_n 0, 1) := by decide +kernel
theorem dX4_home_36 : decode cX4_home 36 = .ok (.getfield 10, 3) := by decide +kernel
theorem dX4_home_39 : decode cX4_home 39 = .ok (.aload_n 0, 1) := by decide +kernel
theorem dX4_home_40 : decode cX4_home 40 = .ok (.getfield 16, 3) := by decide +kernel
theorem dX4_home_43 : decode cX4_home 43 = .ok (.invokevirtual 189, 3) := by decide +kernel
theorem dX4_home_46 : decode cX4_home 46 = .ok (.aload_n 0, 1) := by decide +kernel
theorem dX4_home_47 : decode cX4_home 47 = .ok (.getfield 38, 3) := by decide +kernel
theorem dX4_home_50 : decode cX4_home 50 = .ok (.getfield 193, 3) := by decide +kernel
theorem dX4_home_53 : decode cX4_home 53 = .ok (.ireturn, 1) := by decide +kernel
theorem dX4_sheet_0 : decode cX4_sheet 0 = .ok (.iload_n 1, 1) := by decide +kernel
theorem dX4_sheet_1 : decode cX4_sheet 1 = .ok (.invokestatic 196, 3) := by decide +kernel
theorem dX4_sheet_4 : decode cX4_sheet 4 = .ok (.ifCond .eq 25, 3) := by decide +kernel
theorem dX4_sheet_7 : decode cX4_sheet 7 = .ok (.iload_n 2, 1) := by decide +kernel
theorem dX4_sheet_8 : decode cX4_sheet 8 = .ok (.ifCond .eq 27, 3) := by decide +kernel
theorem dX4_sheet_11 : decode cX4_sheet 11 = .ok (.iload_n 2, 1) := by decide +kernel
theorem dX4_sheet_12 : decode cX4_sheet 12 = .ok (.bipush 8, 2) := by decide +kernel
theorem dX4_sheet_14 : decode cX4_sheet 14 = .ok (.if_icmp .eq 21, 3) := by decide +kernel
theorem dX4_sheet_17 : decode cX4_sheet 17 = .ok (.iload_n 2, 1) := by decide +kernel
theorem dX4_sheet_18 : decode cX4_sheet 18 = .ok (.bipush 16, 2) := by decide +kernel
theorem dX4_sheet_20 : decode cX4_sheet 20 = .ok (.if_icmp .eq 15, 3) := by decide +kernel
theorem dX4_sheet_23 : decode cX4_sheet 23 = .ok (.iload_n 2, 1) := by decide +kernel
theorem dX4_sheet_24 : decode cX4_sheet 24 = .ok (.bipush 64, 2) := by decide +kernel
theorem dX4_sheet_26 : decode cX4_sheet 26 = .ok (.if_icmp .eq 9, 3) := by decide +kernel
theorem dX4_sheet_29 : decode cX4_sheet 29 = .ok (.aload_n 0, 1) := by decide +kernel
theorem dX4_sheet_30 : decode cX4_sheet 30 = .ok (.iconst 0, 1) := by decide +kernel
theorem dX4_sheet_31 : decode cX4_sheet 31 = .ok (.invokevirtual 57, 3) := by decide +kernel
theorem dX4_sheet_34 : decode cX4_sheet 34 = .ok (.ireturn, 1) := by decide +kernel
theorem dX4_sheet_35 : decode cX4_sheet 35 = .ok (.iload_n 3, 1) := by decide +kernel
theorem dX4_sheet_36 : decode cX4_sheet 36 = .ok (.ifCond .ge 10, 3) := by decide +kernel
theorem dX4_sheet_39 : decode cX4_sheet 39 = .ok (.aload_n 0, 1) := by decide +kernel
theorem dX4_sheet_40 : decode cX4_sheet 40 = .ok (.bipush 6, 2) := by decide +kernel
theorem dX4_sheet_42 : decode cX4_sheet 42 = .ok (.invokevirtual 57, 3) := by decide +kernel
theorem dX4_sheet_45 : decode cX4_sheet 45 = .ok (.ireturn, 1) := by decide +kernel
theorem dX4_sheet_46 : decode cX4_sheet 46 = .ok (.iload_n 3, 1) := by decide +kernel
theorem dX4_sheet_47 : decode cX4_sheet 47 = .ok (.bipush 40, 2) := by decide +kernel
theorem dX4_sheet_49 : decode cX4_sheet 49 = .ok (.if_icmp .le 9, 3) := by decide +kernel
theorem dX4_sheet_52 : decode cX4_sheet 52 = .ok (.aload_n 0, 1) := by decide +kernel
theorem dX4_sheet_53 : decode cX4_sheet 53 = .ok (.iconst 0, 1) := by decide +kernel
theorem dX4_sheet_54 : decode cX4_sheet 54 = .ok (.invokevirtual 57, 3) := by decide +kernel
theorem dX4_sheet_57 : decode cX4_sheet 57 = .ok (.ireturn, 1) := by decide +kernel
theorem dX4_sheet_58 : decode cX4_sheet 58 = .ok (.aload_n 0, 1) := by decide +kernel
theorem dX4_sheet_59 : decode cX4_sheet 59 = .ok (.getfield 44, 3) := by decide +kernel
theorem dX4_sheet_62 : decode cX4_sheet 62 = .ok (.iload_n 1, 1) := by decide +kernel
theorem dX4_sheet_63 : decode cX4_sheet 63 = .ok (.aaload, 1) := by decide +kernel
theorem dX4_sheet_64 : decode cX4_sheet 64 = .ok (.iload_n 2, 1) := by decide +kernel
theorem dX4_sheet_65 : decode cX4_sheet 65 = .ok (.iload_n 3, 1) := by decide +kernel
theorem dX4_sheet_66 : decode cX4_sheet 66 = .ok (.invokevirtual 199, 3) := by decide +kernel
theorem dX4_sheet_69 : decode cX4_sheet 69 = .ok (.aload_n 0, 1) := by decide +kernel
theorem dX4_sheet_70 : decode cX4_sheet 70 = .ok (.getfield 44, 3) := by decide +kernel
theorem dX4_sheet_73 : decode cX4_sheet 73 = .ok (.iload_n 1, 1) := by decide +kernel
theorem dX4_sheet_74 : decode cX4_sheet 74 = .ok (.aaload, 1) := by decide +kernel
theorem dX4_sheet_75 : decode cX4_sheet 75 = .ok (.getfield 203, 3) := by decide +kernel
theorem dX4_sheet_78 : decode cX4_sheet 78 = .ok (.ireturn, 1) := by decide +kernel
theorem dX4_write_0 : decode cX4_write 0 = .ok (.aload_n 0, 1) := by decide +kernel
theorem dX4_write_1 : decode cX4_write 1 = .ok (.iload_n 1, 1) := by decide +kernel
theorem dX4_write_2 : decode cX4_write 2 = .ok (.invokevirtual 204, 3) := by decide +kernel
theorem dX4_write_5 : decode cX4_write 5 = .ok (.istore 5, 2) := by decide +kernel
theorem dX4_write_7 : decode cX4_write 7 = .ok (.iload 5, 2) := by decide +kernel
theorem dX4_write_9 : decode cX4_write 9 = .ok (.ifCond .eq 7, 3) := by decide +kernel
theorem dX4_write_12 : decode cX4_write 12 = .ok (.iload 5, 2) := by decide +kernel
theorem dX4_write_14 : decode cX4_write 14 = .ok (.i2l, 1) := by decide +kernel
theorem dX4_write_15 : decode cX4_write 15 = .ok (.lreturn, 1) := by decide +kernel
theorem dX4_write_16 : decode cX4_write 16 = .ok (.iload_n 2, 1) := by decide +kernel
theorem dX4_write_17 : decode cX4_write 17 = .ok (.iconst 0, 1) := by decide +kernel
theorem dX4_write_18 : decode cX4_write 18 = .ok (.aload_n 0, 1) := by decide +kernel
theorem dX4_write_19 : decode cX4_write 19 = .ok (.getfield 44, 3) := by decide +kernel
theorem dX4_write_22 : decode cX4_write 22 = .ok (.iload_n 1, 1) := by decide +kernel
theorem dX4_write_23 : decode cX4_write 23 = .ok (.aaload, 1) := by decide +kernel
theorem dX4_write_24 : decode cX4_write 24 = .ok (.getfield 203, 3) := by decide +kernel
theorem dX4_write_27 : decode cX4_write 27 = .ok (.iconst 1, 1) := by decide +kernel
theorem dX4_write_28 : decode cX4_write 28 = .ok (.isub, 1) := by decide +kernel
theorem dX4_write_29 : decode cX4_write 29 = .ok (.invokestatic 53, 3) := by decide +kernel
theorem dX4_write_32 : decode cX4_write 32 = .ok (.ifCond .ne 10, 3) := by decide +kernel
theorem dX4_write_35 : decode cX4_write 35 = .ok (.aload_n 0, 1) := by decide +kernel
theorem dX4_write_36 : decode cX4_write 36 = .ok (.iconst 0, 1) := by decide +kernel
theorem dX4_write_37 : decode cX4_write 37 = .ok (.invokevirtual 57, 3) := by decide +kernel
theorem dX4_write_40 : decode cX4_write 40 = .ok (.i2l, 1) := by decide +kernel
theorem dX4_write_41 : decode cX4_write 41 = .ok (.lreturn, 1) := by decide +kernel
theorem dX4_write_42 : decode cX4_write 42 = .ok (.aload_n 0, 1) := by decide +kernel
theorem dX4_write_43 : decode cX4_write 43 = .ok (.getfield 44, 3) := by decide +kernel
theorem dX4_write_46 : decode cX4_write 46 = .ok (.iload_n 1, 1) := by decide +kernel
theorem dX4_write_47 : decode cX4_write 47 = .ok (.aaload, 1) := by decide +kernel
theorem dX4_write_48 : decode cX4_write 48 = .ok (.getfield 207, 3) := by decide +kernel
theorem dX4_write_51 : decode cX4_write 51 = .ok (.iload_n 2, 1) := by decide +kernel
theorem dX4_write_52 : decode cX4_write 52 = .ok (.laload, 1) := by decide +kernel
theorem dX4_write_53 : decode cX4_write 53 = .ok (.lstore 6, 2) := by decide +kernel
theorem dX4_write_55 : decode cX4_write 55 = .ok (.aload_n 0, 1) := by decide +kernel
theorem dX4_write_56 : decode cX4_write 56 = .ok (.getfield 44, 3) := by decide +kernel
theorem dX4_write_59 : decode cX4_write 59 = .ok (.iload_n 1, 1) := by decide +kernel
theorem dX4_write_60 : decode cX4_write 60 = .ok (.aaload, 1) := by decide +kernel
theorem dX4_write_61 : decode cX4_write 61 = .ok (.iload_n 2, 1) := by decide +kernel
theorem dX4_write_62 : decode cX4_write 62 = .ok (.lload_n 3, 1) := by decide +kernel
theorem dX4_write_63 : decode cX4_write 63 = .ok (.invokevirtual 211, 3) := by decide +kernel
theorem dX4_write_66 : decode cX4_write 66 = .ok (.lload 6, 2) := by decide +kernel
theorem dX4_write_68 : decode cX4_write 68 = .ok (.lreturn, 1) := by decide +kernel
theorem dX4_copy_0 : decode cX4_copy 0 = .ok (.iload_n 1, 1) := by decide +kernel
theorem dX4_copy_1 : decode cX4_copy 1 = .ok (.invokestatic 196, 3) := by decide +kernel
theorem dX4_copy_4 : decode cX4_copy 4 = .ok (.ifCond .eq 10, 3) := by decide +kernel
theorem dX4_copy_7 : decode cX4_copy 7 = .ok (.iload_n 3, 1) := by decide +kernel
theorem dX4_copy_8 : decode cX4_copy 8 = .ok (.invokestatic 196, 3) := by decide +kernel
theorem dX4_copy_11 : decode cX4_copy 11 = .ok (.ifCond .ne 9, 3) := by decide +kernel
theorem dX4_copy_14 : decode cX4_copy 14 = .ok (.aload_n 0, 1) := by decide +kernel
theorem dX4_copy_15 : decode cX4_copy 15 = .ok (.iconst 0, 1) := by decide +kernel
theorem dX4_copy_16 : decode cX4_copy 16 = .ok (.invokevirtual 57, 3) := by decide +kernel
theorem dX4_copy_19 : decode cX4_copy 19 = .ok (.ireturn, 1) := by decide +kernel
theorem dX4_copy_20 : decode cX4_copy 20 = .ok (.aload_n 0, 1) := by decide +kernel
theorem dX4_copy_21 : decode cX4_copy 21 = .ok (.getfield 44, 3) := by decide +kernel
theorem dX4_copy_24 : decode cX4_copy 24 = .ok (.iload_n 1, 1) := by decide +kernel
theorem dX4_copy_25 : decode cX4_copy 25 = .ok (.aaload, 1) := by decide +kernel
theorem dX4_copy_26 : decode cX4_copy 26 = .ok (.astore 6, 2) := by decide +kernel
theorem dX4_copy_28 : decode cX4_copy 28 = .ok (.aload_n 0, 1) := by decide +kernel
theorem dX4_copy_29 : decode cX4_copy 29 = .ok (.getfield 44, 3) := by decide +kernel
theorem dX4_copy_32 : decode cX4_copy 32 = .ok (.iload_n 3, 1) := by decide +kernel
theorem dX4_copy_33 : decode cX4_copy 33 = .ok (.aaload, 1) := by decide +kernel
theorem dX4_copy_34 : decode cX4_copy 34 = .ok (.astore 7, 2) := by decide +kernel
theorem dX4_copy_36 : decode cX4_copy 36 = .ok (.aload 6, 2) := by decide +kernel
theorem dX4_copy_38 : decode cX4_copy 38 = .ok (.invokevirtual 215, 3) := by decide +kernel
theorem dX4_copy_41 : decode cX4_copy 41 = .ok (.ifCond .ne 11, 3) := by decide +kernel
theorem dX4_copy_44 : decode cX4_copy 44 = .ok (.aload 7, 2) := by decide +kernel
theorem dX4_copy_46 : decode cX4_copy 46 = .ok (.invokevirtual 215, 3) := by decide +kernel
theorem dX4_copy_49 : decode cX4_copy 49 = .ok (.ifCond .eq 9, 3) := by decide +kernel
theorem dX4_copy_52 : decode cX4_copy 52 = .ok (.aload_n 0, 1) := by decide +kernel
theorem dX4_copy_53 : decode cX4_copy 53 = .ok (.iconst 5, 1) := by decide +kernel
theorem dX4_copy_54 : decode cX4_copy 54 = .ok (.invokevirtual 57, 3) := by decide +kernel
theorem dX4_copy_57 : decode cX4_copy 57 = .ok (.ireturn, 1) := by decide +kernel
theorem dX4_copy_58 : decode cX4_copy 58 = .ok (.aload 6, 2) := by decide +kernel
theorem dX4_copy_60 : decode cX4_copy 60 = .ok (.getfield 218, 3) := by decide +kernel
theorem dX4_copy_63 : decode cX4_copy 63 = .ok (.aload 7, 2) := by decide +kernel
theorem dX4_copy_65 : decode cX4_copy 65 = .ok (.getfield 218, 3) := by decide +kernel
theorem dX4_copy_68 : decode cX4_copy 68 = .ok (.if_icmp .eq 9, 3) := by decide +kernel
theorem dX4_copy_71 : decode cX4_copy 71 = .ok (.aload_n 0, 1) := by decide +kernel
theorem dX4_copy_72 : decode cX4_copy 72 = .ok (.iconst 2, 1) := by decide +kernel
theorem dX4_copy_73 : decode cX4_copy 73 = .ok (.invokevirtual 57, 3) := by decide +kernel
theorem dX4_copy_76 : decode cX4_copy 76 = .ok (.ireturn, 1) := by decide +kernel
theorem dX4_copy_77 : decode cX4_copy 77 = .ok (.aload 6, 2) := by decide +kernel
theorem dX4_copy_79 : decode cX4_copy 79 = .ok (.iload_n 2, 1) := by decide +kernel
theorem dX4_copy_80 : decode cX4_copy 80 = .ok (.iload 5, 2) := by decide +kernel
theorem dX4_copy_82 : decode cX4_copy 82 = .ok (.invokevirtual 221, 3) := by decide +kernel
theorem dX4_copy_85 : decode cX4_copy 85 = .ok (.ifCond .eq 15, 3) := by decide +kernel
theorem dX4_copy_88 : decode cX4_copy 88 = .ok (.aload 7, 2) := by decide +kernel
theorem dX4_copy_90 : decode cX4_copy 90 = .ok (.iload 4, 2) := by decide +kernel
theorem dX4_copy_92 : decode cX4_copy 92 = .ok (.iload 5, 2) := by decide +kernel
theorem dX4_copy_94 : decode cX4_copy 94 = .ok (.invokevirtual 221, 3) := by decide +kernel
theorem dX4_copy_97 : decode cX4_copy 97 = .ok (.ifCond .ne 9, 3) := by decide +kernel
theorem dX4_copy_100 : decode cX4_copy 100 = .ok (.aload_n 0, 1) := by decide +kernel
theorem dX4_copy_101 : decode cX4_copy 101 = .ok (.iconst 0, 1) := by decide +kernel
theorem dX4_copy_102 : decode cX4_copy 102 = .ok (.invokevirtual 57, 3) := by decide +kernel
theorem dX4_copy_105 : decode cX4_copy 105 = .ok (.ireturn, 1) := by decide +kernel
theorem dX4_copy_106 : decode cX4_copy 106 = .ok (.aload 6, 2) := by decide +kernel
theorem dX4_copy_108 : decode cX4_copy 108 = .ok (.getfield 207, 3) := by decide +kernel
theorem dX4_copy_111 : decode cX4_copy 111 = .ok (.iload_n 2, 1) := by decide +kernel
theorem dX4_copy_112 : decode cX4_copy 112 = .ok (.aload 7, 2) := by decide +kernel
theorem dX4_copy_114 : decode cX4_copy 114 = .ok (.getfield 207, 3) := by decide +kernel
theorem dX4_copy_117 : decode cX4_copy 117 = .ok (.iload 4, 2) := by decide +kernel
theorem dX4_copy_119 : decode cX4_copy 119 = .ok (.iload 5, 2) := by decide +kernel
theorem dX4_copy_121 : decode cX4_copy 121 = .ok (.invokestatic 224, 3) := by decide +kernel
theorem dX4_copy_124 : decode cX4_copy 124 = .ok (.iload 5, 2) := by decide +kernel
theorem dX4_copy_126 : decode cX4_copy 126 = .ok (.ireturn, 1) := by decide +kernel
theorem dX4_lays_0 : decode cX4_lays 0 = .ok (.aload_n 0, 1) := by decide +kernel
theorem dX4_lays_1 : decode cX4_lays 1 = .ok (.iload_n 1, 1) := by decide +kernel
theorem dX4_lays_2 : decode cX4_lays 2 = .ok (.invokevirtual 204, 3) := by decide +kernel
theorem dX4_lays_5 : decode cX4_lays 5 = .ok (.istore_n 2, 1) := by decide +kernel
theorem dX4_lays_6 : decode cX4_lays 6 = .ok (.iload_n 2, 1) := by decide +kernel
theorem dX4_lays_7 : decode cX4_lays 7 = .ok (.ifCond .eq 5, 3) := by decide +kernel
theorem dX4_lays_10 : decode cX4_lays 10 = .ok (.iload_n 2, 1) := by decide +kernel
theorem dX4_lays_11 : decode cX4_lays 11 = .ok (.ireturn, 1) := by decide +kernel
theorem dX4_lays_12 : decode cX4_lays 12 = .ok (.iconst 0, 1) := by decide +kernel
theorem dX4_lays_13 : decode cX4_lays 13 = .ok (.istore_n 3, 1) := by decide +kernel
theorem dX4_lays_14 : decode cX4_lays 14 = .ok (.iconst 0, 1) := by decide +kernel
theorem dX4_lays_15 : decode cX4_lays 15 = .ok (.istore 4, 2) := by decide +kernel
theorem dX4_lays_17 : decode cX4_lays 17 = .ok (.iload 4, 2) := by decide +kernel
theorem dX4_lays_19 : decode cX4_lays 19 = .ok (.aload_n 0, 1) := by decide +kernel
theorem dX4_lays_20 : decode cX4_lays 20 = .ok (.getfield 44, 3) := by decide +kernel
theorem dX4_lays_23 : decode cX4_lays 23 = .ok (.iload_n 1, 1) := by decide +kernel
theorem dX4_lays_24 : decode cX4_lays 24 = .ok (.aaload, 1) := by decide +kernel
theorem dX4_lays_25 : decode cX4_lays 25 = .ok (.getfield 203, 3) := by decide +kernel
theorem dX4_lays_28 : decode cX4_lays 28 = .ok (.if_icmp .ge 67, 3) := by decide +kernel
theorem dX4_lays_31 : decode cX4_lays 31 = .ok (.iload 4, 2) := by decide +kernel
theorem dX4_lays_33 : decode cX4_lays 33 = .ok (.aload_n 0, 1) := by decide +kernel
theorem dX4_lays_34 : decode cX4_lays 34 = .ok (.getfield 10, 3) := by decide +kernel
theorem dX4_lays_37 : decode cX4_lays 37 = .ok (.getfield 129, 3) := by decide +kernel
theorem dX4_lays_40 : decode cX4_lays 40 = .ok (.if_icmp .ge 55, 3) := by decide +kernel
theorem dX4_lays_43 : decode cX4_lays 43 = .ok (.aload_n 0, 1) := by decide +kernel
theorem dX4_lays_44 : decode cX4_lays 44 = .ok (.getfield 44, 3) := by decide +kernel
theorem dX4_lays_47 : decode cX4_lays 47 = .ok (.iload_n 1, 1) := by decide +kernel
theorem dX4_lays_48 : decode cX4_lays 48 = .ok (.aaload, 1) := by decide +kernel
theorem dX4_lays_49 : decode cX4_lays 49 = .ok (.getfield 207, 3) := by decide +kernel
theorem dX4_lays_52 : decode cX4_lays 52 = .ok (.iload 4, 2) := by decide +kernel
theorem dX4_lays_54 : decode cX4_lays 54 = .ok (.laload, 1) := by decide +kernel
theorem dX4_lays_55 : decode cX4_lays 55 = .ok (.lstore 5, 2) := by decide +kernel
theorem dX4_lays_57 : decode cX4_lays 57 = .ok (.lload 5, 2) := by decide +kernel
theorem dX4_lays_59 : decode cX4_lays 59 = .ok (.lconst 0, 1) := by decide +kernel
theorem dX4_lays_60 : decode cX4_lays 60 = .ok (.lcmp, 1) := by decide +kernel
theorem dX4_lays_61 : decode cX4_lays 61 = .ok (.ifCond .lt 28, 3) := by decide +kernel
theorem dX4_lays_64 : decode cX4_lays 64 = .ok (.lload 5, 2) := by decide +kernel
theorem dX4_lays_66 : decode cX4_lays 66 = .ok (.ldc2_w 230, 3) := by decide +kernel
theorem dX4_lays_69 : decode cX4_lays 69 = .ok (.lcmp, 1) := by decide +kernel
theorem dX4_lays_70 : decode cX4_lays 70 = .ok (.ifCond .gt 19, 3) := by decide +kernel
theorem dX4_lays_73 : decode cX4_lays 73 = .ok (.aload_n 0, 1) := by decide +kernel
theorem dX4_lays_74 : decode cX4_lays 74 = .ok (.getfield 10, 3) := by decide +kernel
theorem dX4_lays_77 : decode cX4_lays 77 = .ok (.getfield 142, 3) := by decide +kernel
theorem dX4_lays_80 : decode cX4_lays 80 = .ok (.iload 4, 2) := by decide +kernel
theorem dX4_lays_82 : decode cX4_lays 82 = .ok (.lload 5, 2) := by decide +kernel
theorem dX4_lays_84 : decode cX4_lays 84 = .ok (.l2i, 1) := by decide +kernel
theorem dX4_lays_85 : decode cX4_lays 85 = .ok (.iastore, 1) := by decide +kernel
theorem dX4_lays_86 : decode cX4_lays 86 = .ok (.iinc 3 1, 3) := by decide +kernel
theorem dX4_lays_89 : decode cX4_lays 89 = .ok (.iinc 4 1, 3) := by decide +kernel
theorem dX4_lays_92 : decode cX4_lays 92 = .ok (.goto (-75), 3) := by decide +kernel
theorem dX4_lays_95 : decode cX4_lays 95 = .ok (.iload_n 3, 1) := by decide +kernel
theorem dX4_lays_96 : decode cX4_lays 96 = .ok (.ireturn, 1) := by decide +kernel
theorem dX4_book_0 : decode cX4_book 0 = .ok (.aload_n 0, 1) := by decide +kernel
theorem dX4_book_1 : decode cX4_book 1 = .ok (.iload_n 1, 1) := by decide +kernel
theorem dX4_book_2 : decode cX4_book 2 = .ok (.invokevirtual 204, 3) := by decide +kernel
theorem dX4_book_5 : decode cX4_book 5 = .ok (.istore_n 3, 1) := by decide +kernel
theorem dX4_book_6 : decode cX4_book 6 = .ok (.iload_n 3, 1) := by decide +kernel
theorem dX4_book_7 : decode cX4_book 7 = .ok (.ifCond .eq 5, 3) := by decide +kernel
theorem dX4_book_10 : decode cX4_book 10 = .ok (.iload_n 3, 1) := by decide +kernel
theorem dX4_book_11 : decode cX4_book 11 = .ok (.ireturn, 1) := by decide +kernel
theorem dX4_book_12 : decode cX4_book 12 = .ok (.aload_n 0, 1) := by decide +kernel
theorem dX4_book_13 : decode cX4_book 13 = .ok (.getfield 10, 3) := by decide +kernel
theorem dX4_book_16 : decode cX4_book 16 = .ok (.iload_n 2, 1) := by decide +kernel
theorem dX4_book_17 : decode cX4_book 17 = .ok (.invokevirtual 116, 3) := by decide +kernel
theorem dX4_book_20 : decode cX4_book 20 = .ok (.ifCond .ne 9, 3) := by decide +kernel
theorem dX4_book_23 : decode cX4_book 23 = .ok (.aload_n 0, 1) := by decide +kernel
theorem dX4_book_24 : decode cX4_book 24 = .ok (.iconst 0, 1) := by decide +kernel
theorem dX4_book_25 : decode cX4_book 25 = .ok (.invokevirtual 57, 3) := by decide +kernel
theorem dX4_book_28 : decode cX4_book 28 = .ok (.ireturn, 1) := by decide +kernel
theorem dX4_book_29 : decode cX4_book 29 = .ok (.aload_n 0, 1) := by decide +kernel
theorem dX4_book_30 : decode cX4_book 30 = .ok (.invokevirtual 159, 3) := by decide +kernel
theorem dX4_book_33 : decode cX4_book 33 = .ok (.iconst 0, 1) := by decide +kernel
theorem dX4_book_34 : decode cX4_book 34 = .ok (.istore 4, 2) := by decide +kernel
theorem dX4_book_36 : decode cX4_book 36 = .ok (.iload 4, 2) := by decide +kernel
theorem dX4_book_38 : decode cX4_book 38 = .ok (.aload_n 0, 1) := by decide +kernel
theorem dX4_book_39 : decode cX4_book 39 = .ok (.getfield 44, 3) := by decide +kernel
theorem dX4_book_42 : decode cX4_book 42 = .ok (.iload_n 1, 1) := by decide +kernel
theorem dX4_book_43 : decode cX4_book 43 = .ok (.aaload, 1) := by decide +kernel
theorem dX4_book_44 : decode cX4_book 44 = .ok (.getfield 203, 3) := by decide +kernel
theorem dX4_book_47 : decode cX4_book 47 = .ok (.if_icmp .ge 38, 3) := by decide +kernel
theorem dX4_book_50 : decode cX4_book 50 = .ok (.aload_n 0, 1) := by decide +kernel
theorem dX4_book_51 : decode cX4_book 51 = .ok (.getfield 44, 3) := by decide +kernel
theorem dX4_book_54 : decode cX4_book 54 = .ok (.iload_n 1, 1) := by decide +kernel
theorem dX4_book_55 : decode cX4_book 55 = .ok (.aaload, 1) := by decide +kernel
theorem dX4_book_56 : decode cX4_book 56 = .ok (.iload 4, 2) := by decide +kernel
theorem dX4_book_58 : decode cX4_book 58 = .ok (.aload_n 0, 1) := by decide +kernel
theorem dX4_book_59 : decode cX4_book 59 = .ok (.getfield 16, 3) := by decide +kernel
theorem dX4_book_62 : decode cX4_book 62 = .ok (.getfield 145, 3) := by decide +kernel
theorem dX4_book_65 : decode cX4_book 65 = .ok (.iload_n 2, 1) := by decide +kernel
theorem dX4_book_66 : decode cX4_book 66 = .ok (.iaload, 1) := by decide +kernel
theorem dX4_book_67 : decode cX4_book 67 = .ok (.i2l, 1) := by decide +kernel
theorem dX4_book_68 : decode cX4_book 68 = .ok (.invokevirtual 211, 3) := by decide +kernel
theorem dX4_book_71 : decode cX4_book 71 = .ok (.aload_n 0, 1) := by decide +kernel
theorem dX4_book_72 : decode cX4_book 72 = .ok (.getfield 16, 3) := by decide +kernel
theorem dX4_book_75 : decode cX4_book 75 = .ok (.iconst 1, 1) := by decide +kernel
theorem dX4_book_76 : decode cX4_book 76 = .ok (.invokevirtual 155, 3) := by decide +kernel
theorem dX4_book_79 : decode cX4_book 79 = .ok (.iinc 4 1, 3) := by decide +kernel
theorem dX4_book_82 : decode cX4_book 82 = .ok (.goto (-46), 3) := by decide +kernel
theorem dX4_book_85 : decode cX4_book 85 = .ok (.aload_n 0, 1) := by decide +kernel
theorem dX4_book_86 : decode cX4_book 86 = .ok (.getfield 44, 3) := by decide +kernel
theorem dX4_book_89 : decode cX4_book 89 = .ok (.iload_n 1, 1) := by decide +kernel
theorem dX4_book_90 : decode cX4_book 90 = .ok (.aaload, 1) := by decide +kernel
theorem dX4_book_91 : decode cX4_book 91 = .ok (.getfield 203, 3) := by decide +kernel
theorem dX4_book_94 : decode cX4_book 94 = .ok (.ireturn, 1) := by decide +kernel
theorem dX4_read_0 : decode cX4_read 0 = .ok (.aload_n 0, 1) := by decide +kernel
theorem dX4_read_1 : decode cX4_read 1 = .ok (.iload_n 1, 1) := by decide +kernel
theorem dX4_read_2 : decode cX4_read 2 = .ok (.invokevirtual 204, 3) := by decide +kernel
theorem dX4_read_5 : decode cX4_read 5 = .ok (.istore_n 3, 1) := by decide +kernel
theorem dX4_read_6 : decode cX4_read 6 = .ok (.iload_n 3, 1) := by decide +kernel
theorem dX4_read_7 : decode cX4_read 7 = .ok (.ifCond .eq 5, 3) := by decide +kernel
theorem dX4_read_10 : decode cX4_read 10 = .ok (.iload_n 3, 1) := by decide +kernel
theorem dX4_read_11 : decode cX4_read 11 = .ok (.ireturn, 1) := by decide +kernel
theorem dX4_read_12 : decode cX4_read 12 = .ok (.aload_n 0, 1) := by decide +kernel
theorem dX4_read_13 : decode cX4_read 13 = .ok (.getfield 10, 3) := by decide +kernel
theorem dX4_read_16 : decode cX4_read 16 = .ok (.iload_n 2, 1) := by decide +kernel
theorem dX4_read_17 : decode cX4_read 17 = .ok (.invokevirtual 116, 3) := by decide +kernel
theorem dX4_read_20 : decode cX4_read 20 = .ok (.ifCond .ne 9, 3) := by decide +kernel
theorem dX4_read_23 : decode cX4_read 23 = .ok (.aload_n 0, 1) := by decide +kernel
theorem dX4_read_24 : decode cX4_read 24 = .ok (.iconst 0, 1) := by decide +kernel
theorem dX4_read_25 : decode cX4_read 25 = .ok (.invokevirtual 57, 3) := by decide +kernel
theorem dX4_read_28 : decode cX4_read 28 = .ok (.ireturn, 1) := by decide +kernel
theorem dX4_read_29 : decode cX4_read 29 = .ok (.iconst 0, 1) := by decide +kernel
theorem dX4_read_30 : decode cX4_read 30 = .ok (.istore 4, 2) := by decide +kernel
theorem dX4_read_32 : decode cX4_read 32 = .ok (.iconst 0, 1) := by decide +kernel
theorem dX4_read_33 : decode cX4_read 33 = .ok (.istore 5, 2) := by decide +kernel
theorem dX4_read_35 : decode cX4_read 35 = .ok (.iload 5, 2) := by decide +kernel
theorem dX4_read_37 : decode cX4_read 37 = .ok (.iconst 3, 1) := by decide +kernel
theorem dX4_read_38 : decode cX4_read 38 = .ok (.if_icmp .ge 68, 3) := by decide +kernel
theorem dX4_read_41 : decode cX4_read 41 = .ok (.iconst 0, 1) := by decide +kernel
theorem dX4_read_42 : decode cX4_read 42 = .ok (.istore 6, 2) := by decide +kernel
theorem dX4_read_44 : decode cX4_read 44 = .ok (.iload 6, 2) := by decide +kernel
theorem dX4_read_46 : decode cX4_read 46 = .ok (.bipush 99, 2) := by decide +kernel
theorem dX4_read_48 : decode cX4_read 48 = .ok (.if_icmp .gt 52, 3) := by decide +kernel
theorem dX4_read_51 : decode cX4_read 51 = .ok (.aload_n 0, 1) := by decide +kernel
theorem dX4_read_52 : decode cX4_read 52 = .ok (.invokevirtual 159, 3) := by decide +kernel
theorem dX4_read_55 : decode cX4_read 55 = .ok (.aload_n 0, 1) := by decide +kernel
theorem dX4_read_56 : decode cX4_read 56 = .ok (.getfield 16, 3) := by decide +kernel
theorem dX4_read_59 : decode cX4_read 59 = .ok (.getfield 139, 3) := by decide +kernel
theorem dX4_read_62 : decode cX4_read 62 = .ok (.iload_n 2, 1) := by decide +kernel
theorem dX4_read_63 : decode cX4_read 63 = .ok (.iload 5, 2) := by decide +kernel
theorem dX4_read_65 : decode cX4_read 65 = .ok (.iastore, 1) := by decide +kernel
theorem dX4_read_66 : decode cX4_read 66 = .ok (.aload_n 0, 1) := by decide +kernel
theorem dX4_read_67 : decode cX4_read 67 = .ok (.getfield 16, 3) := by decide +kernel
theorem dX4_read_70 : decode cX4_read 70 = .ok (.getfield 142, 3) := by decide +kernel
theorem dX4_read_73 : decode cX4_read 73 = .ok (.iload_n 2, 1) := by decide +kernel
theorem dX4_read_74 : decode cX4_read 74 = .ok (.iload 6, 2) := by decide +kernel
theorem dX4_read_76 : decode cX4_read 76 = .ok (.iastore, 1) := by decide +kernel
theorem dX4_read_77 : decode cX4_read 77 = .ok (.aload_n 0, 1) := by decide +kernel
theorem dX4_read_78 : decode cX4_read 78 = .ok (.aload_n 0, 1) := by decide +kernel
theorem dX4_read_79 : decode cX4_read 79 = .ok (.getfield 44, 3) := by decide +kernel
theorem dX4_read_82 : decode cX4_read 82 = .ok (.iload_n 1, 1) := by decide +kernel
theorem dX4_read_83 : decode cX4_read 83 = .ok (.aaload, 1) := by decide +kernel
theorem dX4_read_84 : decode cX4_read 84 = .ok (.iload_n 2, 1) := by decide +kernel
theorem dX4_read_85 : decode cX4_read 85 = .ok (.invokevirtual 232, 3) := by decide +kernel
theorem dX4_read_88 : decode cX4_read 88 = .ok (.ifCond .eq 6, 3) := by decide +kernel
theorem dX4_read_91 : decode cX4_read 91 = .ok (.iinc 4 1, 3) := by decide +kernel
theorem dX4_read_94 : decode cX4_read 94 = .ok (.iinc 6 1, 3) := by decide +kernel
theorem dX4_read_97 : decode cX4_read 97 = .ok (.goto (-53), 3) := by decide +kernel
theorem dX4_read_100 : decode cX4_read 100 = .ok (.iinc 5 1, 3) := by decide +kernel
theorem dX4_read_103 : decode cX4_read 103 = .ok (.goto (-68), 3) := by decide +kernel
theorem dX4_read_106 : decode cX4_read 106 = .ok (.iload 4, 2) := by decide +kernel
theorem dX4_read_108 : decode cX4_read 108 = .ok (.ireturn, 1) := by decide +kernel
theorem dX4_image_0 : decode cX4_image 0 = .ok (.aload_n 0, 1) := by decide +kernel
theorem dX4_image_1 : decode cX4_image 1 = .ok (.getfield 19, 3) := by decide +kernel
theorem dX4_image_4 : decode cX4_image 4 = .ok (.aload_n 0, 1) := by decide +kernel
theorem dX4_image_5 : decode cX4_image 5 = .ok (.getfield 10, 3) := by decide +kernel
theorem dX4_image_8 : decode cX4_image 8 = .ok (.invokevirtual 189, 3) := by decide +kernel
theorem dX4_image_11 : decode cX4_image 11 = .ok (.aload_n 0, 1) := by decide +kernel
theorem dX4_image_12 : decode cX4_image 12 = .ok (.iconst 1, 1) := by decide +kernel
theorem dX4_image_13 : decode cX4_image 13 = .ok (.putfield 22, 3) := by decide +kernel
theorem dX4_image_16 : decode cX4_image 16 = .ok (.iconst 1, 1) := by decide +kernel
theorem dX4_image_17 : decode cX4_image 17 = .ok (.ireturn, 1) := by decide +kernel
theorem dX4_undo_0 : decode cX4_undo 0 = .ok (.aload_n 0, 1) := by decide +kernel
theorem dX4_undo_1 : decode cX4_undo 1 = .ok (.getfield 22, 3) := by decide +kernel
theorem dX4_undo_4 : decode cX4_undo 4 = .ok (.ifCond .ne 9, 3) := by decide +kernel
theorem dX4_undo_7 : decode cX4_undo 7 = .ok (.aload_n 0, 1) := by decide +kernel
theorem dX4_undo_8 : decode cX4_undo 8 = .ok (.iconst 3, 1) := by decide +kernel
theorem dX4_undo_9 : decode cX4_undo 9 = .ok (.invokevirtual 57, 3) := by decide +kernel
theorem dX4_undo_12 : decode cX4_undo 12 = .ok (.ireturn, 1) := by decide +kernel
theorem dX4_undo_13 : decode cX4_undo 13 = .ok (.aload_n 0, 1) := by decide +kernel
theorem dX4_undo_14 : decode cX4_undo 14 = .ok (.getfield 10, 3) := by decide +kernel
theorem dX4_undo_17 : decode cX4_undo 17 = .ok (.aload_n 0, 1) := by decide +kernel
theorem dX4_undo_18 : decode cX4_undo 18 = .ok (.getfield 19, 3) := by decide +kernel
theorem dX4_undo_21 : decode cX4_undo 21 = .ok (.invokevirtual 189, 3) := by decide +kernel
theorem dX4_undo_24 : decode cX4_undo 24 = .ok (.aload_n 0, 1) := by decide +kernel
theorem dX4_undo_25 : decode cX4_undo 25 = .ok (.getfield 10, 3) := by decide +kernel
theorem dX4_undo_28 : decode cX4_undo 28 = .ok (.getfield 85, 3) := by decide +kernel
theorem dX4_undo_31 : decode cX4_undo 31 = .ok (.ireturn, 1) := by decide +kernel
theorem dX4_tear_0 : decode cX4_tear 0 = .ok (.aload_n 0, 1) := by decide +kernel
theorem dX4_tear_1 : decode cX4_tear 1 = .ok (.getfield 22, 3) := by decide +kernel
theorem dX4_tear_4 : decode cX4_tear 4 = .ok (.ifCond .eq 7, 3) := by decide +kernel
theorem dX4_tear_7 : decode cX4_tear 7 = .ok (.iconst 1, 1) := by decide +kernel
theorem dX4_tear_8 : decode cX4_tear 8 = .ok (.goto 4, 3) := by decide +kernel
theorem dX4_tear_11 : decode cX4_tear 11 = .ok (.iconst 0, 1) := by decide +kernel
theorem dX4_tear_12 : decode cX4_tear 12 = .ok (.istore_n 1, 1) := by decide +kernel
theorem dX4_tear_13 : decode cX4_tear 13 = .ok (.aload_n 0, 1) := by decide +kernel
theorem dX4_tear_14 : decode cX4_tear 14 = .ok (.iconst 0, 1) := by decide +kernel
theorem dX4_tear_15 : decode cX4_tear 15 = .ok (.putfield 22, 3) := by decide +kernel
theorem dX4_tear_18 : decode cX4_tear 18 = .ok (.iload_n 1, 1) := by decide +kernel
theorem dX4_tear_19 : decode cX4_tear 19 = .ok (.ireturn, 1) := by decide +kernel
theorem dX4_count_0 : decode cX4_count 0 = .ok (.iload_n 1, 1) := by decide +kernel
theorem dX4_count_1 : decode cX4_count 1 = .ok (.tableswitch 63 0 3 #[31, 39, 47, 55], 31) := by decide +kernel
theorem dX4_count_32 : decode cX4_count 32 = .ok (.aload_n 0, 1) := by decide +kernel
theorem dX4_count_33 : decode cX4_count 33 = .ok (.getfield 10, 3) := by decide +kernel
theorem dX4_count_36 : decode cX4_count 36 = .ok (.getfield 85, 3) := by decide +kernel
theorem dX4_count_39 : decode cX4_count 39 = .ok (.ireturn, 1) := by decide +kernel
theorem dX4_count_40 : decode cX4_count 40 = .ok (.aload_n 0, 1) := by decide +kernel
theorem dX4_count_41 : decode cX4_count 41 = .ok (.getfield 10, 3) := by decide +kernel
theorem dX4_count_44 : decode cX4_count 44 = .ok (.getfield 129, 3) := by decide +kernel
theorem dX4_count_47 : decode cX4_count 47 = .ok (.ireturn, 1) := by decide +kernel
theorem dX4_count_48 : decode cX4_count 48 = .ok (.aload_n 0, 1) := by decide +kernel
theorem dX4_count_49 : decode cX4_count 49 = .ok (.getfield 29, 3) := by decide +kernel
theorem dX4_count_52 : decode cX4_count 52 = .ok (.getfield 173, 3) := by decide +kernel
theorem dX4_count_55 : decode cX4_count 55 = .ok (.ireturn, 1) := by decide +kernel
theorem dX4_count_56 : decode cX4_count 56 = .ok (.aload_n 0, 1) := by decide +kernel
theorem dX4_count_57 : decode cX4_count 57 = .ok (.getfield 10, 3) := by decide +kernel
theorem dX4_count_60 : decode cX4_count 60 = .ok (.invokevirtual 236, 3) := by decide +kernel
theorem dX4_count_63 : decode cX4_count 63 = .ok (.ireturn, 1) := by decide +kernel
theorem dX4_count_64 : decode cX4_count 64 = .ok (.aload_n 0, 1) := by decide +kernel
theorem dX4_count_65 : decode cX4_count 65 = .ok (.iconst 0, 1) := by decide +kernel
theorem dX4_count_66 : decode cX4_count 66 = .ok (.invokevirtual 57, 3) := by decide +kernel
theorem dX4_count_69 : decode cX4_count 69 = .ok (.ireturn, 1) := by decide +kernel
theorem dX4_status_0 : decode cX4_status 0 = .ok (.iload_n 1, 1) := by decide +kernel
theorem dX4_status_1 : decode cX4_status 1 = .ok (.iconst (-1), 1) := by decide +kernel
theorem dX4_status_2 : decode cX4_status 2 = .ok (.bipush 6, 2) := by decide +kernel
theorem dX4_status_4 : decode cX4_status 4 = .ok (.invokestatic 53, 3) := by decide +kernel
theorem dX4_status_7 : decode cX4_status 7 = .ok (.ifCond .ne 9, 3) := by decide +kernel
theorem dX4_status_10 : decode cX4_status 10 = .ok (.aload_n 0, 1) := by decide +kernel
theorem dX4_status_11 : decode cX4_status 11 = .ok (.iconst 0, 1) := by decide +kernel
theorem dX4_status_12 : decode cX4_status 12 = .ok (.invokevirtual 57, 3) := by decide +kernel
theorem dX4_status_15 : decode cX4_status 15 = .ok (.ireturn, 1) := by decide +kernel
theorem dX4_status_16 : decode cX4_status 16 = .ok (.iload_n 1, 1) := by decide +kernel
theorem dX4_status_17 : decode cX4_status 17 = .ok (.ifCond .lt 10, 3) := by decide +kernel
theorem dX4_status_20 : decode cX4_status 20 = .ok (.aload_n 0, 1) := by decide +kernel
theorem dX4_status_21 : decode cX4_status 21 = .ok (.getfield 49, 3) := by decide +kernel
theorem dX4_status_24 : decode cX4_status 24 = .ok (.iload_n 1, 1) := by decide +kernel
theorem dX4_status_25 : decode cX4_status 25 = .ok (.iaload, 1) := by decide +kernel
theorem dX4_status_26 : decode cX4_status 26 = .ok (.ireturn, 1) := by decide +kernel
theorem dX4_status_27 : decode cX4_status 27 = .ok (.iconst 0, 1) := by decide +kernel
theorem dX4_status_28 : decode cX4_status 28 = .ok (.istore_n 2, 1) := by decide +kernel
theorem dX4_status_29 : decode cX4_status 29 = .ok (.iconst 0, 1) := by decide +kernel
theorem dX4_status_30 : decode cX4_status 30 = .ok (.istore_n 3, 1) := by decide +kernel
theorem dX4_status_31 : decode cX4_status 31 = .ok (.iload_n 3, 1) := by decide +kernel
theorem dX4_status_32 : decode cX4_status 32 = .ok (.bipush 7, 2) := by decide +kernel
theorem dX4_status_34 : decode cX4_status 34 = .ok (.if_icmp .ge 18, 3) := by decide +kernel
theorem dX4_status_37 : decode cX4_status 37 = .ok (.iload_n 2, 1) := by decide +kernel
theorem dX4_status_38 : decode cX4_status 38 = .ok (.aload_n 0, 1) := by decide +kernel
theorem dX4_status_39 : decode cX4_status 39 = .ok (.getfield 49, 3) := by decide +kernel
theorem dX4_status_42 : decode cX4_status 42 = .ok (.iload_n 3, 1) := by decide +kernel
theorem dX4_status_43 : decode cX4_status 43 = .ok (.iaload, 1) := by decide +kernel
theorem dX4_status_44 : decode cX4_status 44 = .ok (.iadd, 1) := by decide +kernel
theorem dX4_status_45 : decode cX4_status 45 = .ok (.istore_n 2, 1) := by decide +kernel
theorem dX4_status_46 : decode cX4_status 46 = .ok (.iinc 3 1, 3) := by decide +kernel
theorem dX4_status_49 : decode cX4_status 49 = .ok (.goto (-18), 3) := by decide +kernel
theorem dX4_status_52 : decode cX4_status 52 = .ok (.iload_n 2, 1) := by decide +kernel
theorem dX4_status_53 : decode cX4_status 53 = .ok (.ireturn, 1) := by decide +kernel
theorem dX4_finding_0 : decode cX4_finding 0 = .ok (.aload_n 0, 1) := by decide +kernel
theorem dX4_finding_1 : decode cX4_finding 1 = .ok (.getfield 49, 3) := by decide +kernel
theorem dX4_finding_4 : decode cX4_finding 4 = .ok (.iload_n 1, 1) := by decide +kernel
theorem dX4_finding_5 : decode cX4_finding 5 = .ok (.dup2, 1) := by decide +kernel
theorem dX4_finding_6 : decode cX4_finding 6 = .ok (.iaload, 1) := by decide +kernel
theorem dX4_finding_7 : decode cX4_finding 7 = .ok (.iconst 1, 1) := by decide +kernel
theorem dX4_finding_8 : decode cX4_finding 8 = .ok (.iadd, 1) := by decide +kernel
theorem dX4_finding_9 : decode cX4_finding 9 = .ok (.iastore, 1) := by decide +kernel
theorem dX4_finding_10 : decode cX4_finding 10 = .ok (.ldc 239, 2) := by decide +kernel
theorem dX4_finding_12 : decode cX4_finding 12 = .ok (.iload_n 1, 1) := by decide +kernel
theorem dX4_finding_13 : decode cX4_finding 13 = .ok (.isub, 1) := by decide +kernel
theorem dX4_finding_14 : decode cX4_finding 14 = .ok (.ireturn, 1) := by decide +kernel
theorem dX4_findingOfSheet_0 : decode cX4_findingOfSheet 0 = .ok (.iload_n 1, 1) := by decide +kernel
theorem dX4_findingOfSheet_1 : decode cX4_findingOfSheet 1 = .ok (.invokestatic 196, 3) := by decide +kernel
theorem dX4_findingOfSheet_4 : decode cX4_findingOfSheet 4 = .ok (.ifCond .ne 9, 3) := by decide +kernel
theorem dX4_findingOfSheet_7 : decode cX4_findingOfSheet 7 = .ok (.aload_n 0, 1) := by decide +kernel
theorem dX4_findingOfSheet_8 : decode cX4_findingOfSheet 8 = .ok (.iconst 0, 1) := by decide +kernel
theorem dX4_findingOfSheet_9 : decode cX4_findingOfSheet 9 = .ok (.invokevirtual 57, 3) := by decide +kernel
theorem dX4_findingOfSheet_12 : decode cX4_findingOfSheet 12 = .ok (.ireturn, 1) := by decide +kernel
theorem dX4_findingOfSheet_13 : decode cX4_findingOfSheet 13 = .ok (.aload_n 0, 1) := by decide +kernel
theorem dX4_findingOfSheet_14 : decode cX4_findingOfSheet 14 = .ok (.getfield 44, 3) := by decide +kernel
theorem dX4_findingOfSheet_17 : decode cX4_findingOfSheet 17 = .ok (.iload_n 1, 1) := by decide +kernel
theorem dX4_findingOfSheet_18 : decode cX4_findingOfSheet 18 = .ok (.aaload, 1) := by decide +kernel
theorem dX4_findingOfSheet_19 : decode cX4_findingOfSheet 19 = .ok (.invokevirtual 215, 3) := by decide +kernel
theorem dX4_findingOfSheet_22 : decode cX4_findingOfSheet 22 = .ok (.ifCond .eq 11, 3) := by decide +kernel
theorem dX4_findingOfSheet_25 : decode cX4_findingOfSheet 25 = .ok (.aload_n 0, 1) := by decide +kernel
theorem dX4_findingOfSheet_26 : decode cX4_findingOfSheet 26 = .ok (.iconst 5, 1) := by decide +kernel
theorem dX4_findingOfSheet_27 : decode cX4_findingOfSheet 27 = .ok (.invokevirtual 57, 3) := by decide +kernel
theorem dX4_findingOfSheet_30 : decode cX4_findingOfSheet 30 = .ok (.goto 4, 3) := by decide +kernel
theorem dX4_findingOfSheet_33 : decode cX4_findingOfSheet 33 = .ok (.iconst 0, 1) := by decide +kernel
theorem dX4_findingOfSheet_34 : decode cX4_findingOfSheet 34 = .ok (.ireturn, 1) := by decide +kernel
theorem dX4_putChecked_0 : decode cX4_putChecked 0 = .ok (.iload_n 3, 1) := by decide +kernel
theorem dX4_putChecked_1 : decode cX4_putChecked 1 = .ok (.iload 4, 2) := by decide +kernel
theorem dX4_putChecked_3 : decode cX4_putChecked 3 = .ok (.iload 5, 2) := by decide +kernel
theorem dX4_putChecked_5 : decode cX4_putChecked 5 = .ok (.invokestatic 53, 3) := by decide +kernel
theorem dX4_putChecked_8 : decode cX4_putChecked 8 = .ok (.ifCond .ne 9, 3) := by decide +kernel
theorem dX4_putChecked_11 : decode cX4_putChecked 11 = .ok (.aload_n 0, 1) := by decide +kernel
theorem dX4_putChecked_12 : decode cX4_putChecked 12 = .ok (.iconst 0, 1) := by decide +kernel
theorem dX4_putChecked_13 : decode cX4_putChecked 13 = .ok (.invokevirtual 57, 3) := by decide +kernel
theorem dX4_putChecked_16 : decode cX4_putChecked 16 = .ok (.ireturn, 1) := by decide +kernel
theorem dX4_putChecked_17 : decode cX4_putChecked 17 = .ok (.aload_n 1, 1) := by decide +kernel
theorem dX4_putChecked_18 : decode cX4_putChecked 18 = .ok (.iload_n 2, 1) := by decide +kernel
theorem dX4_putChecked_19 : decode cX4_putChecked 19 = .ok (.iaload, 1) := by decide +kernel
theorem dX4_putChecked_20 : decode cX4_putChecked 20 = .ok (.istore 6, 2) := by decide +kernel
theorem dX4_putChecked_22 : decode cX4_putChecked 22 = .ok (.aload_n 1, 1) := by decide +kernel
theorem dX4_putChecked_23 : decode cX4_putChecked 23 = .ok (.iload_n 2, 1) := by decide +kernel
theorem dX4_putChecked_24 : decode cX4_putChecked 24 = .ok (.iload_n 3, 1) := by decide +kernel
theorem dX4_putChecked_25 : decode cX4_putChecked 25 = .ok (.iastore, 1) := by decide +kernel
theorem dX4_putChecked_26 : decode cX4_putChecked 26 = .ok (.iload 6, 2) := by decide +kernel
theorem dX4_putChecked_28 : decode cX4_putChecked 28 = .ok (.ireturn, 1) := by decide +kernel
theorem dX4_startTrial_0 : decode cX4_startTrial 0 = .ok (.aload_n 0, 1) := by decide +kernel
theorem dX4_startTrial_1 : decode cX4_startTrial 1 = .ok (.getfield 16, 3) := by decide +kernel
theorem dX4_startTrial_4 : decode cX4_startTrial 4 = .ok (.aload_n 0, 1) := by decide +kernel
theorem dX4_startTrial_5 : decode cX4_startTrial 5 = .ok (.getfield 10, 3) := by decide +kernel
theorem dX4_startTrial_8 : decode cX4_startTrial 8 = .ok (.invokevirtual 189, 3) := by decide +kernel
theorem dX4_startTrial_11 : decode cX4_startTrial 11 = .ok (.return_, 1) := by decide +kernel
theorem dX4_goesAsBooked_0 : decode cX4_goesAsBooked 0 = .ok (.iconst 0, 1) := by decide +kernel
theorem dX4_goesAsBooked_1 : decode cX4_goesAsBooked 1 = .ok (.istore_n 3, 1) := by decide +kernel
theorem dX4_goesAsBooked_2 : decode cX4_goesAsBooked 2 = .ok (.iload_n 3, 1) := by decide +kernel
theorem dX4_goesAsBooked_3 : decode cX4_goesAsBooked 3 = .ok (.aload_n 1, 1) := by decide +kernel
theorem dX4_goesAsBooked_4 : decode cX4_goesAsBooked 4 = .ok (.getfield 203, 3) := by decide +kernel
theorem dX4_goesAsBooked_7 : decode cX4_goesAsBooked 7 = .ok (.if_icmp .ge 49, 3) := by decide +kernel
theorem dX4_goesAsBooked_10 : decode cX4_goesAsBooked 10 = .ok (.aload_n 1, 1) := by decide +kernel
theorem dX4_goesAsBooked_11 : decode cX4_goesAsBooked 11 = .ok (.getfield 207, 3) := by decide +kernel
theorem dX4_goesAsBooked_14 : decode cX4_goesAsBooked 14 = .ok (.iload_n 3, 1) := by decide +kernel
theorem dX4_goesAsBooked_15 : decode cX4_goesAsBooked 15 = .ok (.laload, 1) := by decide +kernel
theorem dX4_goesAsBooked_16 : decode cX4_goesAsBooked 16 = .ok (.aload_n 0, 1) := by decide +kernel
theorem dX4_goesAsBooked_17 : decode cX4_goesAsBooked 17 = .ok (.getfield 16, 3) := by decide +kernel
theorem dX4_goesAsBooked_20 : decode cX4_goesAsBooked 20 = .ok (.getfield 145, 3) := by decide +kernel
theorem dX4_goesAsBooked_23 : decode cX4_goesAsBooked 23 = .ok (.iload_n 2, 1) := by decide +kernel
theorem dX4_goesAsBooked_24 : decode cX4_goesAsBooked 24 = .ok (.iaload, 1) := by decide +kernel
theorem dX4_goesAsBooked_25 : decode cX4_goesAsBooked 25 = .ok (.i2l, 1) := by decide +kernel
theorem dX4_goesAsBooked_26 : decode cX4_goesAsBooked 26 = .ok (.lcmp, 1) := by decide +kernel
theorem dX4_goesAsBooked_27 : decode cX4_goesAsBooked 27 = .ok (.ifCond .eq 5, 3) := by decide +kernel
theorem dX4_goesAsBooked_30 : decode cX4_goesAsBooked 30 = .ok (.iconst 0, 1) := by decide +kernel
theorem dX4_goesAsBooked_31 : decode cX4_goesAsBooked 31 = .ok (.ireturn, 1) := by decide +kernel
theorem dX4_goesAsBooked_32 : decode cX4_goesAsBooked 32 = .ok (.iload_n 3, 1) := by decide +kernel
theorem dX4_goesAsBooked_33 : decode cX4_goesAsBooked 33 = .ok (.iconst 1, 1) := by decide +kernel
theorem dX4_goesAsBooked_34 : decode cX4_goesAsBooked 34 = .ok (.iadd, 1) := by decide +kernel
theorem dX4_goesAsBooked_35 : decode cX4_goesAsBooked 35 = .ok (.aload_n 1, 1) := by decide +kernel
theorem dX4_goesAsBooked_36 : decode cX4_goesAsBooked 36 = .ok (.getfield 203, 3) := by decide +kernel
theorem dX4_goesAsBooked_39 : decode cX4_goesAsBooked 39 = .ok (.if_icmp .ge 11, 3) := by decide +kernel
theorem dX4_goesAsBooked_42 : decode cX4_goesAsBooked 42 = .ok (.aload_n 0, 1) := by decide +kernel
theorem dX4_goesAsBooked_43 : decode cX4_goesAsBooked 43 = .ok (.getfield 16, 3) := by decide +kernel
theorem dX4_goesAsBooked_46 : decode cX4_goesAsBooked 46 = .ok (.iconst 1, 1) := by decide +kernel
theorem dX4_goesAsBooked_47 : decode cX4_goesAsBooked 47 = .ok (.invokevirtual 155, 3) := by decide +kernel
theorem dX4_goesAsBooked_50 : decode cX4_goesAsBooked 50 = .ok (.iinc 3 1, 3) := by decide +kernel
theorem dX4_goesAsBooked_53 : decode cX4_goesAsBooked 53 = .ok (.goto (-51), 3) := by decide +kernel
theorem dX4_goesAsBooked_56 : decode cX4_goesAsBooked 56 = .ok (.iconst 1, 1) := by decide +kernel
theorem dX4_goesAsBooked_57 : decode cX4_goesAsBooked 57 = .ok (.ireturn, 1) := by decide +kernel
theorem dX4_isSheet_0 : decode cX4_isSheet 0 = .ok (.iload_n 0, 1) := by decide +kernel
theorem dX4_isSheet_1 : decode cX4_isSheet 1 = .ok (.iconst 0, 1) := by decide +kernel
theorem dX4_isSheet_2 : decode cX4_isSheet 2 = .ok (.iconst 3, 1) := by decide +kernel
theorem dX4_isSheet_3 : decode cX4_isSheet 3 = .ok (.invokestatic 53, 3) := by decide +kernel
theorem dX4_isSheet_6 : decode cX4_isSheet 6 = .ok (.ireturn, 1) := by decide +kernel
theorem dX4_isKind_0 : decode cX4_isKind 0 = .ok (.iload_n 0, 1) := by decide +kernel
theorem dX4_isKind_1 : decode cX4_isKind 1 = .ok (.iconst 0, 1) := by decide +kernel
theorem dX4_isKind_2 : decode cX4_isKind 2 = .ok (.iconst 5, 1) := by decide +kernel
theorem dX4_isKind_3 : decode cX4_isKind 3 = .ok (.invokestatic 53, 3) := by decide +kernel
theorem dX4_isKind_6 : decode cX4_isKind 6 = .ok (.ireturn, 1) := by decide +kernel
theorem dX4_isWithin_0 : decode cX4_isWithin 0 = .ok (.iload_n 0, 1) := by decide +kernel
theorem dX4_isWithin_1 : decode cX4_isWithin 1 = .ok (.iload_n 1, 1) := by decide +kernel
theorem dX4_isWithin_2 : decode cX4_isWithin 2 = .ok (.if_icmp .lt 12, 3) := by decide +kernel
theorem dX4_isWithin_5 : decode cX4_isWithin 5 = .ok (.iload_n 0, 1) := by decide +kernel
theorem dX4_isWithin_6 : decode cX4_isWithin 6 = .ok (.iload_n 2, 1) := by decide +kernel
theorem dX4_isWithin_7 : decode cX4_isWithin 7 = .ok (.if_icmp .gt 7, 3) := by decide +kernel
theorem dX4_isWithin_10 : decode cX4_isWithin 10 = .ok (.iconst 1, 1) := by decide +kernel
theorem dX4_isWithin_11 : decode cX4_isWithin 11 = .ok (.goto 4, 3) := by decide +kernel
theorem dX4_isWithin_14 : decode cX4_isWithin 14 = .ok (.iconst 0, 1) := by decide +kernel
theorem dX4_isWithin_15 : decode cX4_isWithin 15 = .ok (.ireturn, 1) := by decide +kernel
theorem dX4_isUnder_0 : decode cX4_isUnder 0 = .ok (.iload_n 0, 1) := by decide +kernel
theorem dX4_isUnder_1 : decode cX4_isUnder 1 = .ok (.iload_n 1, 1) := by decide +kernel
theorem dX4_isUnder_2 : decode cX4_isUnder 2 = .ok (.if_icmp .eq 15, 3) := by decide +kernel
theorem dX4_isUnder_5 : decode cX4_isUnder 5 = .ok (.iload_n 1, 1) := by decide +kernel
theorem dX4_isUnder_6 : decode cX4_isUnder 6 = .ok (.ifCond .eq 11, 3) := by decide +kernel
theorem dX4_isUnder_9 : decode cX4_isUnder 9 = .ok (.iload_n 0, 1) := by decide +kernel
theorem dX4_isUnder_10 : decode cX4_isUnder 10 = .ok (.invokestatic 240, 3) := by decide +kernel
theorem dX4_isUnder_13 : decode cX4_isUnder 13 = .ok (.iload_n 1, 1) := by decide +kernel
theorem dX4_isUnder_14 : decode cX4_isUnder 14 = .ok (.if_icmp .ne 7, 3) := by decide +kernel
theorem dX4_isUnder_17 : decode cX4_isUnder 17 = .ok (.iconst 1, 1) := by decide +kernel
theorem dX4_isUnder_18 : decode cX4_isUnder 18 = .ok (.goto 4, 3) := by decide +kernel
theorem dX4_isUnder_21 : decode cX4_isUnder 21 = .ok (.iconst 0, 1) := by decide +kernel
theorem dX4_isUnder_22 : decode cX4_isUnder 22 = .ok (.ireturn, 1) := by decide +kernel
theorem dX4_kindAbove_0 : decode cX4_kindAbove 0 = .ok (.iload_n 0, 1) := by decide +kernel
theorem dX4_kindAbove_1 : decode cX4_kindAbove 1 = .ok (.lookupswitch 31 #[(4, 27), (5, 29)], 27) := by decide +kernel
theorem dX4_kindAbove_28 : decode cX4_kindAbove 28 = .ok (.iconst 1, 1) := by decide +kernel
theorem dX4_kindAbove_29 : decode cX4_kindAbove 29 = .ok (.ireturn, 1) := by decide +kernel
theorem dX4_kindAbove_30 : decode cX4_kindAbove 30 = .ok (.iconst 2, 1) := by decide +kernel
theorem dX4_kindAbove_31 : decode cX4_kindAbove 31 = .ok (.ireturn, 1) := by decide +kernel
theorem dX4_kindAbove_32 : decode cX4_kindAbove 32 = .ok (.iconst 0, 1) := by decide +kernel
theorem dX4_kindAbove_33 : decode cX4_kindAbove 33 = .ok (.ireturn, 1) := by decide +kernel
theorem dX5_init_0 : decode cX5_init 0 = .ok (.aload_n 0, 1) := by decide +kernel
theorem dX5_init_1 : decode cX5_init 1 = .ok (.invokespecial 1, 3) := by decide +kernel
theorem dX5_init_4 : decode cX5_init 4 = .ok (.aload_n 0, 1) := by decide +kernel
theorem dX5_init_5 : decode cX5_init 5 = .ok (.bipush 68, 2) := by decide +kernel
theorem dX5_init_7 : decode cX5_init 7 = .ok (.newarray .int, 2) := by decide +kernel
theorem dX5_init_9 : decode cX5_init 9 = .ok (.putfield 7, 3) := by decide +kernel
theorem dX5_init_12 : decode cX5_init 12 = .ok (.aload_n 0, 1) := by decide +kernel
theorem dX5_init_13 : decode cX5_init 13 = .ok (.bipush 7, 2) := by decide +kernel
theorem dX5_init_15 : decode cX5_init 15 = .ok (.newarray .int, 2) := by decide +kernel
theorem dX5_init_17 : decode cX5_init 17 = .ok (.putfield 13, 3) := by decide +kernel
theorem dX5_init_20 : decode cX5_init 20 = .ok (.aload_n 0, 1) := by decide +kernel
theorem dX5_init_21 : decode cX5_init 21 = .ok (.bipush 68, 2) := by decide +kernel
theorem dX5_init_23 : decode cX5_init 23 = .ok (.newarray .int, 2) := by decide +kernel
theorem dX5_init_25 : decode cX5_init 25 = .ok (.putfield 16, 3) := by decide +kernel
theorem dX5_init_28 : decode cX5_init 28 = .ok (.aload_n 0, 1) := by decide +kernel
theorem dX5_init_29 : decode cX5_init 29 = .ok (.bipush 68, 2) := by decide +kernel
theorem dX5_init_31 : decode cX5_init 31 = .ok (.newarray .int, 2) := by decide +kernel
theorem dX5_init_33 : decode cX5_init 33 = .ok (.putfield 19, 3) := by decide +kernel
theorem dX5_init_36 : decode cX5_init 36 = .ok (.aload_n 0, 1) := by decide +kernel
theorem dX5_init_37 : decode cX5_init 37 = .ok (.bipush 120, 2) := by decide +kernel
theorem dX5_init_39 : decode cX5_init 39 = .ok (.newarray .int, 2) := by decide +kernel
theorem dX5_init_41 : decode cX5_init 41 = .ok (.putfield 22, 3) := by decide +kernel
theorem dX5_init_44 : decode cX5_init 44 = .ok (.aload_n 0, 1) := by decide +kernel
theorem dX5_init_45 : decode cX5_init 45 = .ok (.iconst 4, 1) := by decide +kernel
theorem dX5_init_46 : decode cX5_init 46 = .ok (.newarray .int, 2) := by decide +kernel
theorem dX5_init_48 : decode cX5_init 48 = .ok (.putfield 25, 3) := by decide +kernel
theorem dX5_init_51 : decode cX5_init 51 = .ok (.aload_n 0, 1) := by decide +kernel
theorem dX5_init_52 : decode cX5_init 52 = .ok (.iconst 4, 1) := by decide +kernel
theorem dX5_init_53 : decode cX5_init 53 = .ok (.newarray .int, 2) := by decide +kernel
theorem dX5_init_55 : decode cX5_init 55 = .ok (.putfield 28, 3) := by decide +kernel
theorem dX5_init_58 : decode cX5_init 58 = .ok (.aload_n 0, 1) := by decide +kernel
theorem dX5_init_59 : decode cX5_init 59 = .ok (.sipush 160, 3) := by decide +kernel
theorem dX5_init_62 : decode cX5_init 62 = .ok (.newarray .long, 2) := by decide +kernel
theorem dX5_init_64 : decode cX5_init 64 = .ok (.putfield 31, 3) := by decide +kernel
theorem dX5_init_67 : decode cX5_init 67 = .ok (.aload_n 0, 1) := by decide +kernel
theorem dX5_init_68 : decode cX5_init 68 = .ok (.bipush 40, 2) := by decide +kernel
theorem dX5_init_70 : decode cX5_init 70 = .ok (.newarray .long, 2) := by decide +kernel
theorem dX5_init_72 : decode cX5_init 72 = .ok (.putfield 35, 3) := by decide +kernel
theorem dX5_init_75 : decode cX5_init 75 = .ok (.aload_n 0, 1) := by decide +kernel
theorem dX5_init_76 : decode cX5_init 76 = .ok (.bipush 68, 2) := by decide +kernel
theorem dX5_init_78 : decode cX5_init 78 = .ok (.newarray .int, 2) := by decide +kernel
theorem dX5_init_80 : decode cX5_init 80 = .ok (.putfield 38, 3) := by decide +kernel
theorem dX5_init_83 : decode cX5_init 83 = .ok (.aload_n 0, 1) := by decide +kernel
theorem dX5_init_84 : decode cX5_init 84 = .ok (.bipush 68, 2) := by decide +kernel
theorem dX5_init_86 : decode cX5_init 86 = .ok (.newarray .int, 2) := by decide +kernel
theorem dX5_init_88 : decode cX5_init 88 = .ok (.putfield 41, 3) := by decide +kernel
theorem dX5_init_91 : decode cX5_init 91 = .ok (.aload_n 0, 1) := by decide +kernel
theorem dX5_init_92 : decode cX5_init 92 = .ok (.getfield 7, 3) := by decide +kernel
theorem dX5_init_95 : decode cX5_init 95 = .ok (.iconst 1, 1) := by decide +kernel
theorem dX5_init_96 : decode cX5_init 96 = .ok (.bipush 60, 2) := by decide +kernel
theorem dX5_init_98 : decode cX5_init 98 = .ok (.iastore, 1) := by decide +kernel
theorem dX5_init_99 : decode cX5_init 99 = .ok (.return_, 1) := by decide +kernel
theorem dX5_in_0 : decode cX5_in 0 = .ok (.iload_n 0, 1) := by decide +kernel
theorem dX5_in_1 : decode cX5_in 1 = .ok (.iload_n 1, 1) := by decide +kernel
theorem dX5_in_2 : decode cX5_in 2 = .ok (.if_icmp .lt 12, 3) := by decide +kernel
theorem dX5_in_5 : decode cX5_in 5 = .ok (.iload_n 0, 1) := by decide +kernel
theorem dX5_in_6 : decode cX5_in 6 = .ok (.iload_n 2, 1) := by decide +kernel
theorem dX5_in_7 : decode cX5_in 7 = .ok (.if_icmp .gt 7, 3) := by decide +kernel
theorem dX5_in_10 : decode cX5_in 10 = .ok (.iconst 1, 1) := by decide +kernel
theorem dX5_in_11 : decode cX5_in 11 = .ok (.goto 4, 3) := by decide +kernel
theorem dX5_in_14 : decode cX5_in 14 = .ok (.iconst 0, 1) := by decide +kernel
theorem dX5_in_15 : decode cX5_in 15 = .ok (.ireturn, 1) := by decide +kernel
theorem dX5_finds_0 : decode cX5_finds 0 = .ok (.aload_n 0, 1) := by decide +kernel
theorem dX5_finds_1 : decode cX5_finds 1 = .ok (.getfield 13, 3) := by decide +kernel
theorem dX5_finds_4 : decode cX5_finds 4 = .ok (.ldc 44, 2) := by decide +kernel
theorem dX5_finds_6 : decode cX5_finds 6 = .ok (.iload_n 1, 1) := by decide +kernel
theorem dX5_finds_7 : decode cX5_finds 7 = .ok (.isub, 1) := by decide +kernel
theorem dX5_finds_8 : decode cX5_finds 8 = .ok (.dup2, 1) := by decide +kernel
theorem dX5_finds_9 : decode cX5_finds 9 = .ok (.iaload, 1) := by decide +kernel
theorem dX5_finds_10 : decode cX5_finds 10 = .ok (.iconst 1, 1) := by decide +kernel
theorem dX5_finds_11 : decode cX5_finds 11 = .ok (.iadd, 1) := by decide +kernel
theorem dX5_finds_12 : decode cX5_finds 12 = .ok (.iastore, 1) := by decide +kernel
theorem dX5_finds_13 : decode cX5_finds 13 = .ok (.iload_n 1, 1) := by decide +kernel
theorem dX5_finds_14 : decode cX5_finds 14 = .ok (.ireturn, 1) := by decide +kernel
theorem dX5_held_0 : decode cX5_held 0 = .ok (.iload_n 0, 1) := by decide +kernel
theorem dX5_held_1 : decode cX5_held 1 = .ok (.iload_n 1, 1) := by decide +kernel
theorem dX5_held_2 : decode cX5_held 2 = .ok (.if_icmp .ge 7, 3) := by decide +kernel
theorem dX5_held_5 : decode cX5_held 5 = .ok (.iload_n 1, 1) := by decide +kernel
theorem dX5_held_6 : decode cX5_held 6 = .ok (.goto 13, 3) := by decide +kernel
theorem dX5_held_9 : decode cX5_held 9 = .ok (.iload_n 0, 1) := by decide +kernel
theorem dX5_held_10 : decode cX5_held 10 = .ok (.iload_n 2, 1) := by decide +kernel
theorem dX5_held_11 : decode cX5_held 11 = .ok (.if_icmp .le 7, 3) := by decide +kernel
theorem dX5_held_14 : decode cX5_held 14 = .ok (.iload_n 2, 1) := by decide +kernel
theorem dX5_held_15 : decode cX5_held 15 = .ok (.goto 4, 3) := by decide +kernel
theorem dX5_held_18 : decode cX5_held 18 = .ok (.iload_n 0, 1) := by decide +kernel
theorem dX5_held_19 : decode cX5_held 19 = .ok (.ireturn, 1) := by decide +kernel
theorem dX5_its_0 : decode cX5_its 0 = .ok (.aload_n 0, 1) := by decide +kernel
theorem dX5_its_1 : decode cX5_its 1 = .ok (.getfield 7, 3) := by decide +kernel
theorem dX5_its_4 : decode cX5_its 4 = .ok (.iconst 4, 1) := by decide +kernel
theorem dX5_its_5 : decode cX5_its 5 = .ok (.iconst 4, 1) := by decide +kernel
theorem dX5_its_6 : decode cX5_its 6 = .ok (.iload_n 1, 1) := by decide +kernel
theorem dX5_its_7 : decode cX5_its 7 = .ok (.imul, 1) := by decide +kernel
theorem dX5_its_8 : decode cX5_its 8 = .ok (.iadd, 1) := by decide +kernel
theorem dX5_its_9 : decode cX5_its 9 = .ok (.iload_n 2, 1) := by decide +kernel
theorem dX5_its_10 : decode cX5_its 10 = .ok (.iadd, 1) := by decide +kernel
theorem dX5_its_11 : decode cX5_its 11 = .ok (.iaload, 1) := by decide +kernel
theorem dX5_its_12 : decode cX5_its 12 = .ok (.ireturn, 1) := by decide +kernel
theorem dX5_puts_0 : decode cX5_puts 0 = .ok (.aload_n 0, 1) := by decide +kernel
theorem dX5_puts_1 : decode cX5_puts 1 = .ok (.getfield 7, 3) := by decide +kernel
theorem dX5_puts_4 : decode cX5_puts 4 = .ok (.iconst 4, 1) := by decide +kernel
theorem dX5_puts_5 : decode cX5_puts 5 = .ok (.iconst 4, 1) := by decide +kernel
theorem dX5_puts_6 : decode cX5_puts 6 = .ok (.iload_n 1, 1) := by decide +kernel
theorem dX5_puts_7 : decode cX5_puts 7 = .ok (.imul, 1) := by decide +kernel
theorem dX5_puts_8 : decode cX5_puts 8 = .ok (.iadd, 1) := by decide +kernel
theorem dX5_puts_9 : decode cX5_puts 9 = .ok (.iload_n 2, 1) := by decide +kernel
theorem dX5_puts_10 : decode cX5_puts 10 = .ok (.iadd, 1) := by decide +kernel
theorem dX5_puts_11 : decode cX5_puts 11 = .ok (.iload_n 3, 1) := by decide +kernel
theorem dX5_puts_12 : decode cX5_puts 12 = .ok (.iastore, 1) := by decide +kernel
theorem dX5_puts_13 : decode cX5_puts 13 = .ok (.return_, 1) := by decide +kernel
theorem dX5_worn_0 : decode cX5_worn 0 = .ok (.aload_n 0, 1) := by decide +kernel
theorem dX5_worn_1 : decode cX5_worn 1 = .ok (.getfield 7, 3) := by decide +kernel
theorem dX5_worn_4 : decode cX5_worn 4 = .ok (.bipush 28, 2) := by decide +kernel
theorem dX5_worn_6 : decode cX5_worn 6 = .ok (.iconst 4, 1) := by decide +kernel
theorem dX5_worn_7 : decode cX5_worn 7 = .ok (.iload_n 1, 1) := by decide +kernel
theorem dX5_worn_8 : decode cX5_worn 8 = .ok (.imul, 1) := by decide +kernel
theorem dX5_worn_9 : decode cX5_worn 9 = .ok (.iadd, 1) := by decide +kernel
theorem dX5_worn_10 : decode cX5_worn 10 = .ok (.iload_n 2, 1) := by decide +kernel
theorem dX5_worn_11 : decode cX5_worn 11 = .ok (.iadd, 1) := by decide +kernel
theorem dX5_worn_12 : decode cX5_worn 12 = .ok (.iaload, 1) := by decide +kernel
theorem dX5_worn_13 : decode cX5_worn 13 = .ok (.ireturn, 1) := by decide +kernel
theorem dX5_sews_0 : decode cX5_sews 0 = .ok (.aload_n 0, 1) := by decide +kernel
theorem dX5_sews_1 : decode cX5_sews 1 = .ok (.getfield 7, 3) := by decide +kernel
theorem dX5_sews_4 : decode cX5_sews 4 = .ok (.bipush 28, 2) := by decide +kernel
theorem dX5_sews_6 : decode cX5_sews 6 = .ok (.iconst 4, 1) := by decide +kernel
theorem dX5_sews_7 : decode cX5_sews 7 = .ok (.iload_n 1, 1) := by decide +kernel
theorem dX5_sews_8 : decode cX5_sews 8 = .ok (.imul, 1) := by decide +kernel
theorem dX5_sews_9 : decode cX5_sews 9 = .ok (.iadd, 1) := by decide +kernel
theorem dX5_sews_10 : decode cX5_sews 10 = .ok (.iload_n 2, 1) := by decide +kernel
theorem dX5_sews_11 : decode cX5_sews 11 = .ok (.iadd, 1) := by decide +kernel
theorem dX5_sews_12 : decode cX5_sews 12 = .ok (.iload_n 3, 1) := by decide +kernel
theorem dX5_sews_13 : decode cX5_sews 13 = .ok (.iastore, 1) := by decide +kernel
theorem dX5_sews_14 : decode cX5_sews 14 = .ok (.return_, 1) := by decide +kernel
theorem dX5_becomes_0 : decode cX5_becomes 0 = .ok (.aload_n 0, 1) := by decide +kernel
theorem dX5_becomes_1 : decode cX5_becomes 1 = .ok (.getfield 7, 3) := by decide +kernel
theorem dX5_becomes_4 : decode cX5_becomes 4 = .ok (.iload_n 1, 1) := by decide +kernel
theorem dX5_becomes_5 : decode cX5_becomes 5 = .ok (.iaload, 1) := by decide +kernel
theorem dX5_becomes_6 : decode cX5_becomes 6 = .ok (.istore_n 3, 1) := by decide +kernel
theorem dX5_becomes_7 : decode cX5_becomes 7 = .ok (.aload_n 0, 1) := by decide +kernel
theorem dX5_becomes_8 : decode cX5_becomes 8 = .ok (.getfield 7, 3) := by decide +kernel
theorem dX5_becomes_11 : decode cX5_becomes 11 = .ok (.iload_n 1, 1) := by decide +kernel
theorem dX5_becomes_12 : decode cX5_becomes 12 = .ok (.iload_n 2, 1) := by decide +kernel
theorem dX5_becomes_13 : decode cX5_becomes 13 = .ok (.iastore, 1) := by decide +kernel
theorem dX5_becomes_14 : decode cX5_becomes 14 = .ok (.iload_n 3, 1) := by decide +kernel
theorem dX5_becomes_15 : decode cX5_becomes 15 = .ok (.ireturn, 1) := by decide +kernel
theorem dX5_isOne_0 : decode cX5_isOne 0 = .ok (.iload_n 1, 1) := by decide +kernel
theorem dX5_isOne_1 : decode cX5_isOne 1 = .ok (.iconst 0, 1) := by decide +kernel
theorem dX5_isOne_2 : decode cX5_isOne 2 = .ok (.aload_n 0, 1) := by decide +kernel
theorem dX5_isOne_3 : decode cX5_isOne 3 = .ok (.getfield 7, 3) := by decide +kernel
theorem dX5_isOne_6 : decode cX5_isOne 6 = .ok (.iconst 2, 1) := by decide +kernel
theorem dX5_isOne_7 : decode cX5_isOne 7 = .ok (.iaload, 1) := by decide +kernel
theorem dX5_isOne_8 : decode cX5_isOne 8 = .ok (.iconst 1, 1) := by decide +kernel
theorem dX5_isOne_9 : decode cX5_isOne 9 = .ok (.isub, 1) := by decide +kernel
theorem dX5_isOne_10 : decode cX5_isOne 10 = .ok (.invokestatic 45, 3) := by decide +kernel
theorem dX5_isOne_13 : decode cX5_isOne 13 = .ok (.ireturn, 1) := by decide +kernel
theorem dX5_isGarment_0 : decode cX5_isGarment 0 = .ok (.iload_n 1, 1) := by decide +kernel
theorem dX5_isGarment_1 : decode cX5_isGarment 1 = .ok (.iconst 0, 1) := by decide +kernel
theorem dX5_isGarment_2 : decode cX5_isGarment 2 = .ok (.aload_n 0, 1) := by decide +kernel
theorem dX5_isGarment_3 : decode cX5_isGarment 3 = .ok (.getfield 7, 3) := by decide +kernel
theorem dX5_isGarment_6 : decode cX5_isGarment 6 = .ok (.iconst 3, 1) := by decide +kernel
theorem dX5_isGarment_7 : decode cX5_isGarment 7 = .ok (.iaload, 1) := by decide +kernel
theorem dX5_isGarment_8 : decode cX5_isGarment 8 = .ok (.iconst 1, 1) := by decide +kernel
theorem dX5_isGarment_9 : decode cX5_isGarment 9 = .ok (.isub, 1) := by decide +kernel
theorem dX5_isGarment_10 : decode cX5_isGarment 10 = .ok (.invokestatic 45, 3) := by decide +kernel
theorem dX5_isGarment_13 : decode cX5_isGarment 13 = .ok (.ireturn, 1) := by decide +kernel
theorem dX5_isKind_0 : decode cX5_isKind 0 = .ok (.iload_n 0, 1) := by decide +kernel
theorem dX5_isKind_1 : decode cX5_isKind 1 = .ok (.iconst 0, 1) := by decide +kernel
theorem dX5_isKind_2 : decode cX5_isKind 2 = .ok (.iconst 5, 1) := by decide +kernel
theorem dX5_isKind_3 : decode cX5_isKind 3 = .ok (.invokestatic 45, 3) := by decide +kernel
theorem dX5_isKind_6 : decode cX5_isKind 6 = .ok (.ireturn, 1) := by decide +kernel
theorem dX5_bits_0 : decode cX5_bits 0 = .ok (.iconst 0, 1) := by decide +kernel
theorem dX5_bits_1 : decode cX5_bits 1 = .ok (.istore_n 1, 1) := by decide +kernel
theorem dX5_bits_2 : decode cX5_bits 2 = .ok (.iload_n 0, 1) := by decide +kernel
theorem dX5_bits_3 : decode cX5_bits 3 = .ok (.istore_n 2, 1) := by decide +kernel
theorem dX5_bits_4 : decode cX5_bits 4 = .ok (.iload_n 2, 1) := by decide +kernel
theorem dX5_bits_5 : decode cX5_bits 5 = .ok (.ifCond .eq 15, 3) := by decide +kernel
theorem dX5_bits_8 : decode cX5_bits 8 = .ok (.iinc 1 1, 3) := by decide +kernel
theorem dX5_bits_11 : decode cX5_bits 11 = .ok (.iload_n 2, 1) := by decide +kernel
theorem dX5_bits_12 : decode cX5_bits 12 = .ok (.iload_n 2, 1) := by decide +kernel
theorem dX5_bits_13 : decode cX5_bits 13 = .ok (.iconst 1, 1) := by decide +kernel
theorem dX5_bits_14 : decode cX5_bits 14 = .ok (.isub, 1) := by decide +kernel
theorem dX5_bits_15 : decode cX5_bits 15 = .ok (.iand, 1) := by decide +kernel
theorem dX5_bits_16 : decode cX5_bits 16 = .ok (.istore_n 2, 1) := by decide +kernel
theorem dX5_bits_17 : decode cX5_bits 17 = .ok (.goto (-13), 3) := by decide +kernel
theorem dX5_bits_20 : decode cX5_bits 20 = .ok (.iload_n 1, 1) := by decide +kernel
theorem dX5_bits_21 : decode cX5_bits 21 = .ok (.ireturn, 1) := by decide +kernel
theorem dX5_withWhom_0 : decode cX5_withWhom 0 = .ok (.iconst 0, 1) := by decide +kernel
theorem dX5_withWhom_1 : decode cX5_withWhom 1 = .ok (.istore_n 2, 1) := by decide +kernel
theorem dX5_withWhom_2 : decode cX5_withWhom 2 = .ok (.iconst 0, 1) := by decide +kernel
theorem dX5_withWhom_3 : decode cX5_withWhom 3 = .ok (.istore_n 3, 1) := by decide +kernel
theorem dX5_withWhom_4 : decode cX5_withWhom 4 = .ok (.iload_n 3, 1) := by decide +kernel
theorem dX5_withWhom_5 : decode cX5_withWhom 5 = .ok (.aload_n 0, 1) := by decide +kernel
theorem dX5_withWhom_6 : decode cX5_withWhom 6 = .ok (.getfield 7, 3) := by decide +kernel
theorem dX5_withWhom_9 : decode cX5_withWhom 9 = .ok (.iconst 3, 1) := by decide +kernel
theorem dX5_withWhom_10 : decode cX5_withWhom 10 = .ok (.iaload, 1) := by decide +kernel
theorem dX5_withWhom_11 : decode cX5_withWhom 11 = .ok (.if_icmp .ge 29, 3) := by decide +kernel
theorem dX5_withWhom_14 : decode cX5_withWhom 14 = .ok (.iload_n 2, 1) := by decide +kernel
theorem dX5_withWhom_15 : decode cX5_withWhom 15 = .ok (.aload_n 0, 1) := by decide +kernel
theorem dX5_withWhom_16 : decode cX5_withWhom 16 = .ok (.iload_n 3, 1) := by decide +kernel
theorem dX5_withWhom_17 : decode cX5_withWhom 17 = .ok (.iconst 3, 1) := by decide +kernel
theorem dX5_withWhom_18 : decode cX5_withWhom 18 = .ok (.invokevirtual 49, 3) := by decide +kernel
theorem dX5_withWhom_21 : decode cX5_withWhom 21 = .ok (.iload_n 1, 1) := by decide +kernel
theorem dX5_withWhom_22 : decode cX5_withWhom 22 = .ok (.if_icmp .ne 9, 3) := by decide +kernel
theorem dX5_withWhom_25 : decode cX5_withWhom 25 = .ok (.iconst 1, 1) := by decide +kernel
theorem dX5_withWhom_26 : decode cX5_withWhom 26 = .ok (.iload_n 3, 1) := by decide +kernel
theorem dX5_withWhom_27 : decode cX5_withWhom 27 = .ok (.ishl, 1) := by decide +kernel
theorem dX5_withWhom_28 : decode cX5_withWhom 28 = .ok (.goto 4, 3) := by decide +kernel
theorem dX5_withWhom_31 : decode cX5_withWhom 31 = .ok (.iconst 0, 1) := by decide +kernel
theorem dX5_withWhom_32 : decode cX5_withWhom 32 = .ok (.ior, 1) := by decide +kernel
theorem dX5_withWhom_33 : decode cX5_withWhom 33 = .ok (.istore_n 2, 1) := by decide +kernel
theorem dX5_withWhom_34 : decode cX5_withWhom 34 = .ok (.iinc 3 1, 3) := by decide +kernel
theorem dX5_withWhom_37 : decode cX5_withWhom 37 = .ok (.goto (-33), 3) := by decide +kernel
theorem dX5_withWhom_40 : decode cX5_withWhom 40 = .ok (.iload_n 2, 1) := by decide +kernel
theorem dX5_withWhom_41 : decode cX5_withWhom 41 = .ok (.ireturn, 1) := by decide +kernel
theorem dX5_ownedBy_0 : decode cX5_ownedBy 0 = .ok (.iconst 0, 1) := by decide +kernel
theorem dX5_ownedBy_1 : decode cX5_ownedBy 1 = .ok (.istore_n 2, 1) := by decide +kernel
theorem dX5_ownedBy_2 : decode cX5_ownedBy 2 = .ok (.iconst 0, 1) := by decide +kernel
theorem dX5_ownedBy_3 : decode cX5_ownedBy 3 = .ok (.istore_n 3, 1) := by decide +kernel
theorem dX5_ownedBy_4 : decode cX5_ownedBy 4 = .ok (.iload_n 3, 1) := by decide +kernel
theorem dX5_ownedBy_5 : decode cX5_ownedBy 5 = .ok (.aload_n 0, 1) := by decide +kernel
theorem dX5_ownedBy_6 : decode cX5_ownedBy 6 = .ok (.getfield 7, 3) := by decide +kernel
theorem dX5_ownedBy_9 : decode cX5_ownedBy 9 = .ok (.iconst 3, 1) := by decide +kernel
theorem dX5_ownedBy_10 : decode cX5_ownedBy 10 = .ok (.iaload, 1) := by decide +kernel
theorem dX5_ownedBy_11 : decode cX5_ownedBy 11 = .ok (.if_icmp .ge 29, 3) := by decide +kernel
theorem dX5_ownedBy_14 : decode cX5_ownedBy 14 = .ok (.iload_n 2, 1) := by decide +kernel
theorem dX5_ownedBy_15 : decode cX5_ownedBy 15 = .ok (.aload_n 0, 1) := by decide +kernel
theorem dX5_ownedBy_16 : decode cX5_ownedBy 16 = .ok (.iload_n 3, 1) := by decide +kernel
theorem dX5_ownedBy_17 : decode cX5_ownedBy 17 = .ok (.iconst 0, 1) := by decide +kernel
theorem dX5_ownedBy_18 : decode cX5_ownedBy 18 = .ok (.invokevirtual 49, 3) := by decide +kernel
theorem dX5_ownedBy_21 : decode cX5_ownedBy 21 = .ok (.iload_n 1, 1) := by decide +kernel
theorem dX5_ownedBy_22 : decode cX5_ownedBy 22 = .ok (.if_icmp .ne 9, 3) := by decide +kernel
theorem dX5_ownedBy_25 : decode cX5_ownedBy 25 = .ok (.iconst 1, 1) := by decide +kernel
theorem dX5_ownedBy_26 : decode cX5_ownedBy 26 = .ok (.iload_n 3, 1) := by decide +kernel
theorem dX5_ownedBy_27 : decode cX5_ownedBy 27 = .ok (.ishl, 1) := by decide +kernel
theorem dX5_ownedBy_28 : decode cX5_ownedBy 28 = .ok (.goto 4, 3) := by decide +kernel
theorem dX5_ownedBy_31 : decode cX5_ownedBy 31 = .ok (.iconst 0, 1) := by decide +kernel
theorem dX5_ownedBy_32 : decode cX5_ownedBy 32 = .ok (.ior, 1) := by decide +kernel
theorem dX5_ownedBy_33 : decode cX5_ownedBy 33 = .ok (.istore_n 2, 1) := by decide +kernel
theorem dX5_ownedBy_34 : decode cX5_ownedBy 34 = .ok (.iinc 3 1, 3) := by decide +kernel
theorem dX5_ownedBy_37 : decode cX5_ownedBy 37 = .ok (.goto (-33), 3) := by decide +kernel
theorem dX5_ownedBy_40 : decode cX5_ownedBy 40 = .ok (.iload_n 2, 1) := by decide +kernel
theorem dX5_ownedBy_41 : decode cX5_ownedBy 41 = .ok (.ireturn, 1) := by decide +kernel
theorem dX5_isRight_0 : decode cX5_isRight 0 = .ok (.aload_n 0, 1) := by decide +kernel
theorem dX5_isRight_1 : decode cX5_isRight 1 = .ok (.iload_n 1, 1) := by decide +kernel
theorem dX5_isRight_2 : decode cX5_isRight 2 = .ok (.iconst 3, 1) := by decide +kernel
theorem dX5_isRight_3 : decode cX5_isRight 3 = .ok (.invokevirtual 49, 3) := by decide +kernel
theorem dX5_isRight_6 : decode cX5_isRight 6 = .ok (.aload_n 0, 1) := by decide +kernel
theorem dX5_isRight_7 : decode cX5_isRight 7 = .ok (.iload_n 1, 1) := by decide +kernel
theorem dX5_isRight_8 : decode cX5_isRight 8 = .ok (.iconst 0, 1) := by decide +kernel
theorem dX5_isRight_9 : decode cX5_isRight 9 = .ok (.invokevirtual 49, 3) := by decide +kernel
theorem dX5_isRight_12 : decode cX5_isRight 12 = .ok (.if_icmp .ne 7, 3) := by decide +kernel
theorem dX5_isRight_15 : decode cX5_isRight 15 = .ok (.iconst 1, 1) := by decide +kernel
theorem dX5_isRight_16 : decode cX5_isRight 16 = .ok (.goto 4, 3) := by decide +kernel
theorem dX5_isRight_19 : decode cX5_isRight 19 = .ok (.iconst 0, 1) := by decide +kernel
theorem dX5_isRight_20 : decode cX5_isRight 20 = .ok (.ireturn, 1) := by decide +kernel
theorem dX5_rights_0 : decode cX5_rights 0 = .ok (.iconst 0, 1) := by decide +kernel
theorem dX5_rights_1 : decode cX5_rights 1 = .ok (.istore_n 1, 1) := by decide +kernel
theorem dX5_rights_2 : decode cX5_rights 2 = .ok (.iconst 0, 1) := by decide +kernel
theorem dX5_rights_3 : decode cX5_rights 3 = .ok (.istore_n 2, 1) := by decide +kernel
theorem dX5_rights_4 : decode cX5_rights 4 = .ok (.iload_n 2, 1) := by decide +kernel
theorem dX5_rights_5 : decode cX5_rights 5 = .ok (.aload_n 0, 1) := by decide +kernel
theorem dX5_rights_6 : decode cX5_rights 6 = .ok (.getfield 7, 3) := by decide +kernel
theorem dX5_rights_9 : decode cX5_rights 9 = .ok (.iconst 3, 1) := by decide +kernel
theorem dX5_rights_10 : decode cX5_rights 10 = .ok (.iaload, 1) := by decide +kernel
theorem dX5_rights_11 : decode cX5_rights 11 = .ok (.if_icmp .ge 27, 3) := by decide +kernel
theorem dX5_rights_14 : decode cX5_rights 14 = .ok (.iload_n 1, 1) := by decide +kernel
theorem dX5_rights_15 : decode cX5_rights 15 = .ok (.aload_n 0, 1) := by decide +kernel
theorem dX5_rights_16 : decode cX5_rights 16 = .ok (.iload_n 2, 1) := by decide +kernel
theorem dX5_rights_17 : decode cX5_rights 17 = .ok (.invokevirtual 53, 3) := by decide +kernel
theorem dX5_rights_20 : decode cX5_rights 20 = .ok (.ifCond .eq 9, 3) := by decide +kernel
theorem dX5_rights_23 : decode cX5_rights 23 = .ok (.iconst 1, 1) := by decide +kernel
theorem dX5_rights_24 : decode cX5_rights 24 = .ok (.iload_n 2, 1) := by decide +kernel
theorem dX5_rights_25 : decode cX5_rights 25 = .ok (.ishl, 1) := by decide +kernel
theorem dX5_rights_26 : decode cX5_rights 26 = .ok (.goto 4, 3) := by decide +kernel
theorem dX5_rights_29 : decode cX5_rights 29 = .ok (.iconst 0, 1) := by decide +kernel
theorem dX5_rights_30 : decode cX5_rights 30 = .ok (.ior, 1) := by decide +kernel
theorem dX5_rights_31 : decode cX5_rights 31 = .ok (.istore_n 1, 1) := by decide +kernel
theorem dX5_rights_32 : decode cX5_rights 32 = .ok (.iinc 2 1, 3) := by decide +kernel
theorem dX5_rights_35 : decode cX5_rights 35 = .ok (.goto (-31), 3) := by decide +kernel
theorem dX5_rights_38 : decode cX5_rights 38 = .ok (.iload_n 1, 1) := by decide +kernel
theorem dX5_rights_39 : decode cX5_rights 39 = .ok (.ireturn, 1) := by decide +kernel
theorem dX5_fades_0 : decode cX5_fades 0 = .ok (.aload_n 0, 1) := by decide +kernel
theorem dX5_fades_1 : decode cX5_fades 1 = .ok (.getfield 7, 3) := by decide +kernel
theorem dX5_fades_4 : decode cX5_fades 4 = .ok (.iconst 1, 1) := by decide +kernel
theorem dX5_fades_5 : decode cX5_fades 5 = .ok (.iaload, 1) := by decide +kernel
theorem dX5_fades_6 : decode cX5_fades 6 = .ok (.istore_n 2, 1) := by decide +kernel
theorem dX5_fades_7 : decode cX5_fades 7 = .ok (.aload_n 0, 1) := by decide +kernel
theorem dX5_fades_8 : decode cX5_fades 8 = .ok (.iload_n 1, 1) := by decide +kernel
theorem dX5_fades_9 : decode cX5_fades 9 = .ok (.iconst 1, 1) := by decide +kernel
theorem dX5_fades_10 : decode cX5_fades 10 = .ok (.invokevirtual 49, 3) := by decide +kernel
theorem dX5_fades_13 : decode cX5_fades 13 = .ok (.lookupswitch 51 #[(0, 27), (1, 29)], 27) := by decide +kernel
theorem dX5_fades_40 : decode cX5_fades 40 = .ok (.iconst 1, 1) := by decide +kernel
theorem dX5_fades_41 : decode cX5_fades 41 = .ok (.ireturn, 1) := by decide +kernel
theorem dX5_fades_42 : decode cX5_fades 42 = .ok (.iload_n 2, 1) := by decide +kernel
theorem dX5_fades_43 : decode cX5_fades 43 = .ok (.bipush 50, 2) := by decide +kernel
theorem dX5_fades_45 : decode cX5_fades 45 = .ok (.if_icmp .le 16, 3) := by decide +kernel
theorem dX5_fades_48 : decode cX5_fades 48 = .ok (.bipush 9, 2) := by decide +kernel
theorem dX5_fades_50 : decode cX5_fades 50 = .ok (.iload_n 2, 1) := by decide +kernel
theorem dX5_fades_51 : decode cX5_fades 51 = .ok (.bipush 50, 2) := by decide +kernel
theorem dX5_fades_53 : decode cX5_fades 53 = .ok (.isub, 1) := by decide +kernel
theorem dX5_fades_54 : decode cX5_fades 54 = .ok (.bipush 10, 2) := by decide +kernel
theorem dX5_fades_56 : decode cX5_fades 56 = .ok (.idiv, 1) := by decide +kernel
theorem dX5_fades_57 : decode cX5_fades 57 = .ok (.iadd, 1) := by decide +kernel
theorem dX5_fades_58 : decode cX5_fades 58 = .ok (.goto 5, 3) := by decide +kernel
theorem dX5_fades_61 : decode cX5_fades 61 = .ok (.bipush 9, 2) := by decide +kernel
theorem dX5_fades_63 : decode cX5_fades 63 = .ok (.ireturn, 1) := by decide +kernel
theorem dX5_fades_64 : decode cX5_fades 64 = .ok (.iload_n 2, 1) := by decide +kernel
theorem dX5_fades_65 : decode cX5_fades 65 = .ok (.bipush 6, 2) := by decide +kernel
theorem dX5_fades_67 : decode cX5_fades 67 = .ok (.idiv, 1) := by decide +kernel
theorem dX5_fades_68 : decode cX5_fades 68 = .ok (.ireturn, 1) := by decide +kernel
theorem dX5_reads_0 : decode cX5_reads 0 = .ok (.aload_n 0, 1) := by decide +kernel
theorem dX5_reads_1 : decode cX5_reads 1 = .ok (.iload_n 1, 1) := by decide +kernel
theorem dX5_reads_2 : decode cX5_reads 2 = .ok (.iconst 0, 1) := by decide +kernel
theorem dX5_reads_3 : decode cX5_reads 3 = .ok (.invokevirtual 49, 3) := by decide +kernel
theorem dX5_reads_6 : decode cX5_reads 6 = .ok (.istore_n 2, 1) := by decide +kernel
theorem dX5_reads_7 : decode cX5_reads 7 = .ok (.aload_n 0, 1) := by decide +kernel
theorem dX5_reads_8 : decode cX5_reads 8 = .ok (.iload_n 1, 1) := by decide +kernel
theorem dX5_reads_9 : decode cX5_reads 9 = .ok (.iconst 2, 1) := by decide +kernel
theorem dX5_reads_10 : decode cX5_reads 10 = .ok (.invokevirtual 49, 3) := by decide +kernel
theorem dX5_reads_13 : decode cX5_reads 13 = .ok (.istore_n 3, 1) := by decide +kernel
theorem dX5_reads_14 : decode cX5_reads 14 = .ok (.iload_n 3, 1) := by decide +kernel
theorem dX5_reads_15 : decode cX5_reads 15 = .ok (.bipush 60, 2) := by decide +kernel
theorem dX5_reads_17 : decode cX5_reads 17 = .ok (.if_icmp .lt 14, 3) := by decide +kernel
theorem dX5_reads_20 : decode cX5_reads 20 = .ok (.aload_n 0, 1) := by decide +kernel
theorem dX5_reads_21 : decode cX5_reads 21 = .ok (.iload_n 2, 1) := by decide +kernel
theorem dX5_reads_22 : decode cX5_reads 22 = .ok (.iconst 3, 1) := by decide +kernel
theorem dX5_reads_23 : decode cX5_reads 23 = .ok (.invokevirtual 57, 3) := by decide +kernel
theorem dX5_reads_26 : decode cX5_reads 26 = .ok (.ifCond .ne 5, 3) := by decide +kernel
theorem dX5_reads_29 : decode cX5_reads 29 = .ok (.iload_n 2, 1) := by decide +kernel
theorem dX5_reads_30 : decode cX5_reads 30 = .ok (.ireturn, 1) := by decide +kernel
theorem dX5_reads_31 : decode cX5_reads 31 = .ok (.iconst (-1), 1) := by decide +kernel
theorem dX5_reads_32 : decode cX5_reads 32 = .ok (.istore 4, 2) := by decide +kernel
theorem dX5_reads_34 : decode cX5_reads 34 = .ok (.aload_n 0, 1) := by decide +kernel
theorem dX5_reads_35 : decode cX5_reads 35 = .ok (.getfield 7, 3) := by decide +kernel
theorem dX5_reads_38 : decode cX5_reads 38 = .ok (.iconst 2, 1) := by decide +kernel
theorem dX5_reads_39 : decode cX5_reads 39 = .ok (.iaload, 1) := by decide +kernel
theorem dX5_reads_40 : decode cX5_reads 40 = .ok (.iconst 1, 1) := by decide +kernel
theorem dX5_reads_41 : decode cX5_reads 41 = .ok (.isub, 1) := by decide +kernel
theorem dX5_reads_42 : decode cX5_reads 42 = .ok (.istore 5, 2) := by decide +kernel
theorem dX5_reads_44 : decode cX5_reads 44 = .ok (.iload 5, 2) := by decide +kernel
theorem dX5_reads_46 : decode cX5_reads 46 = .ok (.ifCond .lt 50, 3) := by decide +kernel
theorem dX5_reads_49 : decode cX5_reads 49 = .ok (.iload_n 3, 1) := by decide +kernel
theorem dX5_reads_50 : decode cX5_reads 50 = .ok (.bipush 20, 2) := by decide +kernel
theorem dX5_reads_52 : decode cX5_reads 52 = .ok (.if_icmp .lt 44, 3) := by decide +kernel
theorem dX5_reads_55 : decode cX5_reads 55 = .ok (.aload_n 0, 1) := by decide +kernel
theorem dX5_reads_56 : decode cX5_reads 56 = .ok (.iload 5, 2) := by decide +kernel
theorem dX5_reads_58 : decode cX5_reads 58 = .ok (.iconst 1, 1) := by decide +kernel
theorem dX5_reads_59 : decode cX5_reads 59 = .ok (.invokevirtual 57, 3) := by decide +kernel
theorem dX5_reads_62 : decode cX5_reads 62 = .ok (.aload_n 0, 1) := by decide +kernel
theorem dX5_reads_63 : decode cX5_reads 63 = .ok (.iload_n 2, 1) := by decide +kernel
theorem dX5_reads_64 : decode cX5_reads 64 = .ok (.iconst 1, 1) := by decide +kernel
theorem dX5_reads_65 : decode cX5_reads 65 = .ok (.invokevirtual 57, 3) := by decide +kernel
theorem dX5_reads_68 : decode cX5_reads 68 = .ok (.if_icmp .ne 18, 3) := by decide +kernel
theorem dX5_reads_71 : decode cX5_reads 71 = .ok (.aload_n 0, 1) := by decide +kernel
theorem dX5_reads_72 : decode cX5_reads 72 = .ok (.iload 5, 2) := by decide +kernel
theorem dX5_reads_74 : decode cX5_reads 74 = .ok (.iconst 3, 1) := by decide +kernel
theorem dX5_reads_75 : decode cX5_reads 75 = .ok (.invokevirtual 57, 3) := by decide +kernel
theorem dX5_reads_78 : decode cX5_reads 78 = .ok (.ifCond .ne 8, 3) := by decide +kernel
theorem dX5_reads_81 : decode cX5_reads 81 = .ok (.iload 5, 2) := by decide +kernel
theorem dX5_reads_83 : decode cX5_reads 83 = .ok (.goto 5, 3) := by decide +kernel
theorem dX5_reads_86 : decode cX5_reads 86 = .ok (.iload 4, 2) := by decide +kernel
theorem dX5_reads_88 : decode cX5_reads 88 = .ok (.istore 4, 2) := by decide +kernel
theorem dX5_reads_90 : decode cX5_reads 90 = .ok (.iinc 5 (-1), 3) := by decide +kernel
theorem dX5_reads_93 : decode cX5_reads 93 = .ok (.goto (-49), 3) := by decide +kernel
theorem dX5_reads_96 : decode cX5_reads 96 = .ok (.iload 4, 2) := by decide +kernel
theorem dX5_reads_98 : decode cX5_reads 98 = .ok (.ireturn, 1) := by decide +kernel
theorem dX5_isGiving_0 : decode cX5_isGiving 0 = .ok (.aload_n 0, 1) := by decide +kernel
theorem dX5_isGiving_1 : decode cX5_isGiving 1 = .ok (.iload_n 2, 1) := by decide +kernel
theorem dX5_isGiving_2 : decode cX5_isGiving 2 = .ok (.iconst 2, 1) := by decide +kernel
theorem dX5_isGiving_3 : decode cX5_isGiving 3 = .ok (.invokevirtual 49, 3) := by decide +kernel
theorem dX5_isGiving_6 : decode cX5_isGiving 6 = .ok (.istore_n 3, 1) := by decide +kernel
theorem dX5_isGiving_7 : decode cX5_isGiving 7 = .ok (.aload_n 0, 1) := by decide +kernel
theorem dX5_isGiving_8 : decode cX5_isGiving 8 = .ok (.iload_n 1, 1) := by decide +kernel
theorem dX5_isGiving_9 : decode cX5_isGiving 9 = .ok (.iconst 0, 1) := by decide +kernel
theorem dX5_isGiving_10 : decode cX5_isGiving 10 = .ok (.invokevirtual 57, 3) := by decide +kernel
theorem dX5_isGiving_13 : decode cX5_isGiving 13 = .ok (.tableswitch 51 1 5 #[35, 37, 39, 35, 37], 35) := by decide +kernel
theorem dX5_isGiving_48 : decode cX5_isGiving 48 = .ok (.iconst 1, 1) := by decide +kernel
theorem dX5_isGiving_49 : decode cX5_isGiving 49 = .ok (.ireturn, 1) := by decide +kernel
theorem dX5_isGiving_50 : decode cX5_isGiving 50 = .ok (.iconst 0, 1) := by decide +kernel
theorem dX5_isGiving_51 : decode cX5_isGiving 51 = .ok (.ireturn, 1) := by decide +kernel
theorem dX5_isGiving_52 : decode cX5_isGiving 52 = .ok (.iload_n 3, 1) := by decide +kernel
theorem dX5_isGiving_53 : decode cX5_isGiving 53 = .ok (.bipush 80, 2) := by decide +kernel
theorem dX5_isGiving_55 : decode cX5_isGiving 55 = .ok (.if_icmp .lt 7, 3) := by decide +kernel
theorem dX5_isGiving_58 : decode cX5_isGiving 58 = .ok (.iconst 1, 1) := by decide +kernel
theorem dX5_isGiving_59 : decode cX5_isGiving 59 = .ok (.goto 4, 3) := by decide +kernel
theorem dX5_isGiving_62 : decode cX5_isGiving 62 = .ok (.iconst 0, 1) := by decide +kernel
theorem dX5_isGiving_63 : decode cX5_isGiving 63 = .ok (.ireturn, 1) := by decide +kernel
theorem dX5_isGiving_64 : decode cX5_isGiving 64 = .ok (.iload_n 3, 1) := by decide +kernel
theorem dX5_isGiving_65 : decode cX5_isGiving 65 = .ok (.bipush 60, 2) := by decide +kernel
theorem dX5_isGiving_67 : decode cX5_isGiving 67 = .ok (.if_icmp .lt 7, 3) := by decide +kernel
theorem dX5_isGiving_70 : decode cX5_isGiving 70 = .ok (.iconst 1, 1) := by decide +kernel
theorem dX5_isGiving_71 : decode cX5_isGiving 71 = .ok (.goto 4, 3) := by decide +kernel
theorem dX5_isGiving_74 : decode cX5_isGiving 74 = .ok (.iconst 0, 1) := by decide +kernel
theorem dX5_isGiving_75 : decode cX5_isGiving 75 = .ok (.ireturn, 1) := by decide +kernel
theorem dX5_isClaiming_0 : decode cX5_isClaiming 0 = .ok (.aload_n 0, 1) := by decide +kernel
theorem dX5_isClaiming_1 : decode cX5_isClaiming 1 = .ok (.iload_n 2, 1) := by decide +kernel
theorem dX5_isClaiming_2 : decode cX5_isClaiming 2 = .ok (.iconst 0, 1) := by decide +kernel
theorem dX5_isClaiming_3 : decode cX5_isClaiming 3 = .ok (.invokevirtual 49, 3) := by decide +kernel
theorem dX5_isClaiming_6 : decode cX5_isClaiming 6 = .ok (.iload_n 1, 1) := by decide +kernel
theorem dX5_isClaiming_7 : decode cX5_isClaiming 7 = .ok (.if_icmp .ne 7, 3) := by decide +kernel
theorem dX5_isClaiming_10 : decode cX5_isClaiming 10 = .ok (.iconst 1, 1) := by decide +kernel
theorem dX5_isClaiming_11 : decode cX5_isClaiming 11 = .ok (.goto 4, 3) := by decide +kernel
theorem dX5_isClaiming_14 : decode cX5_isClaiming 14 = .ok (.iconst 0, 1) := by decide +kernel
theorem dX5_isClaiming_15 : decode cX5_isClaiming 15 = .ok (.istore_n 3, 1) := by decide +kernel
theorem dX5_isClaiming_16 : decode cX5_isClaiming 16 = .ok (.aload_n 0, 1) := by decide +kernel
theorem dX5_isClaiming_17 : decode cX5_isClaiming 17 = .ok (.iload_n 2, 1) := by decide +kernel
theorem dX5_isClaiming_18 : decode cX5_isClaiming 18 = .ok (.iconst 2, 1) := by decide +kernel
theorem dX5_isClaiming_19 : decode cX5_isClaiming 19 = .ok (.invokevirtual 49, 3) := by decide +kernel
theorem dX5_isClaiming_22 : decode cX5_isClaiming 22 = .ok (.istore 4, 2) := by decide +kernel
theorem dX5_isClaiming_24 : decode cX5_isClaiming 24 = .ok (.aload_n 0, 1) := by decide +kernel
theorem dX5_isClaiming_25 : decode cX5_isClaiming 25 = .ok (.iload_n 1, 1) := by decide +kernel
theorem dX5_isClaiming_26 : decode cX5_isClaiming 26 = .ok (.iconst 0, 1) := by decide +kernel
theorem dX5_isClaiming_27 : decode cX5_isClaiming 27 = .ok (.invokevirtual 57, 3) := by decide +kernel
theorem dX5_isClaiming_30 : decode cX5_isClaiming 30 = .ok (.tableswitch 71 1 5 #[34, 36, 71, 34, 50], 34) := by decide +kernel
theorem dX5_isClaiming_64 : decode cX5_isClaiming 64 = .ok (.iload_n 3, 1) := by decide +kernel
theorem dX5_isClaiming_65 : decode cX5_isClaiming 65 = .ok (.ireturn, 1) := by decide +kernel
theorem dX5_isClaiming_66 : decode cX5_isClaiming 66 = .ok (.aload_n 0, 1) := by decide +kernel
theorem dX5_isClaiming_67 : decode cX5_isClaiming 67 = .ok (.iload_n 1, 1) := by decide +kernel
theorem dX5_isClaiming_68 : decode cX5_isClaiming 68 = .ok (.invokevirtual 60, 3) := by decide +kernel
theorem dX5_isClaiming_71 : decode cX5_isClaiming 71 = .ok (.ifCond .ne 7, 3) := by decide +kernel
theorem dX5_isClaiming_74 : decode cX5_isClaiming 74 = .ok (.iconst 1, 1) := by decide +kernel
theorem dX5_isClaiming_75 : decode cX5_isClaiming 75 = .ok (.goto 4, 3) := by decide +kernel
theorem dX5_isClaiming_78 : decode cX5_isClaiming 78 = .ok (.iconst 0, 1) := by decide +kernel
theorem dX5_isClaiming_79 : decode cX5_isClaiming 79 = .ok (.ireturn, 1) := by decide +kernel
theorem dX5_isClaiming_80 : decode cX5_isClaiming 80 = .ok (.iload 4, 2) := by decide +kernel
theorem dX5_isClaiming_82 : decode cX5_isClaiming 82 = .ok (.bipush 50, 2) := by decide +kernel
theorem dX5_isClaiming_84 : decode cX5_isClaiming 84 = .ok (.if_icmp .ge 11, 3) := by decide +kernel
theorem dX5_isClaiming_87 : decode cX5_isClaiming 87 = .ok (.aload_n 0, 1) := by decide +kernel
theorem dX5_isClaiming_88 : decode cX5_isClaiming 88 = .ok (.iload_n 1, 1) := by decide +kernel
theorem dX5_isClaiming_89 : decode cX5_isClaiming 89 = .ok (.invokevirtual 60, 3) := by decide +kernel
theorem dX5_isClaiming_92 : decode cX5_isClaiming 92 = .ok (.ifCond .ne 7, 3) := by decide +kernel
theorem dX5_isClaiming_95 : decode cX5_isClaiming 95 = .ok (.iconst 1, 1) := by decide +kernel
theorem dX5_isClaiming_96 : decode cX5_isClaiming 96 = .ok (.goto 4, 3) := by decide +kernel
theorem dX5_isClaiming_99 : decode cX5_isClaiming 99 = .ok (.iconst 0, 1) := by decide +kernel
theorem dX5_isClaiming_100 : decode cX5_isClaiming 100 = .ok (.ireturn, 1) := by decide +kernel
theorem dX5_isClaiming_101 : decode cX5_isClaiming 101 = .ok (.iload_n 3, 1) := by decide +kernel
theorem dX5_isClaiming_102 : decode cX5_isClaiming 102 = .ok (.ifCond .eq 13, 3) := by decide +kernel
theorem dX5_isClaiming_105 : decode cX5_isClaiming 105 = .ok (.iload 4, 2) := by decide +kernel
theorem dX5_isClaiming_107 : decode cX5_isClaiming 107 = .ok (.iconst 1, 1) := by decide +kernel
theorem dX5_isClaiming_108 : decode cX5_isClaiming 108 = .ok (.if_icmp .lt 7, 3) := by decide +kernel
theorem dX5_isClaiming_111 : decode cX5_isClaiming 111 = .ok (.iconst 1, 1) := by decide +kernel
theorem dX5_isClaiming_112 : decode cX5_isClaiming 112 = .ok (.goto 4, 3) := by decide +kernel
theorem dX5_isClaiming_115 : decode cX5_isClaiming 115 = .ok (.iconst 0, 1) := by decide +kernel
theorem dX5_isClaiming_116 : decode cX5_isClaiming 116 = .ok (.ireturn, 1) := by decide +kernel
theorem dX5_minds_0 : decode cX5_minds 0 = .ok (.aload_n 0, 1) := by decide +kernel
theorem dX5_minds_1 : decode cX5_minds 1 = .ok (.iload_n 1, 1) := by decide +kernel
theorem dX5_minds_2 : decode cX5_minds 2 = .ok (.invokevirtual 60, 3) := by decide +kernel
theorem dX5_minds_5 : decode cX5_minds 5 = .ok (.istore_n 2, 1) := by decide +kernel
theorem dX5_minds_6 : decode cX5_minds 6 = .ok (.iload_n 2, 1) := by decide +kernel
theorem dX5_minds_7 : decode cX5_minds 7 = .ok (.aload_n 0, 1) := by decide +kernel
theorem dX5_minds_8 : decode cX5_minds 8 = .ok (.iload_n 1, 1) := by decide +kernel
theorem dX5_minds_9 : decode cX5_minds 9 = .ok (.invokevirtual 64, 3) := by decide +kernel
theorem dX5_minds_12 : decode cX5_minds 12 = .ok (.iand, 1) := by decide +kernel
theorem dX5_minds_13 : decode cX5_minds 13 = .ok (.invokestatic 67, 3) := by decide +kernel
theorem dX5_minds_16 : decode cX5_minds 16 = .ok (.istore_n 3, 1) := by decide +kernel
theorem dX5_minds_17 : decode cX5_minds 17 = .ok (.iload_n 2, 1) := by decide +kernel
theorem dX5_minds_18 : decode cX5_minds 18 = .ok (.invokestatic 67, 3) := by decide +kernel
theorem dX5_minds_21 : decode cX5_minds 21 = .ok (.iload_n 3, 1) := by decide +kernel
theorem dX5_minds_22 : decode cX5_minds 22 = .ok (.isub, 1) := by decide +kernel
theorem dX5_minds_23 : decode cX5_minds 23 = .ok (.istore 4, 2) := by decide +kernel
theorem dX5_minds_25 : decode cX5_minds 25 = .ok (.aload_n 0, 1) := by decide +kernel
theorem dX5_minds_26 : decode cX5_minds 26 = .ok (.iload_n 1, 1) := by decide +kernel
theorem dX5_minds_27 : decode cX5_minds 27 = .ok (.iconst 0, 1) := by decide +kernel
theorem dX5_minds_28 : decode cX5_minds 28 = .ok (.invokevirtual 57, 3) := by decide +kernel
theorem dX5_minds_31 : decode cX5_minds 31 = .ok (.tableswitch 83 1 5 #[33, 64, 76, 42, 69], 33) := by decide +kernel
theorem dX5_minds_64 : decode cX5_minds 64 = .ok (.iconst 2, 1) := by decide +kernel
theorem dX5_minds_65 : decode cX5_minds 65 = .ok (.iload_n 3, 1) := by decide +kernel
theorem dX5_minds_66 : decode cX5_minds 66 = .ok (.imul, 1) := by decide +kernel
theorem dX5_minds_67 : decode cX5_minds 67 = .ok (.iconst 3, 1) := by decide +kernel
theorem dX5_minds_68 : decode cX5_minds 68 = .ok (.iload 4, 2) := by decide +kernel
theorem dX5_minds_70 : decode cX5_minds 70 = .ok (.imul, 1) := by decide +kernel
theorem dX5_minds_71 : decode cX5_minds 71 = .ok (.isub, 1) := by decide +kernel
theorem dX5_minds_72 : decode cX5_minds 72 = .ok (.ireturn, 1) := by decide +kernel
theorem dX5_minds_73 : decode cX5_minds 73 = .ok (.iload 4, 2) := by decide +kernel
theorem dX5_minds_75 : decode cX5_minds 75 = .ok (.ifCond .ne 11, 3) := by decide +kernel
theorem dX5_minds_78 : decode cX5_minds 78 = .ok (.iconst 2, 1) := by decide +kernel
theorem dX5_minds_79 : decode cX5_minds 79 = .ok (.iload_n 3, 1) := by decide +kernel
theorem dX5_minds_80 : decode cX5_minds 80 = .ok (.imul, 1) := by decide +kernel
theorem dX5_minds_81 : decode cX5_minds 81 = .ok (.iconst 2, 1) := by decide +kernel
theorem dX5_minds_82 : decode cX5_minds 82 = .ok (.iadd, 1) := by decide +kernel
theorem dX5_minds_83 : decode cX5_minds 83 = .ok (.goto 11, 3) := by decide +kernel
theorem dX5_minds_86 : decode cX5_minds 86 = .ok (.iconst 2, 1) := by decide +kernel
theorem dX5_minds_87 : decode cX5_minds 87 = .ok (.iload_n 3, 1) := by decide +kernel
theorem dX5_minds_88 : decode cX5_minds 88 = .ok (.imul, 1) := by decide +kernel
theorem dX5_minds_89 : decode cX5_minds 89 = .ok (.iconst 3, 1) := by decide +kernel
theorem dX5_minds_90 : decode cX5_minds 90 = .ok (.iload 4, 2) := by decide +kernel
theorem dX5_minds_92 : decode cX5_minds 92 = .ok (.imul, 1) := by decide +kernel
theorem dX5_minds_93 : decode cX5_minds 93 = .ok (.isub, 1) := by decide +kernel
theorem dX5_minds_94 : decode cX5_minds 94 = .ok (.ireturn, 1) := by decide +kernel
theorem dX5_minds_95 : decode cX5_minds 95 = .ok (.iload_n 3, 1) := by decide +kernel
theorem dX5_minds_96 : decode cX5_minds 96 = .ok (.iload 4, 2) := by decide +kernel
theorem dX5_minds_98 : decode cX5_minds 98 = .ok (.iadd, 1) := by decide +kernel
theorem dX5_minds_99 : decode cX5_minds 99 = .ok (.ireturn, 1) := by decide +kernel
theorem dX5_minds_100 : decode cX5_minds 100 = .ok (.iload_n 3, 1) := by decide +kernel
theorem dX5_minds_101 : decode cX5_minds 101 = .ok (.iconst 2, 1) := by decide +kernel
theorem dX5_minds_102 : decode cX5_minds 102 = .ok (.iload 4, 2) := by decide +kernel
theorem dX5_minds_104 : decode cX5_minds 104 = .ok (.imul, 1) := by decide +kernel
theorem dX5_minds_105 : decode cX5_minds 105 = .ok (.iadd, 1) := by decide +kernel
theorem dX5_minds_106 : decode cX5_minds 106 = .ok (.ireturn, 1) := by decide +kernel
theorem dX5_minds_107 : decode cX5_minds 107 = .ok (.iload_n 3, 1) := by decide +kernel
theorem dX5_minds_108 : decode cX5_minds 108 = .ok (.iload 4, 2) := by decide +kernel
theorem dX5_minds_110 : decode cX5_minds 110 = .ok (.isub, 1) := by decide +kernel
theorem dX5_minds_111 : decode cX5_minds 111 = .ok (.iconst 1, 1) := by decide +kernel
theorem dX5_minds_112 : decode cX5_minds 112 = .ok (.iadd, 1) := by decide +kernel
theorem dX5_minds_113 : decode cX5_minds 113 = .ok (.ireturn, 1) := by decide +kernel
theorem dX5_minds_114 : decode cX5_minds 114 = .ok (.iload_n 3, 1) := by decide +kernel
theorem dX5_minds_115 : decode cX5_minds 115 = .ok (.iload 4, 2) := by decide +kernel
theorem dX5_minds_117 : decode cX5_minds 117 = .ok (.isub, 1) := by decide +kernel
theorem dX5_minds_118 : decode cX5_minds 118 = .ok (.ireturn, 1) := by decide +kernel
theorem dX5_heat_0 : decode cX5_heat 0 = .ok (.iload_n 1, 1) := by decide +kernel
theorem dX5_heat_1 : decode cX5_heat 1 = .ok (.bipush 20, 2) := by decide +kernel
theorem dX5_heat_3 : decode cX5_heat 3 = .ok (.bipush 90, 2) := by decide +kernel
theorem dX5_heat_5 : decode cX5_heat 5 = .ok (.invokestatic 45, 3) := by decide +kernel
theorem dX5_heat_8 : decode cX5_heat 8 = .ok (.ifCond .eq 12, 3) := by decide +kernel
theorem dX5_heat_11 : decode cX5_heat 11 = .ok (.aload_n 0, 1) := by decide +kernel
theorem dX5_heat_12 : decode cX5_heat 12 = .ok (.iconst 1, 1) := by decide +kernel
theorem dX5_heat_13 : decode cX5_heat 13 = .ok (.iload_n 1, 1) := by decide +kernel
theorem dX5_heat_14 : decode cX5_heat 14 = .ok (.invokevirtual 70, 3) := by decide +kernel
theorem dX5_heat_17 : decode cX5_heat 17 = .ok (.goto 9, 3) := by decide +kernel
theorem dX5_heat_20 : decode cX5_heat 20 = .ok (.aload_n 0, 1) := by decide +kernel
theorem dX5_heat_21 : decode cX5_heat 21 = .ok (.ldc 44, 2) := by decide +kernel
theorem dX5_heat_23 : decode cX5_heat 23 = .ok (.invokevirtual 73, 3) := by decide +kernel
theorem dX5_heat_26 : decode cX5_heat 26 = .ok (.ireturn, 1) := by decide +kernel
theorem dX5_living_0 : decode cX5_living 0 = .ok (.iconst 0, 1) := by decide +kernel
theorem dX5_living_1 : decode cX5_living 1 = .ok (.istore_n 1, 1) := by decide +kernel
theorem dX5_living_2 : decode cX5_living 2 = .ok (.iconst 0, 1) := by decide +kernel
theorem dX5_living_3 : decode cX5_living 3 = .ok (.istore_n 2, 1) := by decide +kernel
theorem dX5_living_4 : decode cX5_living 4 = .ok (.iload_n 2, 1) := by decide +kernel
theorem dX5_living_5 : decode cX5_living 5 = .ok (.aload_n 0, 1) := by decide +kernel
theorem dX5_living_6 : decode cX5_living 6 = .ok (.getfield 7, 3) := by decide +kernel
theorem dX5_living_9 : decode cX5_living 9 = .ok (.iconst 2, 1) := by decide +kernel
theorem dX5_living_10 : decode cX5_living 10 = .ok (.iaload, 1) := by decide +kernel
theorem dX5_living_11 : decode cX5_living 11 = .ok (.if_icmp .ge 28, 3) := by decide +kernel
theorem dX5_living_14 : decode cX5_living 14 = .ok (.iload_n 1, 1) := by decide +kernel
theorem dX5_living_15 : decode cX5_living 15 = .ok (.aload_n 0, 1) := by decide +kernel
theorem dX5_living_16 : decode cX5_living 16 = .ok (.iload_n 2, 1) := by decide +kernel
theorem dX5_living_17 : decode cX5_living 17 = .ok (.iconst 3, 1) := by decide +kernel
theorem dX5_living_18 : decode cX5_living 18 = .ok (.invokevirtual 57, 3) := by decide +kernel
theorem dX5_living_21 : decode cX5_living 21 = .ok (.ifCond .ne 9, 3) := by decide +kernel
theorem dX5_living_24 : decode cX5_living 24 = .ok (.iconst 1, 1) := by decide +kernel
theorem dX5_living_25 : decode cX5_living 25 = .ok (.iload_n 2, 1) := by decide +kernel
theorem dX5_living_26 : decode cX5_living 26 = .ok (.ishl, 1) := by decide +kernel
theorem dX5_living_27 : decode cX5_living 27 = .ok (.goto 4, 3) := by decide +kernel
theorem dX5_living_30 : decode cX5_living 30 = .ok (.iconst 0, 1) := by decide +kernel
theorem dX5_living_31 : decode cX5_living 31 = .ok (.ior, 1) := by decide +kernel
theorem dX5_living_32 : decode cX5_living 32 = .ok (.istore_n 1, 1) := by decide +kernel
theorem dX5_living_33 : decode cX5_living 33 = .ok (.iinc 2 1, 3) := by decide +kernel
theorem dX5_living_36 : decode cX5_living 36 = .ok (.goto (-32), 3) := by decide +kernel
theorem dX5_living_39 : decode cX5_living 39 = .ok (.iload_n 1, 1) := by decide +kernel
theorem dX5_living_40 : decode cX5_living 40 = .ok (.ireturn, 1) := by decide +kernel
theorem dX5_contentOfAll_0 : decode cX5_contentOfAll 0 = .ok (.iconst 0, 1) := by decide +kernel
theorem dX5_contentOfAll_1 : decode cX5_contentOfAll 1 = .ok (.istore_n 1, 1) := by decide +kernel
theorem dX5_contentOfAll_2 : decode cX5_contentOfAll 2 = .ok (.iconst 0, 1) := by decide +kernel
theorem dX5_contentOfAll_3 : decode cX5_contentOfAll 3 = .ok (.istore_n 2, 1) := by decide +kernel
theorem dX5_contentOfAll_4 : decode cX5_contentOfAll 4 = .ok (.iload_n 2, 1) := by decide +kernel
theorem dX5_contentOfAll_5 : decode cX5_contentOfAll 5 = .ok (.aload_n 0, 1) := by decide +kernel
theorem dX5_contentOfAll_6 : decode cX5_contentOfAll 6 = .ok (.getfield 7, 3) := by decide +kernel
theorem dX5_contentOfAll_9 : decode cX5_contentOfAll 9 = .ok (.iconst 2, 1) := by decide +kernel
theorem dX5_contentOfAll_10 : decode cX5_contentOfAll 10 = .ok (.iaload, 1) := by decide +kernel
theorem dX5_contentOfAll_11 : decode cX5_contentOfAll 11 = .ok (.if_icmp .ge 18, 3) := by decide +kernel
theorem dX5_contentOfAll_14 : decode cX5_contentOfAll 14 = .ok (.iload_n 1, 1) := by decide +kernel
theorem dX5_contentOfAll_15 : decode cX5_contentOfAll 15 = .ok (.aload_n 0, 1) := by decide +kernel
theorem dX5_contentOfAll_16 : decode cX5_contentOfAll 16 = .ok (.iload_n 2, 1) := by decide +kernel
theorem dX5_contentOfAll_17 : decode cX5_contentOfAll 17 = .ok (.iconst 2, 1) := by decide +kernel
theorem dX5_contentOfAll_18 : decode cX5_contentOfAll 18 = .ok (.invokevirtual 57, 3) := by decide +kernel
theorem dX5_contentOfAll_21 : decode cX5_contentOfAll 21 = .ok (.iadd, 1) := by decide +kernel
theorem dX5_contentOfAll_22 : decode cX5_contentOfAll 22 = .ok (.istore_n 1, 1) := by decide +kernel
theorem dX5_contentOfAll_23 : decode cX5_contentOfAll 23 = .ok (.iinc 2 1, 3) := by decide +kernel
theorem dX5_contentOfAll_26 : decode cX5_contentOfAll 26 = .ok (.goto (-22), 3) := by decide +kernel
theorem dX5_contentOfAll_29 : decode cX5_contentOfAll 29 = .ok (.iload_n 1, 1) := by decide +kernel
theorem dX5_contentOfAll_30 : decode cX5_contentOfAll 30 = .ok (.ireturn, 1) := by decide +kernel
theorem dX5_now_0 : decode cX5_now 0 = .ok (.iload_n 1, 1) := by decide +kernel
theorem dX5_now_1 : decode cX5_now 1 = .ok (.tableswitch 78 0 5 #[39, 46, 53, 59, 64, 69], 39) := by decide +kernel
theorem dX5_now_40 : decode cX5_now 40 = .ok (.aload_n 0, 1) := by decide +kernel
theorem dX5_now_41 : decode cX5_now 41 = .ok (.getfield 7, 3) := by decide +kernel
theorem dX5_now_44 : decode cX5_now 44 = .ok (.iconst 0, 1) := by decide +kernel
theorem dX5_now_45 : decode cX5_now 45 = .ok (.iaload, 1) := by decide +kernel
theorem dX5_now_46 : decode cX5_now 46 = .ok (.ireturn, 1) := by decide +kernel
theorem dX5_now_47 : decode cX5_now 47 = .ok (.aload_n 0, 1) := by decide +kernel
theorem dX5_now_48 : decode cX5_now 48 = .ok (.getfield 7, 3) := by decide +kernel
theorem dX5_now_51 : decode cX5_now 51 = .ok (.iconst 1, 1) := by decide +kernel
theorem dX5_now_52 : decode cX5_now 52 = .ok (.iaload, 1) := by decide +kernel
theorem dX5_now_53 : decode cX5_now 53 = .ok (.ireturn, 1) := by decide +kernel
theorem dX5_now_54 : decode cX5_now 54 = .ok (.aload_n 0, 1) := by decide +kernel
theorem dX5_now_55 : decode cX5_now 55 = .ok (.iconst (-1), 1) := by decide +kernel
theorem dX5_now_56 : decode cX5_now 56 = .ok (.invokevirtual 60, 3) := by decide +kernel
theorem dX5_now_59 : decode cX5_now 59 = .ok (.ireturn, 1) := by decide +kernel
theorem dX5_now_60 : decode cX5_now 60 = .ok (.aload_n 0, 1) := by decide +kernel
theorem dX5_now_61 : decode cX5_now 61 = .ok (.invokevirtual 76, 3) := by decide +kernel
theorem dX5_now_64 : decode cX5_now 64 = .ok (.ireturn, 1) := by decide +kernel
theorem dX5_now_65 : decode cX5_now 65 = .ok (.aload_n 0, 1) := by decide +kernel
theorem dX5_now_66 : decode cX5_now 66 = .ok (.invokevirtual 80, 3) := by decide +kernel
theorem dX5_now_69 : decode cX5_now 69 = .ok (.ireturn, 1) := by decide +kernel
theorem dX5_now_70 : decode cX5_now 70 = .ok (.sipush 10000, 3) := by decide +kernel
theorem dX5_now_73 : decode cX5_now 73 = .ok (.aload_n 0, 1) := by decide +kernel
theorem dX5_now_74 : decode cX5_now 74 = .ok (.invokevirtual 83, 3) := by decide +kernel
theorem dX5_now_77 : decode cX5_now 77 = .ok (.iadd, 1) := by decide +kernel
theorem dX5_now_78 : decode cX5_now 78 = .ok (.ireturn, 1) := by decide +kernel
theorem dX5_now_79 : decode cX5_now 79 = .ok (.aload_n 0, 1) := by decide +kernel
theorem dX5_now_80 : decode cX5_now 80 = .ok (.ldc 44, 2) := by decide +kernel
theorem dX5_now_82 : decode cX5_now 82 = .ok (.invokevirtual 73, 3) := by decide +kernel
theorem dX5_now_85 : decode cX5_now 85 = .ok (.ireturn, 1) := by decide +kernel
theorem dX5_adds_0 : decode cX5_adds 0 = .ok (.aload_n 0, 1) := by decide +kernel
theorem dX5_adds_1 : decode cX5_adds 1 = .ok (.getfield 7, 3) := by decide +kernel
theorem dX5_adds_4 : decode cX5_adds 4 = .ok (.iconst 2, 1) := by decide +kernel
theorem dX5_adds_5 : decode cX5_adds 5 = .ok (.iaload, 1) := by decide +kernel
theorem dX5_adds_6 : decode cX5_adds 6 = .ok (.istore_n 3, 1) := by decide +kernel
theorem dX5_adds_7 : decode cX5_adds 7 = .ok (.aload_n 0, 1) := by decide +kernel
theorem dX5_adds_8 : decode cX5_adds 8 = .ok (.iload_n 3, 1) := by decide +kernel
theorem dX5_adds_9 : decode cX5_adds 9 = .ok (.iconst 0, 1) := by decide +kernel
theorem dX5_adds_10 : decode cX5_adds 10 = .ok (.iload_n 1, 1) := by decide +kernel
theorem dX5_adds_11 : decode cX5_adds 11 = .ok (.invokevirtual 86, 3) := by decide +kernel
theorem dX5_adds_14 : decode cX5_adds 14 = .ok (.aload_n 0, 1) := by decide +kernel
theorem dX5_adds_15 : decode cX5_adds 15 = .ok (.iload_n 3, 1) := by decide +kernel
theorem dX5_adds_16 : decode cX5_adds 16 = .ok (.iconst 1, 1) := by decide +kernel
theorem dX5_adds_17 : decode cX5_adds 17 = .ok (.iload_n 2, 1) := by decide +kernel
theorem dX5_adds_18 : decode cX5_adds 18 = .ok (.invokevirtual 86, 3) := by decide +kernel
theorem dX5_adds_21 : decode cX5_adds 21 = .ok (.aload_n 0, 1) := by decide +kernel
theorem dX5_adds_22 : decode cX5_adds 22 = .ok (.iload_n 3, 1) := by decide +kernel
theorem dX5_adds_23 : decode cX5_adds 23 = .ok (.iconst 2, 1) := by decide +kernel
theorem dX5_adds_24 : decode cX5_adds 24 = .ok (.iconst 0, 1) := by decide +kernel
theorem dX5_adds_25 : decode cX5_adds 25 = .ok (.invokevirtual 86, 3) := by decide +kernel
theorem dX5_adds_28 : decode cX5_adds 28 = .ok (.aload_n 0, 1) := by decide +kernel
end
section
theorem dX5_adds_29 : decode cX5_adds 29 = .ok (.iload_n 3, 1) := by decide +kernel
theorem dX5_adds_30 : decode cX5_adds 30 = .ok (.iconst 3, 1) := by decide +kernel
theorem dX5_adds_31 : decode cX5_adds 31 = .ok (.iconst 0, 1) := by decide +kernel
theorem dX5_adds_32 : decode cX5_adds 32 = .ok (.invokevirtual 86, 3) := by decide +kernel
theorem dX5_adds_35 : decode cX5_adds 35 = .ok (.aload_n 0, 1) := by decide +kernel
theorem dX5_adds_36 : decode cX5_adds 36 = .ok (.getfield 7, 3) := by decide +kernel
theorem dX5_adds_39 : decode cX5_adds 39 = .ok (.iconst 2, 1) := by decide +kernel
theorem dX5_adds_40 : decode cX5_adds 40 = .ok (.dup2, 1) := by decide +kernel
theorem dX5_adds_41 : decode cX5_adds 41 = .ok (.iaload, 1) := by decide +kernel
theorem dX5_adds_42 : decode cX5_adds 42 = .ok (.iconst 1, 1) := by decide +kernel
theorem dX5_adds_43 : decode cX5_adds 43 = .ok (.iadd, 1) := by decide +kernel
theorem dX5_adds_44 : decode cX5_adds 44 = .ok (.iastore, 1) := by decide +kernel
theorem dX5_adds_45 : decode cX5_adds 45 = .ok (.return_, 1) := by decide +kernel
theorem dX5_person_0 : decode cX5_person 0 = .ok (.iload_n 1, 1) := by decide +kernel
theorem dX5_person_1 : decode cX5_person 1 = .ok (.invokestatic 90, 3) := by decide +kernel
theorem dX5_person_4 : decode cX5_person 4 = .ok (.ifCond .ne 10, 3) := by decide +kernel
theorem dX5_person_7 : decode cX5_person 7 = .ok (.aload_n 0, 1) := by decide +kernel
theorem dX5_person_8 : decode cX5_person 8 = .ok (.ldc 44, 2) := by decide +kernel
theorem dX5_person_10 : decode cX5_person 10 = .ok (.invokevirtual 73, 3) := by decide +kernel
theorem dX5_person_13 : decode cX5_person 13 = .ok (.ireturn, 1) := by decide +kernel
theorem dX5_person_14 : decode cX5_person 14 = .ok (.aload_n 0, 1) := by decide +kernel
theorem dX5_person_15 : decode cX5_person 15 = .ok (.getfield 7, 3) := by decide +kernel
theorem dX5_person_18 : decode cX5_person 18 = .ok (.iconst 2, 1) := by decide +kernel
theorem dX5_person_19 : decode cX5_person 19 = .ok (.iaload, 1) := by decide +kernel
theorem dX5_person_20 : decode cX5_person 20 = .ok (.bipush 6, 2) := by decide +kernel
theorem dX5_person_22 : decode cX5_person 22 = .ok (.if_icmp .ne 10, 3) := by decide +kernel
theorem dX5_person_25 : decode cX5_person 25 = .ok (.aload_n 0, 1) := by decide +kernel
theorem dX5_person_26 : decode cX5_person 26 = .ok (.ldc 93, 2) := by decide +kernel
theorem dX5_person_28 : decode cX5_person 28 = .ok (.invokevirtual 73, 3) := by decide +kernel
theorem dX5_person_31 : decode cX5_person 31 = .ok (.ireturn, 1) := by decide +kernel
theorem dX5_person_32 : decode cX5_person 32 = .ok (.aload_n 0, 1) := by decide +kernel
theorem dX5_person_33 : decode cX5_person 33 = .ok (.iload_n 1, 1) := by decide +kernel
theorem dX5_person_34 : decode cX5_person 34 = .ok (.aload_n 0, 1) := by decide +kernel
theorem dX5_person_35 : decode cX5_person 35 = .ok (.getfield 7, 3) := by decide +kernel
theorem dX5_person_38 : decode cX5_person 38 = .ok (.iconst 2, 1) := by decide +kernel
theorem dX5_person_39 : decode cX5_person 39 = .ok (.iaload, 1) := by decide +kernel
theorem dX5_person_40 : decode cX5_person 40 = .ok (.iconst 3, 1) := by decide +kernel
theorem dX5_person_41 : decode cX5_person 41 = .ok (.irem, 1) := by decide +kernel
theorem dX5_person_42 : decode cX5_person 42 = .ok (.invokevirtual 94, 3) := by decide +kernel
theorem dX5_person_45 : decode cX5_person 45 = .ok (.aload_n 0, 1) := by decide +kernel
theorem dX5_person_46 : decode cX5_person 46 = .ok (.getfield 7, 3) := by decide +kernel
theorem dX5_person_49 : decode cX5_person 49 = .ok (.iconst 2, 1) := by decide +kernel
theorem dX5_person_50 : decode cX5_person 50 = .ok (.iaload, 1) := by decide +kernel
theorem dX5_person_51 : decode cX5_person 51 = .ok (.iconst 1, 1) := by decide +kernel
theorem dX5_person_52 : decode cX5_person 52 = .ok (.isub, 1) := by decide +kernel
theorem dX5_person_53 : decode cX5_person 53 = .ok (.ireturn, 1) := by decide +kernel
theorem dX5_of_0 : decode cX5_of 0 = .ok (.aload_n 0, 1) := by decide +kernel
theorem dX5_of_1 : decode cX5_of 1 = .ok (.iload_n 1, 1) := by decide +kernel
theorem dX5_of_2 : decode cX5_of 2 = .ok (.invokevirtual 98, 3) := by decide +kernel
theorem dX5_of_5 : decode cX5_of 5 = .ok (.ifCond .eq 12, 3) := by decide +kernel
theorem dX5_of_8 : decode cX5_of 8 = .ok (.iload_n 2, 1) := by decide +kernel
theorem dX5_of_9 : decode cX5_of 9 = .ok (.iconst 0, 1) := by decide +kernel
theorem dX5_of_10 : decode cX5_of 10 = .ok (.iconst 5, 1) := by decide +kernel
theorem dX5_of_11 : decode cX5_of 11 = .ok (.invokestatic 45, 3) := by decide +kernel
theorem dX5_of_14 : decode cX5_of 14 = .ok (.ifCond .ne 10, 3) := by decide +kernel
theorem dX5_of_17 : decode cX5_of 17 = .ok (.aload_n 0, 1) := by decide +kernel
theorem dX5_of_18 : decode cX5_of 18 = .ok (.ldc 44, 2) := by decide +kernel
theorem dX5_of_20 : decode cX5_of 20 = .ok (.invokevirtual 73, 3) := by decide +kernel
theorem dX5_of_23 : decode cX5_of 23 = .ok (.ireturn, 1) := by decide +kernel
theorem dX5_of_24 : decode cX5_of 24 = .ok (.iload_n 2, 1) := by decide +kernel
theorem dX5_of_25 : decode cX5_of 25 = .ok (.tableswitch 58 2 5 #[31, 58, 42, 48], 31) := by decide +kernel
theorem dX5_of_56 : decode cX5_of 56 = .ok (.sipush 1000, 3) := by decide +kernel
theorem dX5_of_59 : decode cX5_of 59 = .ok (.aload_n 0, 1) := by decide +kernel
theorem dX5_of_60 : decode cX5_of 60 = .ok (.iload_n 1, 1) := by decide +kernel
theorem dX5_of_61 : decode cX5_of 61 = .ok (.iconst 2, 1) := by decide +kernel
theorem dX5_of_62 : decode cX5_of 62 = .ok (.invokevirtual 57, 3) := by decide +kernel
theorem dX5_of_65 : decode cX5_of 65 = .ok (.iadd, 1) := by decide +kernel
theorem dX5_of_66 : decode cX5_of 66 = .ok (.ireturn, 1) := by decide +kernel
theorem dX5_of_67 : decode cX5_of 67 = .ok (.aload_n 0, 1) := by decide +kernel
theorem dX5_of_68 : decode cX5_of 68 = .ok (.iload_n 1, 1) := by decide +kernel
theorem dX5_of_69 : decode cX5_of 69 = .ok (.invokevirtual 60, 3) := by decide +kernel
theorem dX5_of_72 : decode cX5_of 72 = .ok (.ireturn, 1) := by decide +kernel
theorem dX5_of_73 : decode cX5_of 73 = .ok (.sipush 1000, 3) := by decide +kernel
theorem dX5_of_76 : decode cX5_of 76 = .ok (.aload_n 0, 1) := by decide +kernel
theorem dX5_of_77 : decode cX5_of 77 = .ok (.iload_n 1, 1) := by decide +kernel
theorem dX5_of_78 : decode cX5_of 78 = .ok (.invokevirtual 101, 3) := by decide +kernel
theorem dX5_of_81 : decode cX5_of 81 = .ok (.iadd, 1) := by decide +kernel
theorem dX5_of_82 : decode cX5_of 82 = .ok (.ireturn, 1) := by decide +kernel
theorem dX5_of_83 : decode cX5_of 83 = .ok (.aload_n 0, 1) := by decide +kernel
theorem dX5_of_84 : decode cX5_of 84 = .ok (.iload_n 1, 1) := by decide +kernel
theorem dX5_of_85 : decode cX5_of 85 = .ok (.iload_n 2, 1) := by decide +kernel
theorem dX5_of_86 : decode cX5_of 86 = .ok (.invokevirtual 57, 3) := by decide +kernel
theorem dX5_of_89 : decode cX5_of 89 = .ok (.ireturn, 1) := by decide +kernel
theorem dX5_isPart_0 : decode cX5_isPart 0 = .ok (.iload_n 0, 1) := by decide +kernel
theorem dX5_isPart_1 : decode cX5_isPart 1 = .ok (.lookupswitch 45 #[(1, 27), (2, 34)], 27) := by decide +kernel
theorem dX5_isPart_28 : decode cX5_isPart 28 = .ok (.iload_n 1, 1) := by decide +kernel
theorem dX5_isPart_29 : decode cX5_isPart 29 = .ok (.iconst 0, 1) := by decide +kernel
theorem dX5_isPart_30 : decode cX5_isPart 30 = .ok (.iconst 2, 1) := by decide +kernel
theorem dX5_isPart_31 : decode cX5_isPart 31 = .ok (.invokestatic 45, 3) := by decide +kernel
theorem dX5_isPart_34 : decode cX5_isPart 34 = .ok (.ireturn, 1) := by decide +kernel
theorem dX5_isPart_35 : decode cX5_isPart 35 = .ok (.iload_n 1, 1) := by decide +kernel
theorem dX5_isPart_36 : decode cX5_isPart 36 = .ok (.sipush (-999), 3) := by decide +kernel
theorem dX5_isPart_39 : decode cX5_isPart 39 = .ok (.sipush 999, 3) := by decide +kernel
theorem dX5_isPart_42 : decode cX5_isPart 42 = .ok (.invokestatic 45, 3) := by decide +kernel
theorem dX5_isPart_45 : decode cX5_isPart 45 = .ok (.ireturn, 1) := by decide +kernel
theorem dX5_isPart_46 : decode cX5_isPart 46 = .ok (.iload_n 0, 1) := by decide +kernel
theorem dX5_isPart_47 : decode cX5_isPart 47 = .ok (.iconst 3, 1) := by decide +kernel
theorem dX5_isPart_48 : decode cX5_isPart 48 = .ok (.if_icmp .ne 16, 3) := by decide +kernel
theorem dX5_isPart_51 : decode cX5_isPart 51 = .ok (.iload_n 1, 1) := by decide +kernel
theorem dX5_isPart_52 : decode cX5_isPart 52 = .ok (.iconst 0, 1) := by decide +kernel
theorem dX5_isPart_53 : decode cX5_isPart 53 = .ok (.iconst 1, 1) := by decide +kernel
theorem dX5_isPart_54 : decode cX5_isPart 54 = .ok (.invokestatic 45, 3) := by decide +kernel
theorem dX5_isPart_57 : decode cX5_isPart 57 = .ok (.ifCond .eq 7, 3) := by decide +kernel
theorem dX5_isPart_60 : decode cX5_isPart 60 = .ok (.iconst 1, 1) := by decide +kernel
theorem dX5_isPart_61 : decode cX5_isPart 61 = .ok (.goto 4, 3) := by decide +kernel
theorem dX5_isPart_64 : decode cX5_isPart 64 = .ok (.iconst 0, 1) := by decide +kernel
theorem dX5_isPart_65 : decode cX5_isPart 65 = .ok (.ireturn, 1) := by decide +kernel
theorem dX5_set_0 : decode cX5_set 0 = .ok (.aload_n 0, 1) := by decide +kernel
theorem dX5_set_1 : decode cX5_set 1 = .ok (.iload_n 1, 1) := by decide +kernel
theorem dX5_set_2 : decode cX5_set 2 = .ok (.invokevirtual 98, 3) := by decide +kernel
theorem dX5_set_5 : decode cX5_set 5 = .ok (.ifCond .eq 26, 3) := by decide +kernel
theorem dX5_set_8 : decode cX5_set 8 = .ok (.iload_n 2, 1) := by decide +kernel
theorem dX5_set_9 : decode cX5_set 9 = .ok (.iload_n 3, 1) := by decide +kernel
theorem dX5_set_10 : decode cX5_set 10 = .ok (.invokestatic 104, 3) := by decide +kernel
theorem dX5_set_13 : decode cX5_set 13 = .ok (.ifCond .eq 18, 3) := by decide +kernel
theorem dX5_set_16 : decode cX5_set 16 = .ok (.aload_n 0, 1) := by decide +kernel
theorem dX5_set_17 : decode cX5_set 17 = .ok (.iconst 4, 1) := by decide +kernel
theorem dX5_set_18 : decode cX5_set 18 = .ok (.iconst 4, 1) := by decide +kernel
theorem dX5_set_19 : decode cX5_set 19 = .ok (.iload_n 1, 1) := by decide +kernel
theorem dX5_set_20 : decode cX5_set 20 = .ok (.imul, 1) := by decide +kernel
theorem dX5_set_21 : decode cX5_set 21 = .ok (.iadd, 1) := by decide +kernel
theorem dX5_set_22 : decode cX5_set 22 = .ok (.iload_n 2, 1) := by decide +kernel
theorem dX5_set_23 : decode cX5_set 23 = .ok (.iadd, 1) := by decide +kernel
theorem dX5_set_24 : decode cX5_set 24 = .ok (.iload_n 3, 1) := by decide +kernel
theorem dX5_set_25 : decode cX5_set 25 = .ok (.invokevirtual 70, 3) := by decide +kernel
theorem dX5_set_28 : decode cX5_set 28 = .ok (.goto 9, 3) := by decide +kernel
theorem dX5_set_31 : decode cX5_set 31 = .ok (.aload_n 0, 1) := by decide +kernel
theorem dX5_set_32 : decode cX5_set 32 = .ok (.ldc 44, 2) := by decide +kernel
theorem dX5_set_34 : decode cX5_set 34 = .ok (.invokevirtual 73, 3) := by decide +kernel
theorem dX5_set_37 : decode cX5_set 37 = .ok (.ireturn, 1) := by decide +kernel
theorem dX5_would_0 : decode cX5_would 0 = .ok (.aload_n 0, 1) := by decide +kernel
theorem dX5_would_1 : decode cX5_would 1 = .ok (.iload_n 1, 1) := by decide +kernel
theorem dX5_would_2 : decode cX5_would 2 = .ok (.invokevirtual 98, 3) := by decide +kernel
theorem dX5_would_5 : decode cX5_would 5 = .ok (.ifCond .eq 20, 3) := by decide +kernel
theorem dX5_would_8 : decode cX5_would 8 = .ok (.aload_n 0, 1) := by decide +kernel
theorem dX5_would_9 : decode cX5_would 9 = .ok (.iload_n 2, 1) := by decide +kernel
theorem dX5_would_10 : decode cX5_would 10 = .ok (.invokevirtual 108, 3) := by decide +kernel
theorem dX5_would_13 : decode cX5_would 13 = .ok (.ifCond .eq 12, 3) := by decide +kernel
theorem dX5_would_16 : decode cX5_would 16 = .ok (.iload_n 3, 1) := by decide +kernel
theorem dX5_would_17 : decode cX5_would 17 = .ok (.iconst 0, 1) := by decide +kernel
theorem dX5_would_18 : decode cX5_would 18 = .ok (.iconst 1, 1) := by decide +kernel
theorem dX5_would_19 : decode cX5_would 19 = .ok (.invokestatic 45, 3) := by decide +kernel
theorem dX5_would_22 : decode cX5_would 22 = .ok (.ifCond .ne 10, 3) := by decide +kernel
theorem dX5_would_25 : decode cX5_would 25 = .ok (.aload_n 0, 1) := by decide +kernel
theorem dX5_would_26 : decode cX5_would 26 = .ok (.ldc 44, 2) := by decide +kernel
theorem dX5_would_28 : decode cX5_would 28 = .ok (.invokevirtual 73, 3) := by decide +kernel
theorem dX5_would_31 : decode cX5_would 31 = .ok (.ireturn, 1) := by decide +kernel
theorem dX5_would_32 : decode cX5_would 32 = .ok (.iload_n 3, 1) := by decide +kernel
theorem dX5_would_33 : decode cX5_would 33 = .ok (.ifCond .ne 12, 3) := by decide +kernel
theorem dX5_would_36 : decode cX5_would 36 = .ok (.aload_n 0, 1) := by decide +kernel
theorem dX5_would_37 : decode cX5_would 37 = .ok (.iload_n 1, 1) := by decide +kernel
theorem dX5_would_38 : decode cX5_would 38 = .ok (.iload_n 2, 1) := by decide +kernel
theorem dX5_would_39 : decode cX5_would 39 = .ok (.invokevirtual 111, 3) := by decide +kernel
theorem dX5_would_42 : decode cX5_would 42 = .ok (.goto 9, 3) := by decide +kernel
theorem dX5_would_45 : decode cX5_would 45 = .ok (.aload_n 0, 1) := by decide +kernel
theorem dX5_would_46 : decode cX5_would 46 = .ok (.iload_n 1, 1) := by decide +kernel
theorem dX5_would_47 : decode cX5_would 47 = .ok (.iload_n 2, 1) := by decide +kernel
theorem dX5_would_48 : decode cX5_would 48 = .ok (.invokevirtual 114, 3) := by decide +kernel
theorem dX5_would_51 : decode cX5_would 51 = .ok (.istore 4, 2) := by decide +kernel
theorem dX5_would_53 : decode cX5_would 53 = .ok (.iload 4, 2) := by decide +kernel
theorem dX5_would_55 : decode cX5_would 55 = .ok (.ifCond .eq 7, 3) := by decide +kernel
theorem dX5_would_58 : decode cX5_would 58 = .ok (.iconst 1, 1) := by decide +kernel
theorem dX5_would_59 : decode cX5_would 59 = .ok (.goto 4, 3) := by decide +kernel
theorem dX5_would_62 : decode cX5_would 62 = .ok (.iconst 0, 1) := by decide +kernel
theorem dX5_would_63 : decode cX5_would 63 = .ok (.ireturn, 1) := by decide +kernel
theorem dX5_turn_0 : decode cX5_turn 0 = .ok (.aload_n 0, 1) := by decide +kernel
theorem dX5_turn_1 : decode cX5_turn 1 = .ok (.iload_n 1, 1) := by decide +kernel
theorem dX5_turn_2 : decode cX5_turn 2 = .ok (.invokevirtual 98, 3) := by decide +kernel
theorem dX5_turn_5 : decode cX5_turn 5 = .ok (.ifCond .eq 23, 3) := by decide +kernel
theorem dX5_turn_8 : decode cX5_turn 8 = .ok (.iload_n 2, 1) := by decide +kernel
theorem dX5_turn_9 : decode cX5_turn 9 = .ok (.invokestatic 90, 3) := by decide +kernel
theorem dX5_turn_12 : decode cX5_turn 12 = .ok (.ifCond .eq 16, 3) := by decide +kernel
theorem dX5_turn_15 : decode cX5_turn 15 = .ok (.aload_n 0, 1) := by decide +kernel
theorem dX5_turn_16 : decode cX5_turn 16 = .ok (.iconst 4, 1) := by decide +kernel
theorem dX5_turn_17 : decode cX5_turn 17 = .ok (.iconst 4, 1) := by decide +kernel
theorem dX5_turn_18 : decode cX5_turn 18 = .ok (.iload_n 1, 1) := by decide +kernel
theorem dX5_turn_19 : decode cX5_turn 19 = .ok (.imul, 1) := by decide +kernel
theorem dX5_turn_20 : decode cX5_turn 20 = .ok (.iadd, 1) := by decide +kernel
theorem dX5_turn_21 : decode cX5_turn 21 = .ok (.iload_n 2, 1) := by decide +kernel
theorem dX5_turn_22 : decode cX5_turn 22 = .ok (.invokevirtual 70, 3) := by decide +kernel
theorem dX5_turn_25 : decode cX5_turn 25 = .ok (.goto 9, 3) := by decide +kernel
theorem dX5_turn_28 : decode cX5_turn 28 = .ok (.aload_n 0, 1) := by decide +kernel
theorem dX5_turn_29 : decode cX5_turn 29 = .ok (.ldc 44, 2) := by decide +kernel
theorem dX5_turn_31 : decode cX5_turn 31 = .ok (.invokevirtual 73, 3) := by decide +kernel
theorem dX5_turn_34 : decode cX5_turn 34 = .ok (.ireturn, 1) := by decide +kernel
theorem dX5_as_0 : decode cX5_as 0 = .ok (.aload_n 0, 1) := by decide +kernel
theorem dX5_as_1 : decode cX5_as 1 = .ok (.iload_n 1, 1) := by decide +kernel
theorem dX5_as_2 : decode cX5_as 2 = .ok (.invokevirtual 98, 3) := by decide +kernel
theorem dX5_as_5 : decode cX5_as 5 = .ok (.ifCond .eq 10, 3) := by decide +kernel
theorem dX5_as_8 : decode cX5_as 8 = .ok (.iload_n 2, 1) := by decide +kernel
theorem dX5_as_9 : decode cX5_as 9 = .ok (.invokestatic 90, 3) := by decide +kernel
theorem dX5_as_12 : decode cX5_as 12 = .ok (.ifCond .ne 10, 3) := by decide +kernel
theorem dX5_as_15 : decode cX5_as 15 = .ok (.aload_n 0, 1) := by decide +kernel
theorem dX5_as_16 : decode cX5_as 16 = .ok (.ldc 44, 2) := by decide +kernel
theorem dX5_as_18 : decode cX5_as 18 = .ok (.invokevirtual 73, 3) := by decide +kernel
theorem dX5_as_21 : decode cX5_as 21 = .ok (.ireturn, 1) := by decide +kernel
theorem dX5_as_22 : decode cX5_as 22 = .ok (.aload_n 0, 1) := by decide +kernel
theorem dX5_as_23 : decode cX5_as 23 = .ok (.iload_n 1, 1) := by decide +kernel
theorem dX5_as_24 : decode cX5_as 24 = .ok (.iconst 0, 1) := by decide +kernel
theorem dX5_as_25 : decode cX5_as 25 = .ok (.invokevirtual 57, 3) := by decide +kernel
theorem dX5_as_28 : decode cX5_as 28 = .ok (.istore_n 3, 1) := by decide +kernel
theorem dX5_as_29 : decode cX5_as 29 = .ok (.iload_n 2, 1) := by decide +kernel
theorem dX5_as_30 : decode cX5_as 30 = .ok (.ifCond .eq 28, 3) := by decide +kernel
theorem dX5_as_33 : decode cX5_as 33 = .ok (.iload_n 2, 1) := by decide +kernel
theorem dX5_as_34 : decode cX5_as 34 = .ok (.iload_n 3, 1) := by decide +kernel
theorem dX5_as_35 : decode cX5_as 35 = .ok (.if_icmp .eq 23, 3) := by decide +kernel
theorem dX5_as_38 : decode cX5_as 38 = .ok (.iload_n 2, 1) := by decide +kernel
theorem dX5_as_39 : decode cX5_as 39 = .ok (.iconst 1, 1) := by decide +kernel
theorem dX5_as_40 : decode cX5_as 40 = .ok (.if_icmp .ne 8, 3) := by decide +kernel
theorem dX5_as_43 : decode cX5_as 43 = .ok (.iload_n 3, 1) := by decide +kernel
theorem dX5_as_44 : decode cX5_as 44 = .ok (.iconst 4, 1) := by decide +kernel
theorem dX5_as_45 : decode cX5_as 45 = .ok (.if_icmp .eq 13, 3) := by decide +kernel
theorem dX5_as_48 : decode cX5_as 48 = .ok (.iload_n 2, 1) := by decide +kernel
theorem dX5_as_49 : decode cX5_as 49 = .ok (.iconst 2, 1) := by decide +kernel
theorem dX5_as_50 : decode cX5_as 50 = .ok (.if_icmp .ne 12, 3) := by decide +kernel
theorem dX5_as_53 : decode cX5_as 53 = .ok (.iload_n 3, 1) := by decide +kernel
theorem dX5_as_54 : decode cX5_as 54 = .ok (.iconst 5, 1) := by decide +kernel
theorem dX5_as_55 : decode cX5_as 55 = .ok (.if_icmp .ne 7, 3) := by decide +kernel
theorem dX5_as_58 : decode cX5_as 58 = .ok (.iconst 1, 1) := by decide +kernel
theorem dX5_as_59 : decode cX5_as 59 = .ok (.goto 4, 3) := by decide +kernel
theorem dX5_as_62 : decode cX5_as 62 = .ok (.iconst 0, 1) := by decide +kernel
theorem dX5_as_63 : decode cX5_as 63 = .ok (.istore 4, 2) := by decide +kernel
theorem dX5_as_65 : decode cX5_as 65 = .ok (.iload 4, 2) := by decide +kernel
theorem dX5_as_67 : decode cX5_as 67 = .ok (.ifCond .eq 16, 3) := by decide +kernel
theorem dX5_as_70 : decode cX5_as 70 = .ok (.sipush 1000, 3) := by decide +kernel
theorem dX5_as_73 : decode cX5_as 73 = .ok (.aload_n 0, 1) := by decide +kernel
theorem dX5_as_74 : decode cX5_as 74 = .ok (.iload_n 1, 1) := by decide +kernel
theorem dX5_as_75 : decode cX5_as 75 = .ok (.iconst 2, 1) := by decide +kernel
theorem dX5_as_76 : decode cX5_as 76 = .ok (.invokevirtual 57, 3) := by decide +kernel
theorem dX5_as_79 : decode cX5_as 79 = .ok (.iadd, 1) := by decide +kernel
theorem dX5_as_80 : decode cX5_as 80 = .ok (.goto 9, 3) := by decide +kernel
theorem dX5_as_83 : decode cX5_as 83 = .ok (.aload_n 0, 1) := by decide +kernel
theorem dX5_as_84 : decode cX5_as 84 = .ok (.ldc 117, 2) := by decide +kernel
theorem dX5_as_86 : decode cX5_as 86 = .ok (.invokevirtual 73, 3) := by decide +kernel
theorem dX5_as_89 : decode cX5_as 89 = .ok (.ireturn, 1) := by decide +kernel
theorem dX5_addsGarment_0 : decode cX5_addsGarment 0 = .ok (.aload_n 0, 1) := by decide +kernel
theorem dX5_addsGarment_1 : decode cX5_addsGarment 1 = .ok (.getfield 7, 3) := by decide +kernel
theorem dX5_addsGarment_4 : decode cX5_addsGarment 4 = .ok (.iconst 3, 1) := by decide +kernel
theorem dX5_addsGarment_5 : decode cX5_addsGarment 5 = .ok (.iaload, 1) := by decide +kernel
theorem dX5_addsGarment_6 : decode cX5_addsGarment 6 = .ok (.istore 5, 2) := by decide +kernel
theorem dX5_addsGarment_8 : decode cX5_addsGarment 8 = .ok (.aload_n 0, 1) := by decide +kernel
theorem dX5_addsGarment_9 : decode cX5_addsGarment 9 = .ok (.iload 5, 2) := by decide +kernel
theorem dX5_addsGarment_11 : decode cX5_addsGarment 11 = .ok (.iconst 0, 1) := by decide +kernel
theorem dX5_addsGarment_12 : decode cX5_addsGarment 12 = .ok (.iload_n 1, 1) := by decide +kernel
theorem dX5_addsGarment_13 : decode cX5_addsGarment 13 = .ok (.invokevirtual 118, 3) := by decide +kernel
theorem dX5_addsGarment_16 : decode cX5_addsGarment 16 = .ok (.aload_n 0, 1) := by decide +kernel
theorem dX5_addsGarment_17 : decode cX5_addsGarment 17 = .ok (.iload 5, 2) := by decide +kernel
theorem dX5_addsGarment_19 : decode cX5_addsGarment 19 = .ok (.iconst 1, 1) := by decide +kernel
theorem dX5_addsGarment_20 : decode cX5_addsGarment 20 = .ok (.iload_n 2, 1) := by decide +kernel
theorem dX5_addsGarment_21 : decode cX5_addsGarment 21 = .ok (.invokevirtual 118, 3) := by decide +kernel
theorem dX5_addsGarment_24 : decode cX5_addsGarment 24 = .ok (.aload_n 0, 1) := by decide +kernel
theorem dX5_addsGarment_25 : decode cX5_addsGarment 25 = .ok (.iload 5, 2) := by decide +kernel
theorem dX5_addsGarment_27 : decode cX5_addsGarment 27 = .ok (.iconst 2, 1) := by decide +kernel
theorem dX5_addsGarment_28 : decode cX5_addsGarment 28 = .ok (.iload_n 3, 1) := by decide +kernel
theorem dX5_addsGarment_29 : decode cX5_addsGarment 29 = .ok (.invokevirtual 118, 3) := by decide +kernel
theorem dX5_addsGarment_32 : decode cX5_addsGarment 32 = .ok (.aload_n 0, 1) := by decide +kernel
theorem dX5_addsGarment_33 : decode cX5_addsGarment 33 = .ok (.iload 5, 2) := by decide +kernel
theorem dX5_addsGarment_35 : decode cX5_addsGarment 35 = .ok (.iconst 3, 1) := by decide +kernel
theorem dX5_addsGarment_36 : decode cX5_addsGarment 36 = .ok (.iload 4, 2) := by decide +kernel
theorem dX5_addsGarment_38 : decode cX5_addsGarment 38 = .ok (.invokevirtual 118, 3) := by decide +kernel
theorem dX5_addsGarment_41 : decode cX5_addsGarment 41 = .ok (.aload_n 0, 1) := by decide +kernel
theorem dX5_addsGarment_42 : decode cX5_addsGarment 42 = .ok (.getfield 7, 3) := by decide +kernel
theorem dX5_addsGarment_45 : decode cX5_addsGarment 45 = .ok (.iconst 3, 1) := by decide +kernel
theorem dX5_addsGarment_46 : decode cX5_addsGarment 46 = .ok (.dup2, 1) := by decide +kernel
theorem dX5_addsGarment_47 : decode cX5_addsGarment 47 = .ok (.iaload, 1) := by decide +kernel
theorem dX5_addsGarment_48 : decode cX5_addsGarment 48 = .ok (.iconst 1, 1) := by decide +kernel
theorem dX5_addsGarment_49 : decode cX5_addsGarment 49 = .ok (.iadd, 1) := by decide +kernel
theorem dX5_addsGarment_50 : decode cX5_addsGarment 50 = .ok (.iastore, 1) := by decide +kernel
theorem dX5_addsGarment_51 : decode cX5_addsGarment 51 = .ok (.return_, 1) := by decide +kernel
theorem dX5_garment_0 : decode cX5_garment 0 = .ok (.aload_n 0, 1) := by decide +kernel
theorem dX5_garment_1 : decode cX5_garment 1 = .ok (.iload_n 1, 1) := by decide +kernel
theorem dX5_garment_2 : decode cX5_garment 2 = .ok (.invokevirtual 98, 3) := by decide +kernel
theorem dX5_garment_5 : decode cX5_garment 5 = .ok (.ifCond .eq 12, 3) := by decide +kernel
theorem dX5_garment_8 : decode cX5_garment 8 = .ok (.iload_n 2, 1) := by decide +kernel
theorem dX5_garment_9 : decode cX5_garment 9 = .ok (.iconst 0, 1) := by decide +kernel
theorem dX5_garment_10 : decode cX5_garment 10 = .ok (.iconst 2, 1) := by decide +kernel
theorem dX5_garment_11 : decode cX5_garment 11 = .ok (.invokestatic 45, 3) := by decide +kernel
theorem dX5_garment_14 : decode cX5_garment 14 = .ok (.ifCond .ne 10, 3) := by decide +kernel
theorem dX5_garment_17 : decode cX5_garment 17 = .ok (.aload_n 0, 1) := by decide +kernel
theorem dX5_garment_18 : decode cX5_garment 18 = .ok (.ldc 44, 2) := by decide +kernel
theorem dX5_garment_20 : decode cX5_garment 20 = .ok (.invokevirtual 73, 3) := by decide +kernel
theorem dX5_garment_23 : decode cX5_garment 23 = .ok (.ireturn, 1) := by decide +kernel
theorem dX5_garment_24 : decode cX5_garment 24 = .ok (.aload_n 0, 1) := by decide +kernel
theorem dX5_garment_25 : decode cX5_garment 25 = .ok (.getfield 7, 3) := by decide +kernel
theorem dX5_garment_28 : decode cX5_garment 28 = .ok (.iconst 3, 1) := by decide +kernel
theorem dX5_garment_29 : decode cX5_garment 29 = .ok (.iaload, 1) := by decide +kernel
theorem dX5_garment_30 : decode cX5_garment 30 = .ok (.bipush 10, 2) := by decide +kernel
theorem dX5_garment_32 : decode cX5_garment 32 = .ok (.if_icmp .ne 10, 3) := by decide +kernel
theorem dX5_garment_35 : decode cX5_garment 35 = .ok (.aload_n 0, 1) := by decide +kernel
theorem dX5_garment_36 : decode cX5_garment 36 = .ok (.ldc 93, 2) := by decide +kernel
theorem dX5_garment_38 : decode cX5_garment 38 = .ok (.invokevirtual 73, 3) := by decide +kernel
theorem dX5_garment_41 : decode cX5_garment 41 = .ok (.ireturn, 1) := by decide +kernel
theorem dX5_garment_42 : decode cX5_garment 42 = .ok (.aload_n 0, 1) := by decide +kernel
theorem dX5_garment_43 : decode cX5_garment 43 = .ok (.iload_n 1, 1) := by decide +kernel
theorem dX5_garment_44 : decode cX5_garment 44 = .ok (.iload_n 2, 1) := by decide +kernel
theorem dX5_garment_45 : decode cX5_garment 45 = .ok (.bipush 99, 2) := by decide +kernel
theorem dX5_garment_47 : decode cX5_garment 47 = .ok (.iload_n 1, 1) := by decide +kernel
theorem dX5_garment_48 : decode cX5_garment 48 = .ok (.invokevirtual 121, 3) := by decide +kernel
theorem dX5_garment_51 : decode cX5_garment 51 = .ok (.aload_n 0, 1) := by decide +kernel
theorem dX5_garment_52 : decode cX5_garment 52 = .ok (.getfield 7, 3) := by decide +kernel
theorem dX5_garment_55 : decode cX5_garment 55 = .ok (.iconst 3, 1) := by decide +kernel
theorem dX5_garment_56 : decode cX5_garment 56 = .ok (.iaload, 1) := by decide +kernel
theorem dX5_garment_57 : decode cX5_garment 57 = .ok (.iconst 1, 1) := by decide +kernel
theorem dX5_garment_58 : decode cX5_garment 58 = .ok (.isub, 1) := by decide +kernel
theorem dX5_garment_59 : decode cX5_garment 59 = .ok (.ireturn, 1) := by decide +kernel
theorem dX5_garmentOf_0 : decode cX5_garmentOf 0 = .ok (.aload_n 0, 1) := by decide +kernel
theorem dX5_garmentOf_1 : decode cX5_garmentOf 1 = .ok (.iload_n 1, 1) := by decide +kernel
theorem dX5_garmentOf_2 : decode cX5_garmentOf 2 = .ok (.invokevirtual 108, 3) := by decide +kernel
theorem dX5_garmentOf_5 : decode cX5_garmentOf 5 = .ok (.ifCond .eq 12, 3) := by decide +kernel
theorem dX5_garmentOf_8 : decode cX5_garmentOf 8 = .ok (.iload_n 2, 1) := by decide +kernel
theorem dX5_garmentOf_9 : decode cX5_garmentOf 9 = .ok (.iconst 0, 1) := by decide +kernel
theorem dX5_garmentOf_10 : decode cX5_garmentOf 10 = .ok (.iconst 5, 1) := by decide +kernel
theorem dX5_garmentOf_11 : decode cX5_garmentOf 11 = .ok (.invokestatic 45, 3) := by decide +kernel
theorem dX5_garmentOf_14 : decode cX5_garmentOf 14 = .ok (.ifCond .ne 10, 3) := by decide +kernel
theorem dX5_garmentOf_17 : decode cX5_garmentOf 17 = .ok (.aload_n 0, 1) := by decide +kernel
theorem dX5_garmentOf_18 : decode cX5_garmentOf 18 = .ok (.ldc 44, 2) := by decide +kernel
theorem dX5_garmentOf_20 : decode cX5_garmentOf 20 = .ok (.invokevirtual 73, 3) := by decide +kernel
theorem dX5_garmentOf_23 : decode cX5_garmentOf 23 = .ok (.ireturn, 1) := by decide +kernel
theorem dX5_garmentOf_24 : decode cX5_garmentOf 24 = .ok (.iload_n 2, 1) := by decide +kernel
theorem dX5_garmentOf_25 : decode cX5_garmentOf 25 = .ok (.iconst 4, 1) := by decide +kernel
theorem dX5_garmentOf_26 : decode cX5_garmentOf 26 = .ok (.if_icmp .ge 12, 3) := by decide +kernel
theorem dX5_garmentOf_29 : decode cX5_garmentOf 29 = .ok (.aload_n 0, 1) := by decide +kernel
theorem dX5_garmentOf_30 : decode cX5_garmentOf 30 = .ok (.iload_n 1, 1) := by decide +kernel
theorem dX5_garmentOf_31 : decode cX5_garmentOf 31 = .ok (.iload_n 2, 1) := by decide +kernel
theorem dX5_garmentOf_32 : decode cX5_garmentOf 32 = .ok (.invokevirtual 49, 3) := by decide +kernel
theorem dX5_garmentOf_35 : decode cX5_garmentOf 35 = .ok (.goto 21, 3) := by decide +kernel
theorem dX5_garmentOf_38 : decode cX5_garmentOf 38 = .ok (.iload_n 2, 1) := by decide +kernel
theorem dX5_garmentOf_39 : decode cX5_garmentOf 39 = .ok (.iconst 4, 1) := by decide +kernel
theorem dX5_garmentOf_40 : decode cX5_garmentOf 40 = .ok (.if_icmp .ne 11, 3) := by decide +kernel
theorem dX5_garmentOf_43 : decode cX5_garmentOf 43 = .ok (.aload_n 0, 1) := by decide +kernel
theorem dX5_garmentOf_44 : decode cX5_garmentOf 44 = .ok (.iload_n 1, 1) := by decide +kernel
theorem dX5_garmentOf_45 : decode cX5_garmentOf 45 = .ok (.invokevirtual 125, 3) := by decide +kernel
theorem dX5_garmentOf_48 : decode cX5_garmentOf 48 = .ok (.goto 8, 3) := by decide +kernel
theorem dX5_garmentOf_51 : decode cX5_garmentOf 51 = .ok (.aload_n 0, 1) := by decide +kernel
theorem dX5_garmentOf_52 : decode cX5_garmentOf 52 = .ok (.iload_n 1, 1) := by decide +kernel
theorem dX5_garmentOf_53 : decode cX5_garmentOf 53 = .ok (.invokevirtual 128, 3) := by decide +kernel
theorem dX5_garmentOf_56 : decode cX5_garmentOf 56 = .ok (.ireturn, 1) := by decide +kernel
theorem dX5_isSewing_0 : decode cX5_isSewing 0 = .ok (.iload_n 1, 1) := by decide +kernel
theorem dX5_isSewing_1 : decode cX5_isSewing 1 = .ok (.tableswitch 48 0 2 #[27, 33, 40], 27) := by decide +kernel
theorem dX5_isSewing_28 : decode cX5_isSewing 28 = .ok (.aload_n 0, 1) := by decide +kernel
theorem dX5_isSewing_29 : decode cX5_isSewing 29 = .ok (.iload_n 2, 1) := by decide +kernel
theorem dX5_isSewing_30 : decode cX5_isSewing 30 = .ok (.invokevirtual 98, 3) := by decide +kernel
theorem dX5_isSewing_33 : decode cX5_isSewing 33 = .ok (.ireturn, 1) := by decide +kernel
theorem dX5_isSewing_34 : decode cX5_isSewing 34 = .ok (.iload_n 2, 1) := by decide +kernel
theorem dX5_isSewing_35 : decode cX5_isSewing 35 = .ok (.iconst 0, 1) := by decide +kernel
theorem dX5_isSewing_36 : decode cX5_isSewing 36 = .ok (.iconst 2, 1) := by decide +kernel
theorem dX5_isSewing_37 : decode cX5_isSewing 37 = .ok (.invokestatic 45, 3) := by decide +kernel
theorem dX5_isSewing_40 : decode cX5_isSewing 40 = .ok (.ireturn, 1) := by decide +kernel
theorem dX5_isSewing_41 : decode cX5_isSewing 41 = .ok (.iload_n 2, 1) := by decide +kernel
theorem dX5_isSewing_42 : decode cX5_isSewing 42 = .ok (.iconst 0, 1) := by decide +kernel
theorem dX5_isSewing_43 : decode cX5_isSewing 43 = .ok (.bipush 99, 2) := by decide +kernel
theorem dX5_isSewing_45 : decode cX5_isSewing 45 = .ok (.invokestatic 45, 3) := by decide +kernel
theorem dX5_isSewing_48 : decode cX5_isSewing 48 = .ok (.ireturn, 1) := by decide +kernel
theorem dX5_isSewing_49 : decode cX5_isSewing 49 = .ok (.iload_n 1, 1) := by decide +kernel
theorem dX5_isSewing_50 : decode cX5_isSewing 50 = .ok (.iconst 3, 1) := by decide +kernel
theorem dX5_isSewing_51 : decode cX5_isSewing 51 = .ok (.if_icmp .ne 20, 3) := by decide +kernel
theorem dX5_isSewing_54 : decode cX5_isSewing 54 = .ok (.iload_n 2, 1) := by decide +kernel
theorem dX5_isSewing_55 : decode cX5_isSewing 55 = .ok (.iconst (-1), 1) := by decide +kernel
theorem dX5_isSewing_56 : decode cX5_isSewing 56 = .ok (.if_icmp .eq 11, 3) := by decide +kernel
theorem dX5_isSewing_59 : decode cX5_isSewing 59 = .ok (.aload_n 0, 1) := by decide +kernel
theorem dX5_isSewing_60 : decode cX5_isSewing 60 = .ok (.iload_n 2, 1) := by decide +kernel
theorem dX5_isSewing_61 : decode cX5_isSewing 61 = .ok (.invokevirtual 98, 3) := by decide +kernel
theorem dX5_isSewing_64 : decode cX5_isSewing 64 = .ok (.ifCond .eq 7, 3) := by decide +kernel
theorem dX5_isSewing_67 : decode cX5_isSewing 67 = .ok (.iconst 1, 1) := by decide +kernel
theorem dX5_isSewing_68 : decode cX5_isSewing 68 = .ok (.goto 4, 3) := by decide +kernel
theorem dX5_isSewing_71 : decode cX5_isSewing 71 = .ok (.iconst 0, 1) := by decide +kernel
theorem dX5_isSewing_72 : decode cX5_isSewing 72 = .ok (.ireturn, 1) := by decide +kernel
theorem dX5_sew_0 : decode cX5_sew 0 = .ok (.aload_n 0, 1) := by decide +kernel
theorem dX5_sew_1 : decode cX5_sew 1 = .ok (.iload_n 1, 1) := by decide +kernel
theorem dX5_sew_2 : decode cX5_sew 2 = .ok (.invokevirtual 108, 3) := by decide +kernel
theorem dX5_sew_5 : decode cX5_sew 5 = .ok (.ifCond .eq 28, 3) := by decide +kernel
theorem dX5_sew_8 : decode cX5_sew 8 = .ok (.aload_n 0, 1) := by decide +kernel
theorem dX5_sew_9 : decode cX5_sew 9 = .ok (.iload_n 2, 1) := by decide +kernel
theorem dX5_sew_10 : decode cX5_sew 10 = .ok (.iload_n 3, 1) := by decide +kernel
theorem dX5_sew_11 : decode cX5_sew 11 = .ok (.invokevirtual 131, 3) := by decide +kernel
theorem dX5_sew_14 : decode cX5_sew 14 = .ok (.ifCond .eq 19, 3) := by decide +kernel
theorem dX5_sew_17 : decode cX5_sew 17 = .ok (.aload_n 0, 1) := by decide +kernel
theorem dX5_sew_18 : decode cX5_sew 18 = .ok (.bipush 28, 2) := by decide +kernel
theorem dX5_sew_20 : decode cX5_sew 20 = .ok (.iconst 4, 1) := by decide +kernel
theorem dX5_sew_21 : decode cX5_sew 21 = .ok (.iload_n 1, 1) := by decide +kernel
theorem dX5_sew_22 : decode cX5_sew 22 = .ok (.imul, 1) := by decide +kernel
theorem dX5_sew_23 : decode cX5_sew 23 = .ok (.iadd, 1) := by decide +kernel
theorem dX5_sew_24 : decode cX5_sew 24 = .ok (.iload_n 2, 1) := by decide +kernel
theorem dX5_sew_25 : decode cX5_sew 25 = .ok (.iadd, 1) := by decide +kernel
theorem dX5_sew_26 : decode cX5_sew 26 = .ok (.iload_n 3, 1) := by decide +kernel
theorem dX5_sew_27 : decode cX5_sew 27 = .ok (.invokevirtual 70, 3) := by decide +kernel
theorem dX5_sew_30 : decode cX5_sew 30 = .ok (.goto 9, 3) := by decide +kernel
theorem dX5_sew_33 : decode cX5_sew 33 = .ok (.aload_n 0, 1) := by decide +kernel
theorem dX5_sew_34 : decode cX5_sew 34 = .ok (.ldc 44, 2) := by decide +kernel
theorem dX5_sew_36 : decode cX5_sew 36 = .ok (.invokevirtual 73, 3) := by decide +kernel
theorem dX5_sew_39 : decode cX5_sew 39 = .ok (.ireturn, 1) := by decide +kernel
theorem dX5_washes_0 : decode cX5_washes 0 = .ok (.aload_n 0, 1) := by decide +kernel
theorem dX5_washes_1 : decode cX5_washes 1 = .ok (.iload_n 1, 1) := by decide +kernel
theorem dX5_washes_2 : decode cX5_washes 2 = .ok (.iconst 3, 1) := by decide +kernel
theorem dX5_washes_3 : decode cX5_washes 3 = .ok (.invokevirtual 49, 3) := by decide +kernel
theorem dX5_washes_6 : decode cX5_washes 6 = .ok (.istore_n 2, 1) := by decide +kernel
theorem dX5_washes_7 : decode cX5_washes 7 = .ok (.iload_n 2, 1) := by decide +kernel
theorem dX5_washes_8 : decode cX5_washes 8 = .ok (.ifCond .ge 4, 3) := by decide +kernel
theorem dX5_washes_11 : decode cX5_washes 11 = .ok (.return_, 1) := by decide +kernel
theorem dX5_washes_12 : decode cX5_washes 12 = .ok (.aload_n 0, 1) := by decide +kernel
theorem dX5_washes_13 : decode cX5_washes 13 = .ok (.iload_n 1, 1) := by decide +kernel
theorem dX5_washes_14 : decode cX5_washes 14 = .ok (.iconst 2, 1) := by decide +kernel
theorem dX5_washes_15 : decode cX5_washes 15 = .ok (.aload_n 0, 1) := by decide +kernel
theorem dX5_washes_16 : decode cX5_washes 16 = .ok (.iload_n 1, 1) := by decide +kernel
theorem dX5_washes_17 : decode cX5_washes 17 = .ok (.iconst 2, 1) := by decide +kernel
theorem dX5_washes_18 : decode cX5_washes 18 = .ok (.invokevirtual 49, 3) := by decide +kernel
theorem dX5_washes_21 : decode cX5_washes 21 = .ok (.aload_n 0, 1) := by decide +kernel
theorem dX5_washes_22 : decode cX5_washes 22 = .ok (.iload_n 1, 1) := by decide +kernel
theorem dX5_washes_23 : decode cX5_washes 23 = .ok (.invokevirtual 128, 3) := by decide +kernel
theorem dX5_washes_26 : decode cX5_washes 26 = .ok (.isub, 1) := by decide +kernel
theorem dX5_washes_27 : decode cX5_washes 27 = .ok (.iconst 0, 1) := by decide +kernel
theorem dX5_washes_28 : decode cX5_washes 28 = .ok (.bipush 99, 2) := by decide +kernel
theorem dX5_washes_30 : decode cX5_washes 30 = .ok (.invokestatic 134, 3) := by decide +kernel
theorem dX5_washes_33 : decode cX5_washes 33 = .ok (.invokevirtual 118, 3) := by decide +kernel
theorem dX5_washes_36 : decode cX5_washes 36 = .ok (.iload_n 2, 1) := by decide +kernel
theorem dX5_washes_37 : decode cX5_washes 37 = .ok (.aload_n 0, 1) := by decide +kernel
theorem dX5_washes_38 : decode cX5_washes 38 = .ok (.iload_n 1, 1) := by decide +kernel
theorem dX5_washes_39 : decode cX5_washes 39 = .ok (.iconst 0, 1) := by decide +kernel
theorem dX5_washes_40 : decode cX5_washes 40 = .ok (.invokevirtual 49, 3) := by decide +kernel
theorem dX5_washes_43 : decode cX5_washes 43 = .ok (.if_icmp .eq 22, 3) := by decide +kernel
theorem dX5_washes_46 : decode cX5_washes 46 = .ok (.aload_n 0, 1) := by decide +kernel
theorem dX5_washes_47 : decode cX5_washes 47 = .ok (.iload_n 2, 1) := by decide +kernel
theorem dX5_washes_48 : decode cX5_washes 48 = .ok (.iconst 3, 1) := by decide +kernel
theorem dX5_washes_49 : decode cX5_washes 49 = .ok (.invokevirtual 57, 3) := by decide +kernel
theorem dX5_washes_52 : decode cX5_washes 52 = .ok (.iconst 1, 1) := by decide +kernel
theorem dX5_washes_53 : decode cX5_washes 53 = .ok (.if_icmp .eq 12, 3) := by decide +kernel
theorem dX5_washes_56 : decode cX5_washes 56 = .ok (.aload_n 0, 1) := by decide +kernel
theorem dX5_washes_57 : decode cX5_washes 57 = .ok (.iload_n 2, 1) := by decide +kernel
theorem dX5_washes_58 : decode cX5_washes 58 = .ok (.iload_n 1, 1) := by decide +kernel
theorem dX5_washes_59 : decode cX5_washes 59 = .ok (.invokevirtual 111, 3) := by decide +kernel
theorem dX5_washes_62 : decode cX5_washes 62 = .ok (.ifCond .eq 14, 3) := by decide +kernel
theorem dX5_washes_65 : decode cX5_washes 65 = .ok (.aload_n 0, 1) := by decide +kernel
theorem dX5_washes_66 : decode cX5_washes 66 = .ok (.iload_n 1, 1) := by decide +kernel
theorem dX5_washes_67 : decode cX5_washes 67 = .ok (.iconst 3, 1) := by decide +kernel
theorem dX5_washes_68 : decode cX5_washes 68 = .ok (.aload_n 0, 1) := by decide +kernel
theorem dX5_washes_69 : decode cX5_washes 69 = .ok (.iload_n 1, 1) := by decide +kernel
theorem dX5_washes_70 : decode cX5_washes 70 = .ok (.invokevirtual 125, 3) := by decide +kernel
theorem dX5_washes_73 : decode cX5_washes 73 = .ok (.invokevirtual 118, 3) := by decide +kernel
theorem dX5_washes_76 : decode cX5_washes 76 = .ok (.return_, 1) := by decide +kernel
theorem dX5_lies_0 : decode cX5_lies 0 = .ok (.aload_n 0, 1) := by decide +kernel
theorem dX5_lies_1 : decode cX5_lies 1 = .ok (.iload_n 1, 1) := by decide +kernel
theorem dX5_lies_2 : decode cX5_lies 2 = .ok (.iconst 3, 1) := by decide +kernel
theorem dX5_lies_3 : decode cX5_lies 3 = .ok (.invokevirtual 49, 3) := by decide +kernel
theorem dX5_lies_6 : decode cX5_lies 6 = .ok (.ifCond .lt 4, 3) := by decide +kernel
theorem dX5_lies_9 : decode cX5_lies 9 = .ok (.return_, 1) := by decide +kernel
theorem dX5_lies_10 : decode cX5_lies 10 = .ok (.iconst (-1), 1) := by decide +kernel
theorem dX5_lies_11 : decode cX5_lies 11 = .ok (.istore_n 2, 1) := by decide +kernel
theorem dX5_lies_12 : decode cX5_lies 12 = .ok (.aload_n 0, 1) := by decide +kernel
theorem dX5_lies_13 : decode cX5_lies 13 = .ok (.getfield 7, 3) := by decide +kernel
theorem dX5_lies_16 : decode cX5_lies 16 = .ok (.iconst 2, 1) := by decide +kernel
theorem dX5_lies_17 : decode cX5_lies 17 = .ok (.iaload, 1) := by decide +kernel
theorem dX5_lies_18 : decode cX5_lies 18 = .ok (.iconst 1, 1) := by decide +kernel
theorem dX5_lies_19 : decode cX5_lies 19 = .ok (.isub, 1) := by decide +kernel
theorem dX5_lies_20 : decode cX5_lies 20 = .ok (.istore_n 3, 1) := by decide +kernel
theorem dX5_lies_21 : decode cX5_lies 21 = .ok (.iload_n 3, 1) := by decide +kernel
theorem dX5_lies_22 : decode cX5_lies 22 = .ok (.ifCond .lt 33, 3) := by decide +kernel
theorem dX5_lies_25 : decode cX5_lies 25 = .ok (.aload_n 0, 1) := by decide +kernel
theorem dX5_lies_26 : decode cX5_lies 26 = .ok (.iload_n 3, 1) := by decide +kernel
theorem dX5_lies_27 : decode cX5_lies 27 = .ok (.iconst 3, 1) := by decide +kernel
theorem dX5_lies_28 : decode cX5_lies 28 = .ok (.invokevirtual 57, 3) := by decide +kernel
theorem dX5_lies_31 : decode cX5_lies 31 = .ok (.ifCond .ne 16, 3) := by decide +kernel
theorem dX5_lies_34 : decode cX5_lies 34 = .ok (.aload_n 0, 1) := by decide +kernel
theorem dX5_lies_35 : decode cX5_lies 35 = .ok (.iload_n 3, 1) := by decide +kernel
theorem dX5_lies_36 : decode cX5_lies 36 = .ok (.iload_n 1, 1) := by decide +kernel
theorem dX5_lies_37 : decode cX5_lies 37 = .ok (.invokevirtual 114, 3) := by decide +kernel
theorem dX5_lies_40 : decode cX5_lies 40 = .ok (.ifCond .eq 7, 3) := by decide +kernel
theorem dX5_lies_43 : decode cX5_lies 43 = .ok (.iload_n 3, 1) := by decide +kernel
theorem dX5_lies_44 : decode cX5_lies 44 = .ok (.goto 4, 3) := by decide +kernel
theorem dX5_lies_47 : decode cX5_lies 47 = .ok (.iload_n 2, 1) := by decide +kernel
theorem dX5_lies_48 : decode cX5_lies 48 = .ok (.istore_n 2, 1) := by decide +kernel
theorem dX5_lies_49 : decode cX5_lies 49 = .ok (.iinc 3 (-1), 3) := by decide +kernel
theorem dX5_lies_52 : decode cX5_lies 52 = .ok (.goto (-31), 3) := by decide +kernel
theorem dX5_lies_55 : decode cX5_lies 55 = .ok (.aload_n 0, 1) := by decide +kernel
theorem dX5_lies_56 : decode cX5_lies 56 = .ok (.iload_n 1, 1) := by decide +kernel
theorem dX5_lies_57 : decode cX5_lies 57 = .ok (.iconst 3, 1) := by decide +kernel
theorem dX5_lies_58 : decode cX5_lies 58 = .ok (.iload_n 2, 1) := by decide +kernel
theorem dX5_lies_59 : decode cX5_lies 59 = .ok (.invokevirtual 118, 3) := by decide +kernel
theorem dX5_lies_62 : decode cX5_lies 62 = .ok (.return_, 1) := by decide +kernel
theorem dX5_oneWeek_0 : decode cX5_oneWeek 0 = .ok (.iconst 0, 1) := by decide +kernel
theorem dX5_oneWeek_1 : decode cX5_oneWeek 1 = .ok (.istore_n 1, 1) := by decide +kernel
theorem dX5_oneWeek_2 : decode cX5_oneWeek 2 = .ok (.iload_n 1, 1) := by decide +kernel
theorem dX5_oneWeek_3 : decode cX5_oneWeek 3 = .ok (.aload_n 0, 1) := by decide +kernel
theorem dX5_oneWeek_4 : decode cX5_oneWeek 4 = .ok (.getfield 7, 3) := by decide +kernel
theorem dX5_oneWeek_7 : decode cX5_oneWeek 7 = .ok (.iconst 3, 1) := by decide +kernel
theorem dX5_oneWeek_8 : decode cX5_oneWeek 8 = .ok (.iaload, 1) := by decide +kernel
theorem dX5_oneWeek_9 : decode cX5_oneWeek 9 = .ok (.if_icmp .ge 14, 3) := by decide +kernel
theorem dX5_oneWeek_12 : decode cX5_oneWeek 12 = .ok (.aload_n 0, 1) := by decide +kernel
theorem dX5_oneWeek_13 : decode cX5_oneWeek 13 = .ok (.iload_n 1, 1) := by decide +kernel
theorem dX5_oneWeek_14 : decode cX5_oneWeek 14 = .ok (.invokevirtual 138, 3) := by decide +kernel
theorem dX5_oneWeek_17 : decode cX5_oneWeek 17 = .ok (.iinc 1 1, 3) := by decide +kernel
theorem dX5_oneWeek_20 : decode cX5_oneWeek 20 = .ok (.goto (-18), 3) := by decide +kernel
theorem dX5_oneWeek_23 : decode cX5_oneWeek 23 = .ok (.iconst 0, 1) := by decide +kernel
theorem dX5_oneWeek_24 : decode cX5_oneWeek 24 = .ok (.istore_n 1, 1) := by decide +kernel
theorem dX5_oneWeek_25 : decode cX5_oneWeek 25 = .ok (.iload_n 1, 1) := by decide +kernel
theorem dX5_oneWeek_26 : decode cX5_oneWeek 26 = .ok (.aload_n 0, 1) := by decide +kernel
theorem dX5_oneWeek_27 : decode cX5_oneWeek 27 = .ok (.getfield 7, 3) := by decide +kernel
theorem dX5_oneWeek_30 : decode cX5_oneWeek 30 = .ok (.iconst 3, 1) := by decide +kernel
theorem dX5_oneWeek_31 : decode cX5_oneWeek 31 = .ok (.iaload, 1) := by decide +kernel
theorem dX5_oneWeek_32 : decode cX5_oneWeek 32 = .ok (.if_icmp .ge 26, 3) := by decide +kernel
theorem dX5_oneWeek_35 : decode cX5_oneWeek 35 = .ok (.aload_n 0, 1) := by decide +kernel
theorem dX5_oneWeek_36 : decode cX5_oneWeek 36 = .ok (.getfield 7, 3) := by decide +kernel
theorem dX5_oneWeek_39 : decode cX5_oneWeek 39 = .ok (.iconst 0, 1) := by decide +kernel
theorem dX5_oneWeek_40 : decode cX5_oneWeek 40 = .ok (.iaload, 1) := by decide +kernel
theorem dX5_oneWeek_41 : decode cX5_oneWeek 41 = .ok (.iconst 2, 1) := by decide +kernel
theorem dX5_oneWeek_42 : decode cX5_oneWeek 42 = .ok (.irem, 1) := by decide +kernel
theorem dX5_oneWeek_43 : decode cX5_oneWeek 43 = .ok (.iconst 1, 1) := by decide +kernel
theorem dX5_oneWeek_44 : decode cX5_oneWeek 44 = .ok (.if_icmp .ne 14, 3) := by decide +kernel
theorem dX5_oneWeek_47 : decode cX5_oneWeek 47 = .ok (.aload_n 0, 1) := by decide +kernel
theorem dX5_oneWeek_48 : decode cX5_oneWeek 48 = .ok (.iload_n 1, 1) := by decide +kernel
theorem dX5_oneWeek_49 : decode cX5_oneWeek 49 = .ok (.invokevirtual 142, 3) := by decide +kernel
theorem dX5_oneWeek_52 : decode cX5_oneWeek 52 = .ok (.iinc 1 1, 3) := by decide +kernel
theorem dX5_oneWeek_55 : decode cX5_oneWeek 55 = .ok (.goto (-30), 3) := by decide +kernel
theorem dX5_oneWeek_58 : decode cX5_oneWeek 58 = .ok (.iconst 0, 1) := by decide +kernel
theorem dX5_oneWeek_59 : decode cX5_oneWeek 59 = .ok (.istore_n 1, 1) := by decide +kernel
theorem dX5_oneWeek_60 : decode cX5_oneWeek 60 = .ok (.iload_n 1, 1) := by decide +kernel
theorem dX5_oneWeek_61 : decode cX5_oneWeek 61 = .ok (.aload_n 0, 1) := by decide +kernel
theorem dX5_oneWeek_62 : decode cX5_oneWeek 62 = .ok (.getfield 7, 3) := by decide +kernel
theorem dX5_oneWeek_65 : decode cX5_oneWeek 65 = .ok (.iconst 2, 1) := by decide +kernel
theorem dX5_oneWeek_66 : decode cX5_oneWeek 66 = .ok (.iaload, 1) := by decide +kernel
theorem dX5_oneWeek_67 : decode cX5_oneWeek 67 = .ok (.if_icmp .ge 45, 3) := by decide +kernel
theorem dX5_oneWeek_70 : decode cX5_oneWeek 70 = .ok (.aload_n 0, 1) := by decide +kernel
theorem dX5_oneWeek_71 : decode cX5_oneWeek 71 = .ok (.iload_n 1, 1) := by decide +kernel
theorem dX5_oneWeek_72 : decode cX5_oneWeek 72 = .ok (.iconst 3, 1) := by decide +kernel
theorem dX5_oneWeek_73 : decode cX5_oneWeek 73 = .ok (.invokevirtual 57, 3) := by decide +kernel
theorem dX5_oneWeek_76 : decode cX5_oneWeek 76 = .ok (.ifCond .ne 30, 3) := by decide +kernel
theorem dX5_oneWeek_79 : decode cX5_oneWeek 79 = .ok (.aload_n 0, 1) := by decide +kernel
theorem dX5_oneWeek_80 : decode cX5_oneWeek 80 = .ok (.iload_n 1, 1) := by decide +kernel
theorem dX5_oneWeek_81 : decode cX5_oneWeek 81 = .ok (.iconst 2, 1) := by decide +kernel
theorem dX5_oneWeek_82 : decode cX5_oneWeek 82 = .ok (.aload_n 0, 1) := by decide +kernel
theorem dX5_oneWeek_83 : decode cX5_oneWeek 83 = .ok (.iload_n 1, 1) := by decide +kernel
theorem dX5_oneWeek_84 : decode cX5_oneWeek 84 = .ok (.iconst 2, 1) := by decide +kernel
theorem dX5_oneWeek_85 : decode cX5_oneWeek 85 = .ok (.invokevirtual 57, 3) := by decide +kernel
theorem dX5_oneWeek_88 : decode cX5_oneWeek 88 = .ok (.aload_n 0, 1) := by decide +kernel
theorem dX5_oneWeek_89 : decode cX5_oneWeek 89 = .ok (.iload_n 1, 1) := by decide +kernel
theorem dX5_oneWeek_90 : decode cX5_oneWeek 90 = .ok (.invokevirtual 101, 3) := by decide +kernel
theorem dX5_oneWeek_93 : decode cX5_oneWeek 93 = .ok (.iadd, 1) := by decide +kernel
theorem dX5_oneWeek_94 : decode cX5_oneWeek 94 = .ok (.sipush (-999), 3) := by decide +kernel
theorem dX5_oneWeek_97 : decode cX5_oneWeek 97 = .ok (.sipush 999, 3) := by decide +kernel
theorem dX5_oneWeek_100 : decode cX5_oneWeek 100 = .ok (.invokestatic 134, 3) := by decide +kernel
theorem dX5_oneWeek_103 : decode cX5_oneWeek 103 = .ok (.invokevirtual 86, 3) := by decide +kernel
theorem dX5_oneWeek_106 : decode cX5_oneWeek 106 = .ok (.iinc 1 1, 3) := by decide +kernel
theorem dX5_oneWeek_109 : decode cX5_oneWeek 109 = .ok (.goto (-49), 3) := by decide +kernel
theorem dX5_oneWeek_112 : decode cX5_oneWeek 112 = .ok (.aload_n 0, 1) := by decide +kernel
theorem dX5_oneWeek_113 : decode cX5_oneWeek 113 = .ok (.getfield 7, 3) := by decide +kernel
theorem dX5_oneWeek_116 : decode cX5_oneWeek 116 = .ok (.iconst 0, 1) := by decide +kernel
theorem dX5_oneWeek_117 : decode cX5_oneWeek 117 = .ok (.dup2, 1) := by decide +kernel
theorem dX5_oneWeek_118 : decode cX5_oneWeek 118 = .ok (.iaload, 1) := by decide +kernel
theorem dX5_oneWeek_119 : decode cX5_oneWeek 119 = .ok (.iconst 1, 1) := by decide +kernel
theorem dX5_oneWeek_120 : decode cX5_oneWeek 120 = .ok (.iadd, 1) := by decide +kernel
theorem dX5_oneWeek_121 : decode cX5_oneWeek 121 = .ok (.iastore, 1) := by decide +kernel
theorem dX5_oneWeek_122 : decode cX5_oneWeek 122 = .ok (.return_, 1) := by decide +kernel
theorem dX5_passes_0 : decode cX5_passes 0 = .ok (.iconst 0, 1) := by decide +kernel
theorem dX5_passes_1 : decode cX5_passes 1 = .ok (.istore_n 2, 1) := by decide +kernel
theorem dX5_passes_2 : decode cX5_passes 2 = .ok (.iload_n 2, 1) := by decide +kernel
theorem dX5_passes_3 : decode cX5_passes 3 = .ok (.iload_n 1, 1) := by decide +kernel
theorem dX5_passes_4 : decode cX5_passes 4 = .ok (.if_icmp .ge 13, 3) := by decide +kernel
theorem dX5_passes_7 : decode cX5_passes 7 = .ok (.aload_n 0, 1) := by decide +kernel
theorem dX5_passes_8 : decode cX5_passes 8 = .ok (.invokevirtual 145, 3) := by decide +kernel
theorem dX5_passes_11 : decode cX5_passes 11 = .ok (.iinc 2 1, 3) := by decide +kernel
theorem dX5_passes_14 : decode cX5_passes 14 = .ok (.goto (-12), 3) := by decide +kernel
theorem dX5_passes_17 : decode cX5_passes 17 = .ok (.return_, 1) := by decide +kernel
theorem dX5_weeks_0 : decode cX5_weeks 0 = .ok (.iload_n 1, 1) := by decide +kernel
theorem dX5_weeks_1 : decode cX5_weeks 1 = .ok (.iconst 1, 1) := by decide +kernel
theorem dX5_weeks_2 : decode cX5_weeks 2 = .ok (.bipush 60, 2) := by decide +kernel
theorem dX5_weeks_4 : decode cX5_weeks 4 = .ok (.invokestatic 45, 3) := by decide +kernel
theorem dX5_weeks_7 : decode cX5_weeks 7 = .ok (.ifCond .ne 10, 3) := by decide +kernel
theorem dX5_weeks_10 : decode cX5_weeks 10 = .ok (.aload_n 0, 1) := by decide +kernel
theorem dX5_weeks_11 : decode cX5_weeks 11 = .ok (.ldc 44, 2) := by decide +kernel
theorem dX5_weeks_13 : decode cX5_weeks 13 = .ok (.invokevirtual 73, 3) := by decide +kernel
theorem dX5_weeks_16 : decode cX5_weeks 16 = .ok (.ireturn, 1) := by decide +kernel
theorem dX5_weeks_17 : decode cX5_weeks 17 = .ok (.aload_n 0, 1) := by decide +kernel
theorem dX5_weeks_18 : decode cX5_weeks 18 = .ok (.getfield 7, 3) := by decide +kernel
theorem dX5_weeks_21 : decode cX5_weeks 21 = .ok (.iconst 0, 1) := by decide +kernel
theorem dX5_weeks_22 : decode cX5_weeks 22 = .ok (.iaload, 1) := by decide +kernel
theorem dX5_weeks_23 : decode cX5_weeks 23 = .ok (.iload_n 1, 1) := by decide +kernel
theorem dX5_weeks_24 : decode cX5_weeks 24 = .ok (.iadd, 1) := by decide +kernel
theorem dX5_weeks_25 : decode cX5_weeks 25 = .ok (.ldc 148, 2) := by decide +kernel
theorem dX5_weeks_27 : decode cX5_weeks 27 = .ok (.if_icmp .le 10, 3) := by decide +kernel
theorem dX5_weeks_30 : decode cX5_weeks 30 = .ok (.aload_n 0, 1) := by decide +kernel
theorem dX5_weeks_31 : decode cX5_weeks 31 = .ok (.ldc 149, 2) := by decide +kernel
theorem dX5_weeks_33 : decode cX5_weeks 33 = .ok (.invokevirtual 73, 3) := by decide +kernel
theorem dX5_weeks_36 : decode cX5_weeks 36 = .ok (.ireturn, 1) := by decide +kernel
theorem dX5_weeks_37 : decode cX5_weeks 37 = .ok (.aload_n 0, 1) := by decide +kernel
theorem dX5_weeks_38 : decode cX5_weeks 38 = .ok (.iload_n 1, 1) := by decide +kernel
theorem dX5_weeks_39 : decode cX5_weeks 39 = .ok (.invokevirtual 150, 3) := by decide +kernel
theorem dX5_weeks_42 : decode cX5_weeks 42 = .ok (.aload_n 0, 1) := by decide +kernel
theorem dX5_weeks_43 : decode cX5_weeks 43 = .ok (.invokevirtual 76, 3) := by decide +kernel
theorem dX5_weeks_46 : decode cX5_weeks 46 = .ok (.ireturn, 1) := by decide +kernel
theorem dX5_behind_0 : decode cX5_behind 0 = .ok (.aload_n 0, 1) := by decide +kernel
theorem dX5_behind_1 : decode cX5_behind 1 = .ok (.iload_n 1, 1) := by decide +kernel
theorem dX5_behind_2 : decode cX5_behind 2 = .ok (.invokevirtual 150, 3) := by decide +kernel
theorem dX5_behind_5 : decode cX5_behind 5 = .ok (.aload_n 0, 1) := by decide +kernel
theorem dX5_behind_6 : decode cX5_behind 6 = .ok (.getfield 7, 3) := by decide +kernel
theorem dX5_behind_9 : decode cX5_behind 9 = .ok (.iload_n 2, 1) := by decide +kernel
theorem dX5_behind_10 : decode cX5_behind 10 = .ok (.iaload, 1) := by decide +kernel
theorem dX5_behind_11 : decode cX5_behind 11 = .ok (.istore_n 3, 1) := by decide +kernel
theorem dX5_behind_12 : decode cX5_behind 12 = .ok (.aload_n 0, 1) := by decide +kernel
theorem dX5_behind_13 : decode cX5_behind 13 = .ok (.iconst 0, 1) := by decide +kernel
theorem dX5_behind_14 : decode cX5_behind 14 = .ok (.aload_n 0, 1) := by decide +kernel
theorem dX5_behind_15 : decode cX5_behind 15 = .ok (.getfield 16, 3) := by decide +kernel
theorem dX5_behind_18 : decode cX5_behind 18 = .ok (.invokevirtual 153, 3) := by decide +kernel
theorem dX5_behind_21 : decode cX5_behind 21 = .ok (.iload_n 3, 1) := by decide +kernel
theorem dX5_behind_22 : decode cX5_behind 22 = .ok (.ireturn, 1) := by decide +kernel
theorem dX5_on_0 : decode cX5_on 0 = .ok (.aload_n 0, 1) := by decide +kernel
theorem dX5_on_1 : decode cX5_on 1 = .ok (.iload_n 1, 1) := by decide +kernel
theorem dX5_on_2 : decode cX5_on 2 = .ok (.invokevirtual 108, 3) := by decide +kernel
theorem dX5_on_5 : decode cX5_on 5 = .ok (.ifCond .eq 22, 3) := by decide +kernel
theorem dX5_on_8 : decode cX5_on 8 = .ok (.iload_n 2, 1) := by decide +kernel
theorem dX5_on_9 : decode cX5_on 9 = .ok (.iconst 0, 1) := by decide +kernel
theorem dX5_on_10 : decode cX5_on 10 = .ok (.bipush 100, 2) := by decide +kernel
theorem dX5_on_12 : decode cX5_on 12 = .ok (.invokestatic 45, 3) := by decide +kernel
theorem dX5_on_15 : decode cX5_on 15 = .ok (.ifCond .eq 12, 3) := by decide +kernel
theorem dX5_on_18 : decode cX5_on 18 = .ok (.iload_n 3, 1) := by decide +kernel
theorem dX5_on_19 : decode cX5_on 19 = .ok (.iconst 0, 1) := by decide +kernel
theorem dX5_on_20 : decode cX5_on 20 = .ok (.iconst 1, 1) := by decide +kernel
theorem dX5_on_21 : decode cX5_on 21 = .ok (.invokestatic 45, 3) := by decide +kernel
theorem dX5_on_24 : decode cX5_on 24 = .ok (.ifCond .ne 10, 3) := by decide +kernel
theorem dX5_on_27 : decode cX5_on 27 = .ok (.aload_n 0, 1) := by decide +kernel
theorem dX5_on_28 : decode cX5_on 28 = .ok (.ldc 44, 2) := by decide +kernel
theorem dX5_on_30 : decode cX5_on 30 = .ok (.invokevirtual 73, 3) := by decide +kernel
theorem dX5_on_33 : decode cX5_on 33 = .ok (.ireturn, 1) := by decide +kernel
theorem dX5_on_34 : decode cX5_on 34 = .ok (.aload_n 0, 1) := by decide +kernel
theorem dX5_on_35 : decode cX5_on 35 = .ok (.iconst 1, 1) := by decide +kernel
theorem dX5_on_36 : decode cX5_on 36 = .ok (.aload_n 0, 1) := by decide +kernel
theorem dX5_on_37 : decode cX5_on 37 = .ok (.getfield 16, 3) := by decide +kernel
theorem dX5_on_40 : decode cX5_on 40 = .ok (.invokevirtual 153, 3) := by decide +kernel
theorem dX5_on_43 : decode cX5_on 43 = .ok (.aload_n 0, 1) := by decide +kernel
theorem dX5_on_44 : decode cX5_on 44 = .ok (.iload_n 2, 1) := by decide +kernel
theorem dX5_on_45 : decode cX5_on 45 = .ok (.bipush 28, 2) := by decide +kernel
theorem dX5_on_47 : decode cX5_on 47 = .ok (.iconst 4, 1) := by decide +kernel
theorem dX5_on_48 : decode cX5_on 48 = .ok (.iload_n 1, 1) := by decide +kernel
theorem dX5_on_49 : decode cX5_on 49 = .ok (.imul, 1) := by decide +kernel
theorem dX5_on_50 : decode cX5_on 50 = .ok (.iadd, 1) := by decide +kernel
theorem dX5_on_51 : decode cX5_on 51 = .ok (.iconst 2, 1) := by decide +kernel
theorem dX5_on_52 : decode cX5_on 52 = .ok (.iadd, 1) := by decide +kernel
theorem dX5_on_53 : decode cX5_on 53 = .ok (.iload_n 3, 1) := by decide +kernel
theorem dX5_on_54 : decode cX5_on 54 = .ok (.iadd, 1) := by decide +kernel
theorem dX5_on_55 : decode cX5_on 55 = .ok (.invokevirtual 157, 3) := by decide +kernel
theorem dX5_on_58 : decode cX5_on 58 = .ok (.ireturn, 1) := by decide +kernel
theorem dX5_then_0 : decode cX5_then 0 = .ok (.aload_n 0, 1) := by decide +kernel
theorem dX5_then_1 : decode cX5_then 1 = .ok (.iload_n 1, 1) := by decide +kernel
theorem dX5_then_2 : decode cX5_then 2 = .ok (.invokevirtual 98, 3) := by decide +kernel
theorem dX5_then_5 : decode cX5_then 5 = .ok (.ifCond .eq 13, 3) := by decide +kernel
theorem dX5_then_8 : decode cX5_then 8 = .ok (.iload_n 2, 1) := by decide +kernel
theorem dX5_then_9 : decode cX5_then 9 = .ok (.iconst 0, 1) := by decide +kernel
theorem dX5_then_10 : decode cX5_then 10 = .ok (.bipush 100, 2) := by decide +kernel
theorem dX5_then_12 : decode cX5_then 12 = .ok (.invokestatic 45, 3) := by decide +kernel
theorem dX5_then_15 : decode cX5_then 15 = .ok (.ifCond .ne 10, 3) := by decide +kernel
theorem dX5_then_18 : decode cX5_then 18 = .ok (.aload_n 0, 1) := by decide +kernel
theorem dX5_then_19 : decode cX5_then 19 = .ok (.ldc 44, 2) := by decide +kernel
theorem dX5_then_21 : decode cX5_then 21 = .ok (.invokevirtual 73, 3) := by decide +kernel
theorem dX5_then_24 : decode cX5_then 24 = .ok (.ireturn, 1) := by decide +kernel
theorem dX5_then_25 : decode cX5_then 25 = .ok (.aload_n 0, 1) := by decide +kernel
theorem dX5_then_26 : decode cX5_then 26 = .ok (.iconst 1, 1) := by decide +kernel
theorem dX5_then_27 : decode cX5_then 27 = .ok (.aload_n 0, 1) := by decide +kernel
theorem dX5_then_28 : decode cX5_then 28 = .ok (.getfield 16, 3) := by decide +kernel
theorem dX5_then_31 : decode cX5_then 31 = .ok (.invokevirtual 153, 3) := by decide +kernel
theorem dX5_then_34 : decode cX5_then 34 = .ok (.sipush 1000, 3) := by decide +kernel
theorem dX5_then_37 : decode cX5_then 37 = .ok (.aload_n 0, 1) := by decide +kernel
theorem dX5_then_38 : decode cX5_then 38 = .ok (.iload_n 2, 1) := by decide +kernel
theorem dX5_then_39 : decode cX5_then 39 = .ok (.iconst 4, 1) := by decide +kernel
theorem dX5_then_40 : decode cX5_then 40 = .ok (.iconst 4, 1) := by decide +kernel
theorem dX5_then_41 : decode cX5_then 41 = .ok (.iload_n 1, 1) := by decide +kernel
theorem dX5_then_42 : decode cX5_then 42 = .ok (.imul, 1) := by decide +kernel
theorem dX5_then_43 : decode cX5_then 43 = .ok (.iadd, 1) := by decide +kernel
theorem dX5_then_44 : decode cX5_then 44 = .ok (.iconst 2, 1) := by decide +kernel
theorem dX5_then_45 : decode cX5_then 45 = .ok (.iadd, 1) := by decide +kernel
theorem dX5_then_46 : decode cX5_then 46 = .ok (.invokevirtual 157, 3) := by decide +kernel
theorem dX5_then_49 : decode cX5_then 49 = .ok (.iadd, 1) := by decide +kernel
theorem dX5_then_50 : decode cX5_then 50 = .ok (.ireturn, 1) := by decide +kernel
theorem dX5_lost_0 : decode cX5_lost 0 = .ok (.aload_n 0, 1) := by decide +kernel
theorem dX5_lost_1 : decode cX5_lost 1 = .ok (.iload_n 1, 1) := by decide +kernel
theorem dX5_lost_2 : decode cX5_lost 2 = .ok (.invokevirtual 108, 3) := by decide +kernel
theorem dX5_lost_5 : decode cX5_lost 5 = .ok (.ifCond .ne 10, 3) := by decide +kernel
theorem dX5_lost_8 : decode cX5_lost 8 = .ok (.aload_n 0, 1) := by decide +kernel
theorem dX5_lost_9 : decode cX5_lost 9 = .ok (.ldc 44, 2) := by decide +kernel
theorem dX5_lost_11 : decode cX5_lost 11 = .ok (.invokevirtual 73, 3) := by decide +kernel
theorem dX5_lost_14 : decode cX5_lost 14 = .ok (.ireturn, 1) := by decide +kernel
theorem dX5_lost_15 : decode cX5_lost 15 = .ok (.aload_n 0, 1) := by decide +kernel
theorem dX5_lost_16 : decode cX5_lost 16 = .ok (.iconst 1, 1) := by decide +kernel
theorem dX5_lost_17 : decode cX5_lost 17 = .ok (.aload_n 0, 1) := by decide +kernel
theorem dX5_lost_18 : decode cX5_lost 18 = .ok (.getfield 16, 3) := by decide +kernel
theorem dX5_lost_21 : decode cX5_lost 21 = .ok (.invokevirtual 153, 3) := by decide +kernel
theorem dX5_lost_24 : decode cX5_lost 24 = .ok (.iconst 0, 1) := by decide +kernel
theorem dX5_lost_25 : decode cX5_lost 25 = .ok (.istore_n 2, 1) := by decide +kernel
theorem dX5_lost_26 : decode cX5_lost 26 = .ok (.iload_n 2, 1) := by decide +kernel
theorem dX5_lost_27 : decode cX5_lost 27 = .ok (.bipush 100, 2) := by decide +kernel
theorem dX5_lost_29 : decode cX5_lost 29 = .ok (.if_icmp .gt 21, 3) := by decide +kernel
theorem dX5_lost_32 : decode cX5_lost 32 = .ok (.aload_n 0, 1) := by decide +kernel
theorem dX5_lost_33 : decode cX5_lost 33 = .ok (.iload_n 1, 1) := by decide +kernel
theorem dX5_lost_34 : decode cX5_lost 34 = .ok (.invokevirtual 53, 3) := by decide +kernel
theorem dX5_lost_37 : decode cX5_lost 37 = .ok (.ifCond .eq 13, 3) := by decide +kernel
theorem dX5_lost_40 : decode cX5_lost 40 = .ok (.aload_n 0, 1) := by decide +kernel
theorem dX5_lost_41 : decode cX5_lost 41 = .ok (.invokevirtual 145, 3) := by decide +kernel
theorem dX5_lost_44 : decode cX5_lost 44 = .ok (.iinc 2 1, 3) := by decide +kernel
theorem dX5_lost_47 : decode cX5_lost 47 = .ok (.goto (-21), 3) := by decide +kernel
theorem dX5_lost_50 : decode cX5_lost 50 = .ok (.aload_n 0, 1) := by decide +kernel
theorem dX5_lost_51 : decode cX5_lost 51 = .ok (.iconst 0, 1) := by decide +kernel
theorem dX5_lost_52 : decode cX5_lost 52 = .ok (.aload_n 0, 1) := by decide +kernel
theorem dX5_lost_53 : decode cX5_lost 53 = .ok (.getfield 16, 3) := by decide +kernel
theorem dX5_lost_56 : decode cX5_lost 56 = .ok (.invokevirtual 153, 3) := by decide +kernel
theorem dX5_lost_59 : decode cX5_lost 59 = .ok (.iload_n 2, 1) := by decide +kernel
theorem dX5_lost_60 : decode cX5_lost 60 = .ok (.bipush 100, 2) := by decide +kernel
theorem dX5_lost_62 : decode cX5_lost 62 = .ok (.if_icmp .le 12, 3) := by decide +kernel
theorem dX5_lost_65 : decode cX5_lost 65 = .ok (.aload_n 0, 1) := by decide +kernel
theorem dX5_lost_66 : decode cX5_lost 66 = .ok (.ldc 160, 2) := by decide +kernel
theorem dX5_lost_68 : decode cX5_lost 68 = .ok (.invokevirtual 73, 3) := by decide +kernel
theorem dX5_lost_71 : decode cX5_lost 71 = .ok (.goto 4, 3) := by decide +kernel
theorem dX5_lost_74 : decode cX5_lost 74 = .ok (.iload_n 2, 1) := by decide +kernel
theorem dX5_lost_75 : decode cX5_lost 75 = .ok (.ireturn, 1) := by decide +kernel
theorem dX5_comes_0 : decode cX5_comes 0 = .ok (.aload_n 0, 1) := by decide +kernel
theorem dX5_comes_1 : decode cX5_comes 1 = .ok (.iload_n 1, 1) := by decide +kernel
theorem dX5_comes_2 : decode cX5_comes 2 = .ok (.invokevirtual 108, 3) := by decide +kernel
theorem dX5_comes_5 : decode cX5_comes 5 = .ok (.ifCond .eq 11, 3) := by decide +kernel
theorem dX5_comes_8 : decode cX5_comes 8 = .ok (.aload_n 0, 1) := by decide +kernel
theorem dX5_comes_9 : decode cX5_comes 9 = .ok (.iload_n 2, 1) := by decide +kernel
theorem dX5_comes_10 : decode cX5_comes 10 = .ok (.invokevirtual 98, 3) := by decide +kernel
theorem dX5_comes_13 : decode cX5_comes 13 = .ok (.ifCond .ne 10, 3) := by decide +kernel
theorem dX5_comes_16 : decode cX5_comes 16 = .ok (.aload_n 0, 1) := by decide +kernel
theorem dX5_comes_17 : decode cX5_comes 17 = .ok (.ldc 44, 2) := by decide +kernel
theorem dX5_comes_19 : decode cX5_comes 19 = .ok (.invokevirtual 73, 3) := by decide +kernel
theorem dX5_comes_22 : decode cX5_comes 22 = .ok (.ireturn, 1) := by decide +kernel
theorem dX5_comes_23 : decode cX5_comes 23 = .ok (.aload_n 0, 1) := by decide +kernel
theorem dX5_comes_24 : decode cX5_comes 24 = .ok (.iconst 1, 1) := by decide +kernel
theorem dX5_comes_25 : decode cX5_comes 25 = .ok (.aload_n 0, 1) := by decide +kernel
theorem dX5_comes_26 : decode cX5_comes 26 = .ok (.getfield 16, 3) := by decide +kernel
theorem dX5_comes_29 : decode cX5_comes 29 = .ok (.invokevirtual 153, 3) := by decide +kernel
theorem dX5_comes_32 : decode cX5_comes 32 = .ok (.iconst 0, 1) := by decide +kernel
theorem dX5_comes_33 : decode cX5_comes 33 = .ok (.istore_n 3, 1) := by decide +kernel
theorem dX5_comes_34 : decode cX5_comes 34 = .ok (.iload_n 3, 1) := by decide +kernel
theorem dX5_comes_35 : decode cX5_comes 35 = .ok (.bipush 100, 2) := by decide +kernel
theorem dX5_comes_37 : decode cX5_comes 37 = .ok (.if_icmp .gt 23, 3) := by decide +kernel
theorem dX5_comes_40 : decode cX5_comes 40 = .ok (.aload_n 0, 1) := by decide +kernel
theorem dX5_comes_41 : decode cX5_comes 41 = .ok (.iload_n 1, 1) := by decide +kernel
theorem dX5_comes_42 : decode cX5_comes 42 = .ok (.iconst 3, 1) := by decide +kernel
theorem dX5_comes_43 : decode cX5_comes 43 = .ok (.invokevirtual 49, 3) := by decide +kernel
theorem dX5_comes_46 : decode cX5_comes 46 = .ok (.iload_n 2, 1) := by decide +kernel
theorem dX5_comes_47 : decode cX5_comes 47 = .ok (.if_icmp .eq 13, 3) := by decide +kernel
theorem dX5_comes_50 : decode cX5_comes 50 = .ok (.aload_n 0, 1) := by decide +kernel
theorem dX5_comes_51 : decode cX5_comes 51 = .ok (.invokevirtual 145, 3) := by decide +kernel
theorem dX5_comes_54 : decode cX5_comes 54 = .ok (.iinc 3 1, 3) := by decide +kernel
theorem dX5_comes_57 : decode cX5_comes 57 = .ok (.goto (-23), 3) := by decide +kernel
theorem dX5_comes_60 : decode cX5_comes 60 = .ok (.aload_n 0, 1) := by decide +kernel
theorem dX5_comes_61 : decode cX5_comes 61 = .ok (.iconst 0, 1) := by decide +kernel
theorem dX5_comes_62 : decode cX5_comes 62 = .ok (.aload_n 0, 1) := by decide +kernel
theorem dX5_comes_63 : decode cX5_comes 63 = .ok (.getfield 16, 3) := by decide +kernel
theorem dX5_comes_66 : decode cX5_comes 66 = .ok (.invokevirtual 153, 3) := by decide +kernel
theorem dX5_comes_69 : decode cX5_comes 69 = .ok (.iload_n 3, 1) := by decide +kernel
theorem dX5_comes_70 : decode cX5_comes 70 = .ok (.bipush 100, 2) := by decide +kernel
theorem dX5_comes_72 : decode cX5_comes 72 = .ok (.if_icmp .le 12, 3) := by decide +kernel
theorem dX5_comes_75 : decode cX5_comes 75 = .ok (.aload_n 0, 1) := by decide +kernel
theorem dX5_comes_76 : decode cX5_comes 76 = .ok (.ldc 160, 2) := by decide +kernel
theorem dX5_comes_78 : decode cX5_comes 78 = .ok (.invokevirtual 73, 3) := by decide +kernel
theorem dX5_comes_81 : decode cX5_comes 81 = .ok (.goto 4, 3) := by decide +kernel
theorem dX5_comes_84 : decode cX5_comes 84 = .ok (.iload_n 3, 1) := by decide +kernel
theorem dX5_comes_85 : decode cX5_comes 85 = .ok (.ireturn, 1) := by decide +kernel
theorem dX5_rightIn_0 : decode cX5_rightIn 0 = .ok (.iconst 0, 1) := by decide +kernel
theorem dX5_rightIn_1 : decode cX5_rightIn 1 = .ok (.istore_n 3, 1) := by decide +kernel
theorem dX5_rightIn_2 : decode cX5_rightIn 2 = .ok (.iconst 0, 1) := by decide +kernel
theorem dX5_rightIn_3 : decode cX5_rightIn 3 = .ok (.istore 4, 2) := by decide +kernel
theorem dX5_rightIn_5 : decode cX5_rightIn 5 = .ok (.iload 4, 2) := by decide +kernel
theorem dX5_rightIn_7 : decode cX5_rightIn 7 = .ok (.iload_n 2, 1) := by decide +kernel
theorem dX5_rightIn_8 : decode cX5_rightIn 8 = .ok (.if_icmp .ge 29, 3) := by decide +kernel
theorem dX5_rightIn_11 : decode cX5_rightIn 11 = .ok (.aload_n 0, 1) := by decide +kernel
theorem dX5_rightIn_12 : decode cX5_rightIn 12 = .ok (.invokevirtual 145, 3) := by decide +kernel
theorem dX5_rightIn_15 : decode cX5_rightIn 15 = .ok (.iload_n 3, 1) := by decide +kernel
theorem dX5_rightIn_16 : decode cX5_rightIn 16 = .ok (.aload_n 0, 1) := by decide +kernel
theorem dX5_rightIn_17 : decode cX5_rightIn 17 = .ok (.iload_n 1, 1) := by decide +kernel
theorem dX5_rightIn_18 : decode cX5_rightIn 18 = .ok (.invokevirtual 53, 3) := by decide +kernel
theorem dX5_rightIn_21 : decode cX5_rightIn 21 = .ok (.ifCond .eq 7, 3) := by decide +kernel
theorem dX5_rightIn_24 : decode cX5_rightIn 24 = .ok (.iconst 1, 1) := by decide +kernel
theorem dX5_rightIn_25 : decode cX5_rightIn 25 = .ok (.goto 4, 3) := by decide +kernel
theorem dX5_rightIn_28 : decode cX5_rightIn 28 = .ok (.iconst 0, 1) := by decide +kernel
theorem dX5_rightIn_29 : decode cX5_rightIn 29 = .ok (.iadd, 1) := by decide +kernel
theorem dX5_rightIn_30 : decode cX5_rightIn 30 = .ok (.istore_n 3, 1) := by decide +kernel
theorem dX5_rightIn_31 : decode cX5_rightIn 31 = .ok (.iinc 4 1, 3) := by decide +kernel
theorem dX5_rightIn_34 : decode cX5_rightIn 34 = .ok (.goto (-29), 3) := by decide +kernel
theorem dX5_rightIn_37 : decode cX5_rightIn 37 = .ok (.aload_n 0, 1) := by decide +kernel
theorem dX5_rightIn_38 : decode cX5_rightIn 38 = .ok (.iconst 0, 1) := by decide +kernel
theorem dX5_rightIn_39 : decode cX5_rightIn 39 = .ok (.aload_n 0, 1) := by decide +kernel
theorem dX5_rightIn_40 : decode cX5_rightIn 40 = .ok (.getfield 16, 3) := by decide +kernel
theorem dX5_rightIn_43 : decode cX5_rightIn 43 = .ok (.invokevirtual 153, 3) := by decide +kernel
theorem dX5_rightIn_46 : decode cX5_rightIn 46 = .ok (.iload_n 3, 1) := by decide +kernel
theorem dX5_rightIn_47 : decode cX5_rightIn 47 = .ok (.ireturn, 1) := by decide +kernel
theorem dX5_mark_0 : decode cX5_mark 0 = .ok (.aload_n 0, 1) := by decide +kernel
theorem dX5_mark_1 : decode cX5_mark 1 = .ok (.iload_n 1, 1) := by decide +kernel
theorem dX5_mark_2 : decode cX5_mark 2 = .ok (.invokevirtual 108, 3) := by decide +kernel
theorem dX5_mark_5 : decode cX5_mark 5 = .ok (.ifCond .eq 13, 3) := by decide +kernel
theorem dX5_mark_8 : decode cX5_mark 8 = .ok (.iload_n 2, 1) := by decide +kernel
theorem dX5_mark_9 : decode cX5_mark 9 = .ok (.iconst 1, 1) := by decide +kernel
theorem dX5_mark_10 : decode cX5_mark 10 = .ok (.bipush 40, 2) := by decide +kernel
theorem dX5_mark_12 : decode cX5_mark 12 = .ok (.invokestatic 45, 3) := by decide +kernel
theorem dX5_mark_15 : decode cX5_mark 15 = .ok (.ifCond .ne 10, 3) := by decide +kernel
theorem dX5_mark_18 : decode cX5_mark 18 = .ok (.aload_n 0, 1) := by decide +kernel
theorem dX5_mark_19 : decode cX5_mark 19 = .ok (.ldc 44, 2) := by decide +kernel
theorem dX5_mark_21 : decode cX5_mark 21 = .ok (.invokevirtual 73, 3) := by decide +kernel
theorem dX5_mark_24 : decode cX5_mark 24 = .ok (.ireturn, 1) := by decide +kernel
theorem dX5_mark_25 : decode cX5_mark 25 = .ok (.aload_n 0, 1) := by decide +kernel
theorem dX5_mark_26 : decode cX5_mark 26 = .ok (.iconst 1, 1) := by decide +kernel
theorem dX5_mark_27 : decode cX5_mark 27 = .ok (.aload_n 0, 1) := by decide +kernel
theorem dX5_mark_28 : decode cX5_mark 28 = .ok (.getfield 16, 3) := by decide +kernel
theorem dX5_mark_31 : decode cX5_mark 31 = .ok (.invokevirtual 153, 3) := by decide +kernel
theorem dX5_mark_34 : decode cX5_mark 34 = .ok (.iconst 0, 1) := by decide +kernel
theorem dX5_mark_35 : decode cX5_mark 35 = .ok (.istore_n 3, 1) := by decide +kernel
theorem dX5_mark_36 : decode cX5_mark 36 = .ok (.iconst (-1), 1) := by decide +kernel
theorem dX5_mark_37 : decode cX5_mark 37 = .ok (.istore 4, 2) := by decide +kernel
theorem dX5_mark_39 : decode cX5_mark 39 = .ok (.iconst 0, 1) := by decide +kernel
theorem dX5_mark_40 : decode cX5_mark 40 = .ok (.istore 5, 2) := by decide +kernel
theorem dX5_mark_42 : decode cX5_mark 42 = .ok (.iload 5, 2) := by decide +kernel
theorem dX5_mark_44 : decode cX5_mark 44 = .ok (.iconst 3, 1) := by decide +kernel
theorem dX5_mark_45 : decode cX5_mark 45 = .ok (.if_icmp .ge 55, 3) := by decide +kernel
theorem dX5_mark_48 : decode cX5_mark 48 = .ok (.aload_n 0, 1) := by decide +kernel
theorem dX5_mark_49 : decode cX5_mark 49 = .ok (.iload_n 1, 1) := by decide +kernel
theorem dX5_mark_50 : decode cX5_mark 50 = .ok (.iconst 1, 1) := by decide +kernel
theorem dX5_mark_51 : decode cX5_mark 51 = .ok (.iload 5, 2) := by decide +kernel
theorem dX5_mark_53 : decode cX5_mark 53 = .ok (.invokevirtual 118, 3) := by decide +kernel
theorem dX5_mark_56 : decode cX5_mark 56 = .ok (.aload_n 0, 1) := by decide +kernel
theorem dX5_mark_57 : decode cX5_mark 57 = .ok (.iload_n 1, 1) := by decide +kernel
theorem dX5_mark_58 : decode cX5_mark 58 = .ok (.iload_n 2, 1) := by decide +kernel
theorem dX5_mark_59 : decode cX5_mark 59 = .ok (.invokevirtual 161, 3) := by decide +kernel
theorem dX5_mark_62 : decode cX5_mark 62 = .ok (.istore 6, 2) := by decide +kernel
theorem dX5_mark_64 : decode cX5_mark 64 = .ok (.iload 6, 2) := by decide +kernel
theorem dX5_mark_66 : decode cX5_mark 66 = .ok (.iload 4, 2) := by decide +kernel
theorem dX5_mark_68 : decode cX5_mark 68 = .ok (.if_icmp .le 8, 3) := by decide +kernel
theorem dX5_mark_71 : decode cX5_mark 71 = .ok (.iload 5, 2) := by decide +kernel
theorem dX5_mark_73 : decode cX5_mark 73 = .ok (.goto 4, 3) := by decide +kernel
theorem dX5_mark_76 : decode cX5_mark 76 = .ok (.iload_n 3, 1) := by decide +kernel
theorem dX5_mark_77 : decode cX5_mark 77 = .ok (.istore_n 3, 1) := by decide +kernel
theorem dX5_mark_78 : decode cX5_mark 78 = .ok (.iload 6, 2) := by decide +kernel
theorem dX5_mark_80 : decode cX5_mark 80 = .ok (.iload 4, 2) := by decide +kernel
theorem dX5_mark_82 : decode cX5_mark 82 = .ok (.if_icmp .le 8, 3) := by decide +kernel
theorem dX5_mark_85 : decode cX5_mark 85 = .ok (.iload 6, 2) := by decide +kernel
theorem dX5_mark_87 : decode cX5_mark 87 = .ok (.goto 5, 3) := by decide +kernel
theorem dX5_mark_90 : decode cX5_mark 90 = .ok (.iload 4, 2) := by decide +kernel
theorem dX5_mark_92 : decode cX5_mark 92 = .ok (.istore 4, 2) := by decide +kernel
theorem dX5_mark_94 : decode cX5_mark 94 = .ok (.iinc 5 1, 3) := by decide +kernel
theorem dX5_mark_97 : decode cX5_mark 97 = .ok (.goto (-55), 3) := by decide +kernel
theorem dX5_mark_100 : decode cX5_mark 100 = .ok (.iload_n 3, 1) := by decide +kernel
theorem dX5_mark_101 : decode cX5_mark 101 = .ok (.ireturn, 1) := by decide +kernel
theorem dX5_kind_0 : decode cX5_kind 0 = .ok (.aload_n 0, 1) := by decide +kernel
theorem dX5_kind_1 : decode cX5_kind 1 = .ok (.iload_n 1, 1) := by decide +kernel
theorem dX5_kind_2 : decode cX5_kind 2 = .ok (.invokevirtual 98, 3) := by decide +kernel
theorem dX5_kind_5 : decode cX5_kind 5 = .ok (.ifCond .eq 13, 3) := by decide +kernel
theorem dX5_kind_8 : decode cX5_kind 8 = .ok (.iload_n 2, 1) := by decide +kernel
theorem dX5_kind_9 : decode cX5_kind 9 = .ok (.iconst 1, 1) := by decide +kernel
theorem dX5_kind_10 : decode cX5_kind 10 = .ok (.bipush 60, 2) := by decide +kernel
theorem dX5_kind_12 : decode cX5_kind 12 = .ok (.invokestatic 45, 3) := by decide +kernel
theorem dX5_kind_15 : decode cX5_kind 15 = .ok (.ifCond .ne 10, 3) := by decide +kernel
theorem dX5_kind_18 : decode cX5_kind 18 = .ok (.aload_n 0, 1) := by decide +kernel
theorem dX5_kind_19 : decode cX5_kind 19 = .ok (.ldc 44, 2) := by decide +kernel
theorem dX5_kind_21 : decode cX5_kind 21 = .ok (.invokevirtual 73, 3) := by decide +kernel
theorem dX5_kind_24 : decode cX5_kind 24 = .ok (.ireturn, 1) := by decide +kernel
theorem dX5_kind_25 : decode cX5_kind 25 = .ok (.aload_n 0, 1) := by decide +kernel
theorem dX5_kind_26 : decode cX5_kind 26 = .ok (.iconst 1, 1) := by decide +kernel
theorem dX5_kind_27 : decode cX5_kind 27 = .ok (.aload_n 0, 1) := by decide +kernel
theorem dX5_kind_28 : decode cX5_kind 28 = .ok (.getfield 16, 3) := by decide +kernel
theorem dX5_kind_31 : decode cX5_kind 31 = .ok (.invokevirtual 153, 3) := by decide +kernel
theorem dX5_kind_34 : decode cX5_kind 34 = .ok (.iconst 0, 1) := by decide +kernel
theorem dX5_kind_35 : decode cX5_kind 35 = .ok (.istore_n 3, 1) := by decide +kernel
theorem dX5_kind_36 : decode cX5_kind 36 = .ok (.iconst (-1), 1) := by decide +kernel
theorem dX5_kind_37 : decode cX5_kind 37 = .ok (.istore 4, 2) := by decide +kernel
theorem dX5_kind_39 : decode cX5_kind 39 = .ok (.iconst 0, 1) := by decide +kernel
theorem dX5_kind_40 : decode cX5_kind 40 = .ok (.istore 5, 2) := by decide +kernel
theorem dX5_kind_42 : decode cX5_kind 42 = .ok (.iload 5, 2) := by decide +kernel
theorem dX5_kind_44 : decode cX5_kind 44 = .ok (.bipush 6, 2) := by decide +kernel
theorem dX5_kind_46 : decode cX5_kind 46 = .ok (.if_icmp .ge 77, 3) := by decide +kernel
theorem dX5_kind_49 : decode cX5_kind 49 = .ok (.aload_n 0, 1) := by decide +kernel
theorem dX5_kind_50 : decode cX5_kind 50 = .ok (.iload_n 1, 1) := by decide +kernel
theorem dX5_kind_51 : decode cX5_kind 51 = .ok (.iconst 0, 1) := by decide +kernel
theorem dX5_kind_52 : decode cX5_kind 52 = .ok (.iload 5, 2) := by decide +kernel
theorem dX5_kind_54 : decode cX5_kind 54 = .ok (.invokevirtual 86, 3) := by decide +kernel
theorem dX5_kind_57 : decode cX5_kind 57 = .ok (.aload_n 0, 1) := by decide +kernel
theorem dX5_kind_58 : decode cX5_kind 58 = .ok (.iload_n 2, 1) := by decide +kernel
theorem dX5_kind_59 : decode cX5_kind 59 = .ok (.invokevirtual 150, 3) := by decide +kernel
theorem dX5_kind_62 : decode cX5_kind 62 = .ok (.aload_n 0, 1) := by decide +kernel
theorem dX5_kind_63 : decode cX5_kind 63 = .ok (.iload_n 1, 1) := by decide +kernel
theorem dX5_kind_64 : decode cX5_kind 64 = .ok (.invokevirtual 60, 3) := by decide +kernel
theorem dX5_kind_67 : decode cX5_kind 67 = .ok (.aload_n 0, 1) := by decide +kernel
theorem dX5_kind_68 : decode cX5_kind 68 = .ok (.iload_n 1, 1) := by decide +kernel
theorem dX5_kind_69 : decode cX5_kind 69 = .ok (.invokevirtual 64, 3) := by decide +kernel
theorem dX5_kind_72 : decode cX5_kind 72 = .ok (.iand, 1) := by decide +kernel
theorem dX5_kind_73 : decode cX5_kind 73 = .ok (.invokestatic 67, 3) := by decide +kernel
theorem dX5_kind_76 : decode cX5_kind 76 = .ok (.istore 6, 2) := by decide +kernel
theorem dX5_kind_78 : decode cX5_kind 78 = .ok (.aload_n 0, 1) := by decide +kernel
theorem dX5_kind_79 : decode cX5_kind 79 = .ok (.iconst 0, 1) := by decide +kernel
theorem dX5_kind_80 : decode cX5_kind 80 = .ok (.aload_n 0, 1) := by decide +kernel
theorem dX5_kind_81 : decode cX5_kind 81 = .ok (.getfield 16, 3) := by decide +kernel
theorem dX5_kind_84 : decode cX5_kind 84 = .ok (.invokevirtual 153, 3) := by decide +kernel
theorem dX5_kind_87 : decode cX5_kind 87 = .ok (.iload 6, 2) := by decide +kernel
theorem dX5_kind_89 : decode cX5_kind 89 = .ok (.iload 4, 2) := by decide +kernel
theorem dX5_kind_91 : decode cX5_kind 91 = .ok (.if_icmp .le 8, 3) := by decide +kernel
theorem dX5_kind_94 : decode cX5_kind 94 = .ok (.iload 5, 2) := by decide +kernel
theorem dX5_kind_96 : decode cX5_kind 96 = .ok (.goto 4, 3) := by decide +kernel
theorem dX5_kind_99 : decode cX5_kind 99 = .ok (.iload_n 3, 1) := by decide +kernel
theorem dX5_kind_100 : decode cX5_kind 100 = .ok (.istore_n 3, 1) := by decide +kernel
theorem dX5_kind_101 : decode cX5_kind 101 = .ok (.iload 6, 2) := by decide +kernel
theorem dX5_kind_103 : decode cX5_kind 103 = .ok (.iload 4, 2) := by decide +kernel
theorem dX5_kind_105 : decode cX5_kind 105 = .ok (.if_icmp .le 8, 3) := by decide +kernel
theorem dX5_kind_108 : decode cX5_kind 108 = .ok (.iload 6, 2) := by decide +kernel
theorem dX5_kind_110 : decode cX5_kind 110 = .ok (.goto 5, 3) := by decide +kernel
theorem dX5_kind_113 : decode cX5_kind 113 = .ok (.iload 4, 2) := by decide +kernel
theorem dX5_kind_115 : decode cX5_kind 115 = .ok (.istore 4, 2) := by decide +kernel
theorem dX5_kind_117 : decode cX5_kind 117 = .ok (.iinc 5 1, 3) := by decide +kernel
theorem dX5_kind_120 : decode cX5_kind 120 = .ok (.goto (-78), 3) := by decide +kernel
theorem dX5_kind_123 : decode cX5_kind 123 = .ok (.iload_n 3, 1) := by decide +kernel
theorem dX5_kind_124 : decode cX5_kind 124 = .ok (.ireturn, 1) := by decide +kernel
theorem dX5_isRightBehind_0 : decode cX5_isRightBehind 0 = .ok (.aload_n 0, 1) := by decide +kernel
theorem dX5_isRightBehind_1 : decode cX5_isRightBehind 1 = .ok (.iload_n 2, 1) := by decide +kernel
theorem dX5_isRightBehind_2 : decode cX5_isRightBehind 2 = .ok (.invokevirtual 150, 3) := by decide +kernel
theorem dX5_isRightBehind_5 : decode cX5_isRightBehind 5 = .ok (.aload_n 0, 1) := by decide +kernel
theorem dX5_isRightBehind_6 : decode cX5_isRightBehind 6 = .ok (.iload_n 1, 1) := by decide +kernel
theorem dX5_isRightBehind_7 : decode cX5_isRightBehind 7 = .ok (.invokevirtual 53, 3) := by decide +kernel
theorem dX5_isRightBehind_10 : decode cX5_isRightBehind 10 = .ok (.istore_n 3, 1) := by decide +kernel
theorem dX5_isRightBehind_11 : decode cX5_isRightBehind 11 = .ok (.aload_n 0, 1) := by decide +kernel
theorem dX5_isRightBehind_12 : decode cX5_isRightBehind 12 = .ok (.iconst 0, 1) := by decide +kernel
theorem dX5_isRightBehind_13 : decode cX5_isRightBehind 13 = .ok (.aload_n 0, 1) := by decide +kernel
theorem dX5_isRightBehind_14 : decode cX5_isRightBehind 14 = .ok (.getfield 16, 3) := by decide +kernel
theorem dX5_isRightBehind_17 : decode cX5_isRightBehind 17 = .ok (.invokevirtual 153, 3) := by decide +kernel
theorem dX5_isRightBehind_20 : decode cX5_isRightBehind 20 = .ok (.iload_n 3, 1) := by decide +kernel
theorem dX5_isRightBehind_21 : decode cX5_isRightBehind 21 = .ok (.ireturn, 1) := by decide +kernel
theorem dX5_warmest_0 : decode cX5_warmest 0 = .ok (.aload_n 0, 1) := by decide +kernel
theorem dX5_warmest_1 : decode cX5_warmest 1 = .ok (.iload_n 1, 1) := by decide +kernel
theorem dX5_warmest_2 : decode cX5_warmest 2 = .ok (.invokevirtual 108, 3) := by decide +kernel
theorem dX5_warmest_5 : decode cX5_warmest 5 = .ok (.ifCond .eq 13, 3) := by decide +kernel
theorem dX5_warmest_8 : decode cX5_warmest 8 = .ok (.iload_n 2, 1) := by decide +kernel
theorem dX5_warmest_9 : decode cX5_warmest 9 = .ok (.iconst 1, 1) := by decide +kernel
theorem dX5_warmest_10 : decode cX5_warmest 10 = .ok (.bipush 40, 2) := by decide +kernel
theorem dX5_warmest_12 : decode cX5_warmest 12 = .ok (.invokestatic 45, 3) := by decide +kernel
theorem dX5_warmest_15 : decode cX5_warmest 15 = .ok (.ifCond .ne 10, 3) := by decide +kernel
theorem dX5_warmest_18 : decode cX5_warmest 18 = .ok (.aload_n 0, 1) := by decide +kernel
theorem dX5_warmest_19 : decode cX5_warmest 19 = .ok (.ldc 44, 2) := by decide +kernel
theorem dX5_warmest_21 : decode cX5_warmest 21 = .ok (.invokevirtual 73, 3) := by decide +kernel
theorem dX5_warmest_24 : decode cX5_warmest 24 = .ok (.ireturn, 1) := by decide +kernel
theorem dX5_warmest_25 : decode cX5_warmest 25 = .ok (.aload_n 0, 1) := by decide +kernel
theorem dX5_warmest_26 : decode cX5_warmest 26 = .ok (.iconst 1, 1) := by decide +kernel
theorem dX5_warmest_27 : decode cX5_warmest 27 = .ok (.aload_n 0, 1) := by decide +kernel
theorem dX5_warmest_28 : decode cX5_warmest 28 = .ok (.getfield 16, 3) := by decide +kernel
theorem dX5_warmest_31 : decode cX5_warmest 31 = .ok (.invokevirtual 153, 3) := by decide +kernel
theorem dX5_warmest_34 : decode cX5_warmest 34 = .ok (.bipush 91, 2) := by decide +kernel
theorem dX5_warmest_36 : decode cX5_warmest 36 = .ok (.istore_n 3, 1) := by decide +kernel
theorem dX5_warmest_37 : decode cX5_warmest 37 = .ok (.iconst 0, 1) := by decide +kernel
theorem dX5_warmest_38 : decode cX5_warmest 38 = .ok (.istore 4, 2) := by decide +kernel
theorem dX5_warmest_40 : decode cX5_warmest 40 = .ok (.iload_n 3, 1) := by decide +kernel
theorem dX5_warmest_41 : decode cX5_warmest 41 = .ok (.bipush 20, 2) := by decide +kernel
theorem dX5_warmest_43 : decode cX5_warmest 43 = .ok (.if_icmp .le 29, 3) := by decide +kernel
theorem dX5_warmest_46 : decode cX5_warmest 46 = .ok (.iload 4, 2) := by decide +kernel
theorem dX5_warmest_48 : decode cX5_warmest 48 = .ok (.ifCond .ne 24, 3) := by decide +kernel
theorem dX5_warmest_51 : decode cX5_warmest 51 = .ok (.iinc 3 (-1), 3) := by decide +kernel
theorem dX5_warmest_54 : decode cX5_warmest 54 = .ok (.aload_n 0, 1) := by decide +kernel
theorem dX5_warmest_55 : decode cX5_warmest 55 = .ok (.getfield 7, 3) := by decide +kernel
theorem dX5_warmest_58 : decode cX5_warmest 58 = .ok (.iconst 1, 1) := by decide +kernel
theorem dX5_warmest_59 : decode cX5_warmest 59 = .ok (.iload_n 3, 1) := by decide +kernel
theorem dX5_warmest_60 : decode cX5_warmest 60 = .ok (.iastore, 1) := by decide +kernel
theorem dX5_warmest_61 : decode cX5_warmest 61 = .ok (.aload_n 0, 1) := by decide +kernel
theorem dX5_warmest_62 : decode cX5_warmest 62 = .ok (.iload_n 1, 1) := by decide +kernel
theorem dX5_warmest_63 : decode cX5_warmest 63 = .ok (.iload_n 2, 1) := by decide +kernel
theorem dX5_warmest_64 : decode cX5_warmest 64 = .ok (.invokevirtual 164, 3) := by decide +kernel
theorem dX5_warmest_67 : decode cX5_warmest 67 = .ok (.istore 4, 2) := by decide +kernel
theorem dX5_warmest_69 : decode cX5_warmest 69 = .ok (.goto (-29), 3) := by decide +kernel
theorem dX5_warmest_72 : decode cX5_warmest 72 = .ok (.iload 4, 2) := by decide +kernel
theorem dX5_warmest_74 : decode cX5_warmest 74 = .ok (.ifCond .eq 7, 3) := by decide +kernel
theorem dX5_warmest_77 : decode cX5_warmest 77 = .ok (.iload_n 3, 1) := by decide +kernel
theorem dX5_warmest_78 : decode cX5_warmest 78 = .ok (.goto 9, 3) := by decide +kernel
theorem dX5_warmest_81 : decode cX5_warmest 81 = .ok (.aload_n 0, 1) := by decide +kernel
theorem dX5_warmest_82 : decode cX5_warmest 82 = .ok (.ldc 160, 2) := by decide +kernel
theorem dX5_warmest_84 : decode cX5_warmest 84 = .ok (.invokevirtual 73, 3) := by decide +kernel
theorem dX5_warmest_87 : decode cX5_warmest 87 = .ok (.ireturn, 1) := by decide +kernel
theorem dX5_plain_0 : decode cX5_plain 0 = .ok (.aload_n 0, 1) := by decide +kernel
theorem dX5_plain_1 : decode cX5_plain 1 = .ok (.iload_n 1, 1) := by decide +kernel
theorem dX5_plain_2 : decode cX5_plain 2 = .ok (.invokevirtual 108, 3) := by decide +kernel
theorem dX5_plain_5 : decode cX5_plain 5 = .ok (.ifCond .eq 13, 3) := by decide +kernel
theorem dX5_plain_8 : decode cX5_plain 8 = .ok (.iload_n 2, 1) := by decide +kernel
theorem dX5_plain_9 : decode cX5_plain 9 = .ok (.iconst 1, 1) := by decide +kernel
theorem dX5_plain_10 : decode cX5_plain 10 = .ok (.bipush 60, 2) := by decide +kernel
theorem dX5_plain_12 : decode cX5_plain 12 = .ok (.invokestatic 45, 3) := by decide +kernel
theorem dX5_plain_15 : decode cX5_plain 15 = .ok (.ifCond .ne 10, 3) := by decide +kernel
theorem dX5_plain_18 : decode cX5_plain 18 = .ok (.aload_n 0, 1) := by decide +kernel
theorem dX5_plain_19 : decode cX5_plain 19 = .ok (.ldc 44, 2) := by decide +kernel
theorem dX5_plain_21 : decode cX5_plain 21 = .ok (.invokevirtual 73, 3) := by decide +kernel
theorem dX5_plain_24 : decode cX5_plain 24 = .ok (.ireturn, 1) := by decide +kernel
theorem dX5_plain_25 : decode cX5_plain 25 = .ok (.aload_n 0, 1) := by decide +kernel
theorem dX5_plain_26 : decode cX5_plain 26 = .ok (.iconst 1, 1) := by decide +kernel
theorem dX5_plain_27 : decode cX5_plain 27 = .ok (.aload_n 0, 1) := by decide +kernel
theorem dX5_plain_28 : decode cX5_plain 28 = .ok (.getfield 16, 3) := by decide +kernel
theorem dX5_plain_31 : decode cX5_plain 31 = .ok (.invokevirtual 153, 3) := by decide +kernel
theorem dX5_plain_34 : decode cX5_plain 34 = .ok (.iconst (-1), 1) := by decide +kernel
theorem dX5_plain_35 : decode cX5_plain 35 = .ok (.istore_n 3, 1) := by decide +kernel
theorem dX5_plain_36 : decode cX5_plain 36 = .ok (.iconst 0, 1) := by decide +kernel
theorem dX5_plain_37 : decode cX5_plain 37 = .ok (.istore 4, 2) := by decide +kernel
theorem dX5_plain_39 : decode cX5_plain 39 = .ok (.iload_n 3, 1) := by decide +kernel
theorem dX5_plain_40 : decode cX5_plain 40 = .ok (.bipush 99, 2) := by decide +kernel
theorem dX5_plain_42 : decode cX5_plain 42 = .ok (.if_icmp .ge 29, 3) := by decide +kernel
theorem dX5_plain_45 : decode cX5_plain 45 = .ok (.iload 4, 2) := by decide +kernel
theorem dX5_plain_47 : decode cX5_plain 47 = .ok (.ifCond .ne 24, 3) := by decide +kernel
theorem dX5_plain_50 : decode cX5_plain 50 = .ok (.iinc 3 1, 3) := by decide +kernel
theorem dX5_plain_53 : decode cX5_plain 53 = .ok (.aload_n 0, 1) := by decide +kernel
theorem dX5_plain_54 : decode cX5_plain 54 = .ok (.iload_n 1, 1) := by decide +kernel
theorem dX5_plain_55 : decode cX5_plain 55 = .ok (.iconst 2, 1) := by decide +kernel
theorem dX5_plain_56 : decode cX5_plain 56 = .ok (.iload_n 3, 1) := by decide +kernel
theorem dX5_plain_57 : decode cX5_plain 57 = .ok (.invokevirtual 118, 3) := by decide +kernel
theorem dX5_plain_60 : decode cX5_plain 60 = .ok (.aload_n 0, 1) := by decide +kernel
theorem dX5_plain_61 : decode cX5_plain 61 = .ok (.iload_n 1, 1) := by decide +kernel
theorem dX5_plain_62 : decode cX5_plain 62 = .ok (.iload_n 2, 1) := by decide +kernel
theorem dX5_plain_63 : decode cX5_plain 63 = .ok (.invokevirtual 164, 3) := by decide +kernel
theorem dX5_plain_66 : decode cX5_plain 66 = .ok (.istore 4, 2) := by decide +kernel
theorem dX5_plain_68 : decode cX5_plain 68 = .ok (.goto (-29), 3) := by decide +kernel
theorem dX5_plain_71 : decode cX5_plain 71 = .ok (.iload 4, 2) := by decide +kernel
theorem dX5_plain_73 : decode cX5_plain 73 = .ok (.ifCond .eq 7, 3) := by decide +kernel
theorem dX5_plain_76 : decode cX5_plain 76 = .ok (.iload_n 3, 1) := by decide +kernel
theorem dX5_plain_77 : decode cX5_plain 77 = .ok (.goto 9, 3) := by decide +kernel
theorem dX5_plain_80 : decode cX5_plain 80 = .ok (.aload_n 0, 1) := by decide +kernel
theorem dX5_plain_81 : decode cX5_plain 81 = .ok (.ldc 160, 2) := by decide +kernel
theorem dX5_plain_83 : decode cX5_plain 83 = .ok (.invokevirtual 73, 3) := by decide +kernel
theorem dX5_plain_86 : decode cX5_plain 86 = .ok (.ireturn, 1) := by decide +kernel
theorem dX5_teach_0 : decode cX5_teach 0 = .ok (.iload_n 1, 1) := by decide +kernel
theorem dX5_teach_1 : decode cX5_teach 1 = .ok (.iconst 1, 1) := by decide +kernel
theorem dX5_teach_2 : decode cX5_teach 2 = .ok (.bipush 60, 2) := by decide +kernel
theorem dX5_teach_4 : decode cX5_teach 4 = .ok (.invokestatic 45, 3) := by decide +kernel
theorem dX5_teach_7 : decode cX5_teach 7 = .ok (.ifCond .ne 10, 3) := by decide +kernel
theorem dX5_teach_10 : decode cX5_teach 10 = .ok (.aload_n 0, 1) := by decide +kernel
theorem dX5_teach_11 : decode cX5_teach 11 = .ok (.ldc 44, 2) := by decide +kernel
theorem dX5_teach_13 : decode cX5_teach 13 = .ok (.invokevirtual 73, 3) := by decide +kernel
theorem dX5_teach_16 : decode cX5_teach 16 = .ok (.ireturn, 1) := by decide +kernel
theorem dX5_teach_17 : decode cX5_teach 17 = .ok (.aload_n 0, 1) := by decide +kernel
theorem dX5_teach_18 : decode cX5_teach 18 = .ok (.iconst 1, 1) := by decide +kernel
theorem dX5_teach_19 : decode cX5_teach 19 = .ok (.aload_n 0, 1) := by decide +kernel
theorem dX5_teach_20 : decode cX5_teach 20 = .ok (.getfield 16, 3) := by decide +kernel
theorem dX5_teach_23 : decode cX5_teach 23 = .ok (.invokevirtual 153, 3) := by decide +kernel
theorem dX5_teach_26 : decode cX5_teach 26 = .ok (.iconst (-1), 1) := by decide +kernel
theorem dX5_teach_27 : decode cX5_teach 27 = .ok (.istore_n 2, 1) := by decide +kernel
theorem dX5_teach_28 : decode cX5_teach 28 = .ok (.iconst (-1), 1) := by decide +kernel
theorem dX5_teach_29 : decode cX5_teach 29 = .ok (.istore_n 3, 1) := by decide +kernel
theorem dX5_teach_30 : decode cX5_teach 30 = .ok (.iconst 0, 1) := by decide +kernel
theorem dX5_teach_31 : decode cX5_teach 31 = .ok (.istore 4, 2) := by decide +kernel
theorem dX5_teach_33 : decode cX5_teach 33 = .ok (.iload 4, 2) := by decide +kernel
theorem dX5_teach_35 : decode cX5_teach 35 = .ok (.aload_n 0, 1) := by decide +kernel
theorem dX5_teach_36 : decode cX5_teach 36 = .ok (.getfield 7, 3) := by decide +kernel
theorem dX5_teach_39 : decode cX5_teach 39 = .ok (.iconst 2, 1) := by decide +kernel
theorem dX5_teach_40 : decode cX5_teach 40 = .ok (.iaload, 1) := by decide +kernel
theorem dX5_teach_41 : decode cX5_teach 41 = .ok (.if_icmp .ge 66, 3) := by decide +kernel
theorem dX5_teach_44 : decode cX5_teach 44 = .ok (.aload_n 0, 1) := by decide +kernel
theorem dX5_teach_45 : decode cX5_teach 45 = .ok (.iload 4, 2) := by decide +kernel
theorem dX5_teach_47 : decode cX5_teach 47 = .ok (.iconst 0, 1) := by decide +kernel
theorem dX5_teach_48 : decode cX5_teach 48 = .ok (.iconst 1, 1) := by decide +kernel
theorem dX5_teach_49 : decode cX5_teach 49 = .ok (.invokevirtual 86, 3) := by decide +kernel
theorem dX5_teach_52 : decode cX5_teach 52 = .ok (.aload_n 0, 1) := by decide +kernel
theorem dX5_teach_53 : decode cX5_teach 53 = .ok (.iload_n 1, 1) := by decide +kernel
theorem dX5_teach_54 : decode cX5_teach 54 = .ok (.invokevirtual 150, 3) := by decide +kernel
theorem dX5_teach_57 : decode cX5_teach 57 = .ok (.aload_n 0, 1) := by decide +kernel
theorem dX5_teach_58 : decode cX5_teach 58 = .ok (.invokevirtual 76, 3) := by decide +kernel
theorem dX5_teach_61 : decode cX5_teach 61 = .ok (.invokestatic 67, 3) := by decide +kernel
theorem dX5_teach_64 : decode cX5_teach 64 = .ok (.istore 5, 2) := by decide +kernel
theorem dX5_teach_66 : decode cX5_teach 66 = .ok (.aload_n 0, 1) := by decide +kernel
theorem dX5_teach_67 : decode cX5_teach 67 = .ok (.iconst 0, 1) := by decide +kernel
theorem dX5_teach_68 : decode cX5_teach 68 = .ok (.aload_n 0, 1) := by decide +kernel
theorem dX5_teach_69 : decode cX5_teach 69 = .ok (.getfield 16, 3) := by decide +kernel
theorem dX5_teach_72 : decode cX5_teach 72 = .ok (.invokevirtual 153, 3) := by decide +kernel
theorem dX5_teach_75 : decode cX5_teach 75 = .ok (.iload 5, 2) := by decide +kernel
theorem dX5_teach_77 : decode cX5_teach 77 = .ok (.iload_n 3, 1) := by decide +kernel
theorem dX5_teach_78 : decode cX5_teach 78 = .ok (.if_icmp .le 8, 3) := by decide +kernel
theorem dX5_teach_81 : decode cX5_teach 81 = .ok (.iload 4, 2) := by decide +kernel
theorem dX5_teach_83 : decode cX5_teach 83 = .ok (.goto 4, 3) := by decide +kernel
theorem dX5_teach_86 : decode cX5_teach 86 = .ok (.iload_n 2, 1) := by decide +kernel
theorem dX5_teach_87 : decode cX5_teach 87 = .ok (.istore_n 2, 1) := by decide +kernel
theorem dX5_teach_88 : decode cX5_teach 88 = .ok (.iload 5, 2) := by decide +kernel
theorem dX5_teach_90 : decode cX5_teach 90 = .ok (.iload_n 3, 1) := by decide +kernel
theorem dX5_teach_91 : decode cX5_teach 91 = .ok (.if_icmp .le 8, 3) := by decide +kernel
theorem dX5_teach_94 : decode cX5_teach 94 = .ok (.iload 5, 2) := by decide +kernel
theorem dX5_teach_96 : decode cX5_teach 96 = .ok (.goto 4, 3) := by decide +kernel
theorem dX5_teach_99 : decode cX5_teach 99 = .ok (.iload_n 3, 1) := by decide +kernel
theorem dX5_teach_100 : decode cX5_teach 100 = .ok (.istore_n 3, 1) := by decide +kernel
theorem dX5_teach_101 : decode cX5_teach 101 = .ok (.iinc 4 1, 3) := by decide +kernel
theorem dX5_teach_104 : decode cX5_teach 104 = .ok (.goto (-71), 3) := by decide +kernel
theorem dX5_teach_107 : decode cX5_teach 107 = .ok (.iload_n 2, 1) := by decide +kernel
theorem dX5_teach_108 : decode cX5_teach 108 = .ok (.ifCond .ge 12, 3) := by decide +kernel
theorem dX5_teach_111 : decode cX5_teach 111 = .ok (.aload_n 0, 1) := by decide +kernel
theorem dX5_teach_112 : decode cX5_teach 112 = .ok (.ldc 160, 2) := by decide +kernel
theorem dX5_teach_114 : decode cX5_teach 114 = .ok (.invokevirtual 73, 3) := by decide +kernel
theorem dX5_teach_117 : decode cX5_teach 117 = .ok (.goto 4, 3) := by decide +kernel
theorem dX5_teach_120 : decode cX5_teach 120 = .ok (.iload_n 2, 1) := by decide +kernel
theorem dX5_teach_121 : decode cX5_teach 121 = .ok (.ireturn, 1) := by decide +kernel
theorem dX5_best_0 : decode cX5_best 0 = .ok (.iload_n 1, 1) := by decide +kernel
theorem dX5_best_1 : decode cX5_best 1 = .ok (.iconst 0, 1) := by decide +kernel
theorem dX5_best_2 : decode cX5_best 2 = .ok (.bipush 100, 2) := by decide +kernel
theorem dX5_best_4 : decode cX5_best 4 = .ok (.invokestatic 45, 3) := by decide +kernel
theorem dX5_best_7 : decode cX5_best 7 = .ok (.ifCond .ne 10, 3) := by decide +kernel
theorem dX5_best_10 : decode cX5_best 10 = .ok (.aload_n 0, 1) := by decide +kernel
theorem dX5_best_11 : decode cX5_best 11 = .ok (.ldc 44, 2) := by decide +kernel
theorem dX5_best_13 : decode cX5_best 13 = .ok (.invokevirtual 73, 3) := by decide +kernel
theorem dX5_best_16 : decode cX5_best 16 = .ok (.ireturn, 1) := by decide +kernel
theorem dX5_best_17 : decode cX5_best 17 = .ok (.aload_n 0, 1) := by decide +kernel
theorem dX5_best_18 : decode cX5_best 18 = .ok (.iconst 1, 1) := by decide +kernel
theorem dX5_best_19 : decode cX5_best 19 = .ok (.aload_n 0, 1) := by decide +kernel
theorem dX5_best_20 : decode cX5_best 20 = .ok (.getfield 16, 3) := by decide +kernel
theorem dX5_best_23 : decode cX5_best 23 = .ok (.invokevirtual 153, 3) := by decide +kernel
theorem dX5_best_26 : decode cX5_best 26 = .ok (.aload_n 0, 1) := by decide +kernel
theorem dX5_best_27 : decode cX5_best 27 = .ok (.iload_n 1, 1) := by decide +kernel
theorem dX5_best_28 : decode cX5_best 28 = .ok (.invokevirtual 150, 3) := by decide +kernel
theorem dX5_best_31 : decode cX5_best 31 = .ok (.iconst (-1), 1) := by decide +kernel
theorem dX5_best_32 : decode cX5_best 32 = .ok (.istore_n 2, 1) := by decide +kernel
theorem dX5_best_33 : decode cX5_best 33 = .ok (.iconst 0, 1) := by decide +kernel
theorem dX5_best_34 : decode cX5_best 34 = .ok (.istore_n 3, 1) := by decide +kernel
theorem dX5_best_35 : decode cX5_best 35 = .ok (.iload_n 3, 1) := by decide +kernel
theorem dX5_best_36 : decode cX5_best 36 = .ok (.aload_n 0, 1) := by decide +kernel
theorem dX5_best_37 : decode cX5_best 37 = .ok (.getfield 7, 3) := by decide +kernel
theorem dX5_best_40 : decode cX5_best 40 = .ok (.iconst 2, 1) := by decide +kernel
theorem dX5_best_41 : decode cX5_best 41 = .ok (.iaload, 1) := by decide +kernel
theorem dX5_best_42 : decode cX5_best 42 = .ok (.if_icmp .ge 34, 3) := by decide +kernel
theorem dX5_best_45 : decode cX5_best 45 = .ok (.iload_n 2, 1) := by decide +kernel
theorem dX5_best_46 : decode cX5_best 46 = .ok (.ifCond .lt 18, 3) := by decide +kernel
theorem dX5_best_49 : decode cX5_best 49 = .ok (.aload_n 0, 1) := by decide +kernel
theorem dX5_best_50 : decode cX5_best 50 = .ok (.iload_n 3, 1) := by decide +kernel
theorem dX5_best_51 : decode cX5_best 51 = .ok (.iconst 2, 1) := by decide +kernel
theorem dX5_best_52 : decode cX5_best 52 = .ok (.invokevirtual 57, 3) := by decide +kernel
theorem dX5_best_55 : decode cX5_best 55 = .ok (.aload_n 0, 1) := by decide +kernel
theorem dX5_best_56 : decode cX5_best 56 = .ok (.iload_n 2, 1) := by decide +kernel
theorem dX5_best_57 : decode cX5_best 57 = .ok (.iconst 2, 1) := by decide +kernel
theorem dX5_best_58 : decode cX5_best 58 = .ok (.invokevirtual 57, 3) := by decide +kernel
theorem dX5_best_61 : decode cX5_best 61 = .ok (.if_icmp .le 7, 3) := by decide +kernel
theorem dX5_best_64 : decode cX5_best 64 = .ok (.iload_n 3, 1) := by decide +kernel
theorem dX5_best_65 : decode cX5_best 65 = .ok (.goto 4, 3) := by decide +kernel
theorem dX5_best_68 : decode cX5_best 68 = .ok (.iload_n 2, 1) := by decide +kernel
theorem dX5_best_69 : decode cX5_best 69 = .ok (.istore_n 2, 1) := by decide +kernel
theorem dX5_best_70 : decode cX5_best 70 = .ok (.iinc 3 1, 3) := by decide +kernel
theorem dX5_best_73 : decode cX5_best 73 = .ok (.goto (-38), 3) := by decide +kernel
theorem dX5_best_76 : decode cX5_best 76 = .ok (.aload_n 0, 1) := by decide +kernel
theorem dX5_best_77 : decode cX5_best 77 = .ok (.iconst 0, 1) := by decide +kernel
theorem dX5_best_78 : decode cX5_best 78 = .ok (.aload_n 0, 1) := by decide +kernel
theorem dX5_best_79 : decode cX5_best 79 = .ok (.getfield 16, 3) := by decide +kernel
theorem dX5_best_82 : decode cX5_best 82 = .ok (.invokevirtual 153, 3) := by decide +kernel
theorem dX5_best_85 : decode cX5_best 85 = .ok (.iload_n 2, 1) := by decide +kernel
theorem dX5_best_86 : decode cX5_best 86 = .ok (.ifCond .ge 12, 3) := by decide +kernel
theorem dX5_best_89 : decode cX5_best 89 = .ok (.aload_n 0, 1) := by decide +kernel
theorem dX5_best_90 : decode cX5_best 90 = .ok (.ldc 160, 2) := by decide +kernel
theorem dX5_best_92 : decode cX5_best 92 = .ok (.invokevirtual 73, 3) := by decide +kernel
theorem dX5_best_95 : decode cX5_best 95 = .ok (.goto 4, 3) := by decide +kernel
theorem dX5_best_98 : decode cX5_best 98 = .ok (.iload_n 2, 1) := by decide +kernel
theorem dX5_best_99 : decode cX5_best 99 = .ok (.ireturn, 1) := by decide +kernel
theorem dX5_feed_0 : decode cX5_feed 0 = .ok (.iload_n 2, 1) := by decide +kernel
theorem dX5_feed_1 : decode cX5_feed 1 = .ok (.iconst 1, 1) := by decide +kernel
theorem dX5_feed_2 : decode cX5_feed 2 = .ok (.iconst 4, 1) := by decide +kernel
theorem dX5_feed_3 : decode cX5_feed 3 = .ok (.invokestatic 45, 3) := by decide +kernel
theorem dX5_feed_6 : decode cX5_feed 6 = .ok (.ifCond .ne 10, 3) := by decide +kernel
theorem dX5_feed_9 : decode cX5_feed 9 = .ok (.aload_n 0, 1) := by decide +kernel
theorem dX5_feed_10 : decode cX5_feed 10 = .ok (.ldc 44, 2) := by decide +kernel
theorem dX5_feed_12 : decode cX5_feed 12 = .ok (.invokevirtual 73, 3) := by decide +kernel
theorem dX5_feed_15 : decode cX5_feed 15 = .ok (.ireturn, 1) := by decide +kernel
theorem dX5_feed_16 : decode cX5_feed 16 = .ok (.aload_n 0, 1) := by decide +kernel
theorem dX5_feed_17 : decode cX5_feed 17 = .ok (.getfield 167, 3) := by decide +kernel
theorem dX5_feed_20 : decode cX5_feed 20 = .ok (.iload_n 2, 1) := by decide +kernel
theorem dX5_feed_21 : decode cX5_feed 21 = .ok (.iadd, 1) := by decide +kernel
theorem dX5_feed_22 : decode cX5_feed 22 = .ok (.bipush 120, 2) := by decide +kernel
theorem dX5_feed_24 : decode cX5_feed 24 = .ok (.if_icmp .le 10, 3) := by decide +kernel
theorem dX5_feed_27 : decode cX5_feed 27 = .ok (.aload_n 0, 1) := by decide +kernel
theorem dX5_feed_28 : decode cX5_feed 28 = .ok (.ldc 93, 2) := by decide +kernel
theorem dX5_feed_30 : decode cX5_feed 30 = .ok (.invokevirtual 73, 3) := by decide +kernel
theorem dX5_feed_33 : decode cX5_feed 33 = .ok (.ireturn, 1) := by decide +kernel
theorem dX5_feed_34 : decode cX5_feed 34 = .ok (.iload_n 2, 1) := by decide +kernel
theorem dX5_feed_35 : decode cX5_feed 35 = .ok (.iconst 1, 1) := by decide +kernel
theorem dX5_feed_36 : decode cX5_feed 36 = .ok (.isub, 1) := by decide +kernel
theorem dX5_feed_37 : decode cX5_feed 37 = .ok (.istore_n 3, 1) := by decide +kernel
theorem dX5_feed_38 : decode cX5_feed 38 = .ok (.iload_n 3, 1) := by decide +kernel
theorem dX5_feed_39 : decode cX5_feed 39 = .ok (.ifCond .lt 38, 3) := by decide +kernel
theorem dX5_feed_42 : decode cX5_feed 42 = .ok (.aload_n 0, 1) := by decide +kernel
theorem dX5_feed_43 : decode cX5_feed 43 = .ok (.getfield 22, 3) := by decide +kernel
theorem dX5_feed_46 : decode cX5_feed 46 = .ok (.aload_n 0, 1) := by decide +kernel
theorem dX5_feed_47 : decode cX5_feed 47 = .ok (.getfield 167, 3) := by decide +kernel
theorem dX5_feed_50 : decode cX5_feed 50 = .ok (.iload_n 1, 1) := by decide +kernel
theorem dX5_feed_51 : decode cX5_feed 51 = .ok (.bipush 8, 2) := by decide +kernel
theorem dX5_feed_53 : decode cX5_feed 53 = .ok (.iload_n 3, 1) := by decide +kernel
theorem dX5_feed_54 : decode cX5_feed 54 = .ok (.imul, 1) := by decide +kernel
theorem dX5_feed_55 : decode cX5_feed 55 = .ok (.ishr, 1) := by decide +kernel
theorem dX5_feed_56 : decode cX5_feed 56 = .ok (.sipush 255, 3) := by decide +kernel
theorem dX5_feed_59 : decode cX5_feed 59 = .ok (.iand, 1) := by decide +kernel
theorem dX5_feed_60 : decode cX5_feed 60 = .ok (.iastore, 1) := by decide +kernel
theorem dX5_feed_61 : decode cX5_feed 61 = .ok (.aload_n 0, 1) := by decide +kernel
theorem dX5_feed_62 : decode cX5_feed 62 = .ok (.dup, 1) := by decide +kernel
theorem dX5_feed_63 : decode cX5_feed 63 = .ok (.getfield 167, 3) := by decide +kernel
theorem dX5_feed_66 : decode cX5_feed 66 = .ok (.iconst 1, 1) := by decide +kernel
theorem dX5_feed_67 : decode cX5_feed 67 = .ok (.iadd, 1) := by decide +kernel
theorem dX5_feed_68 : decode cX5_feed 68 = .ok (.putfield 167, 3) := by decide +kernel
theorem dX5_feed_71 : decode cX5_feed 71 = .ok (.iinc 3 (-1), 3) := by decide +kernel
theorem dX5_feed_74 : decode cX5_feed 74 = .ok (.goto (-36), 3) := by decide +kernel
theorem dX5_feed_77 : decode cX5_feed 77 = .ok (.aload_n 0, 1) := by decide +kernel
theorem dX5_feed_78 : decode cX5_feed 78 = .ok (.getfield 167, 3) := by decide +kernel
theorem dX5_feed_81 : decode cX5_feed 81 = .ok (.ireturn, 1) := by decide +kernel
theorem dX5_wipe_0 : decode cX5_wipe 0 = .ok (.aload_n 0, 1) := by decide +kernel
theorem dX5_wipe_1 : decode cX5_wipe 1 = .ok (.getfield 167, 3) := by decide +kernel
theorem dX5_wipe_4 : decode cX5_wipe 4 = .ok (.istore_n 1, 1) := by decide +kernel
theorem dX5_wipe_5 : decode cX5_wipe 5 = .ok (.aload_n 0, 1) := by decide +kernel
theorem dX5_wipe_6 : decode cX5_wipe 6 = .ok (.iconst 0, 1) := by decide +kernel
theorem dX5_wipe_7 : decode cX5_wipe 7 = .ok (.putfield 167, 3) := by decide +kernel
theorem dX5_wipe_10 : decode cX5_wipe 10 = .ok (.iload_n 1, 1) := by decide +kernel
theorem dX5_wipe_11 : decode cX5_wipe 11 = .ok (.ireturn, 1) := by decide +kernel
theorem dX5_byteAt_0 : decode cX5_byteAt 0 = .ok (.iload_n 1, 1) := by decide +kernel
theorem dX5_byteAt_1 : decode cX5_byteAt 1 = .ok (.aload_n 0, 1) := by decide +kernel
theorem dX5_byteAt_2 : decode cX5_byteAt 2 = .ok (.getfield 167, 3) := by decide +kernel
theorem dX5_byteAt_5 : decode cX5_byteAt 5 = .ok (.if_icmp .ge 12, 3) := by decide +kernel
theorem dX5_byteAt_8 : decode cX5_byteAt 8 = .ok (.aload_n 0, 1) := by decide +kernel
theorem dX5_byteAt_9 : decode cX5_byteAt 9 = .ok (.getfield 22, 3) := by decide +kernel
theorem dX5_byteAt_12 : decode cX5_byteAt 12 = .ok (.iload_n 1, 1) := by decide +kernel
theorem dX5_byteAt_13 : decode cX5_byteAt 13 = .ok (.iaload, 1) := by decide +kernel
theorem dX5_byteAt_14 : decode cX5_byteAt 14 = .ok (.goto 4, 3) := by decide +kernel
theorem dX5_byteAt_17 : decode cX5_byteAt 17 = .ok (.iconst (-1), 1) := by decide +kernel
theorem dX5_byteAt_18 : decode cX5_byteAt 18 = .ok (.ireturn, 1) := by decide +kernel
theorem dX5_isLetter_0 : decode cX5_isLetter 0 = .ok (.iload_n 0, 1) := by decide +kernel
theorem dX5_isLetter_1 : decode cX5_isLetter 1 = .ok (.bipush 97, 2) := by decide +kernel
theorem dX5_isLetter_3 : decode cX5_isLetter 3 = .ok (.bipush 122, 2) := by decide +kernel
theorem dX5_isLetter_5 : decode cX5_isLetter 5 = .ok (.invokestatic 45, 3) := by decide +kernel
theorem dX5_isLetter_8 : decode cX5_isLetter 8 = .ok (.ireturn, 1) := by decide +kernel
theorem dX5_isDigit_0 : decode cX5_isDigit 0 = .ok (.iload_n 0, 1) := by decide +kernel
theorem dX5_isDigit_1 : decode cX5_isDigit 1 = .ok (.bipush 48, 2) := by decide +kernel
theorem dX5_isDigit_3 : decode cX5_isDigit 3 = .ok (.bipush 57, 2) := by decide +kernel
theorem dX5_isDigit_5 : decode cX5_isDigit 5 = .ok (.invokestatic 45, 3) := by decide +kernel
theorem dX5_isDigit_8 : decode cX5_isDigit 8 = .ok (.ireturn, 1) := by decide +kernel
theorem dX5_advance_0 : decode cX5_advance 0 = .ok (.aload_n 0, 1) := by decide +kernel
theorem dX5_advance_1 : decode cX5_advance 1 = .ok (.aload_n 0, 1) := by decide +kernel
theorem dX5_advance_2 : decode cX5_advance 2 = .ok (.getfield 171, 3) := by decide +kernel
theorem dX5_advance_5 : decode cX5_advance 5 = .ok (.putfield 174, 3) := by decide +kernel
theorem dX5_advance_8 : decode cX5_advance 8 = .ok (.aload_n 0, 1) := by decide +kernel
theorem dX5_advance_9 : decode cX5_advance 9 = .ok (.aload_n 0, 1) := by decide +kernel
theorem dX5_advance_10 : decode cX5_advance 10 = .ok (.getfield 174, 3) := by decide +kernel
theorem dX5_advance_13 : decode cX5_advance 13 = .ok (.invokevirtual 177, 3) := by decide +kernel
theorem dX5_advance_16 : decode cX5_advance 16 = .ok (.bipush 32, 2) := by decide +kernel
theorem dX5_advance_18 : decode cX5_advance 18 = .ok (.if_icmp .ne 16, 3) := by decide +kernel
theorem dX5_advance_21 : decode cX5_advance 21 = .ok (.aload_n 0, 1) := by decide +kernel
theorem dX5_advance_22 : decode cX5_advance 22 = .ok (.dup, 1) := by decide +kernel
theorem dX5_advance_23 : decode cX5_advance 23 = .ok (.getfield 174, 3) := by decide +kernel
theorem dX5_advance_26 : decode cX5_advance 26 = .ok (.iconst 1, 1) := by decide +kernel
theorem dX5_advance_27 : decode cX5_advance 27 = .ok (.iadd, 1) := by decide +kernel
theorem dX5_advance_28 : decode cX5_advance 28 = .ok (.putfield 174, 3) := by decide +kernel
theorem dX5_advance_31 : decode cX5_advance 31 = .ok (.goto (-23), 3) := by decide +kernel
theorem dX5_advance_34 : decode cX5_advance 34 = .ok (.aload_n 0, 1) := by decide +kernel
theorem dX5_advance_35 : decode cX5_advance 35 = .ok (.aload_n 0, 1) := by decide +kernel
theorem dX5_advance_36 : decode cX5_advance 36 = .ok (.getfield 174, 3) := by decide +kernel
theorem dX5_advance_39 : decode cX5_advance 39 = .ok (.putfield 171, 3) := by decide +kernel
theorem dX5_advance_42 : decode cX5_advance 42 = .ok (.aload_n 0, 1) := by decide +kernel
theorem dX5_advance_43 : decode cX5_advance 43 = .ok (.aload_n 0, 1) := by decide +kernel
theorem dX5_advance_44 : decode cX5_advance 44 = .ok (.getfield 174, 3) := by decide +kernel
theorem dX5_advance_47 : decode cX5_advance 47 = .ok (.invokevirtual 177, 3) := by decide +kernel
theorem dX5_advance_50 : decode cX5_advance 50 = .ok (.istore_n 1, 1) := by decide +kernel
theorem dX5_advance_51 : decode cX5_advance 51 = .ok (.aload_n 0, 1) := by decide +kernel
theorem dX5_advance_52 : decode cX5_advance 52 = .ok (.iload_n 1, 1) := by decide +kernel
theorem dX5_advance_53 : decode cX5_advance 53 = .ok (.ifCond .ge 7, 3) := by decide +kernel
theorem dX5_advance_56 : decode cX5_advance 56 = .ok (.iconst 0, 1) := by decide +kernel
theorem dX5_advance_57 : decode cX5_advance 57 = .ok (.goto 26, 3) := by decide +kernel
theorem dX5_advance_60 : decode cX5_advance 60 = .ok (.iload_n 1, 1) := by decide +kernel
theorem dX5_advance_61 : decode cX5_advance 61 = .ok (.invokestatic 180, 3) := by decide +kernel
theorem dX5_advance_64 : decode cX5_advance 64 = .ok (.ifCond .eq 7, 3) := by decide +kernel
theorem dX5_advance_67 : decode cX5_advance 67 = .ok (.iconst 1, 1) := by decide +kernel
theorem dX5_advance_68 : decode cX5_advance 68 = .ok (.goto 15, 3) := by decide +kernel
theorem dX5_advance_71 : decode cX5_advance 71 = .ok (.iload_n 1, 1) := by decide +kernel
theorem dX5_advance_72 : decode cX5_advance 72 = .ok (.invokestatic 183, 3) := by decide +kernel
theorem dX5_advance_75 : decode cX5_advance 75 = .ok (.ifCond .eq 7, 3) := by decide +kernel
theorem dX5_advance_78 : decode cX5_advance 78 = .ok (.iconst 2, 1) := by decide +kernel
theorem dX5_advance_79 : decode cX5_advance 79 = .ok (.goto 4, 3) := by decide +kernel
theorem dX5_advance_82 : decode cX5_advance 82 = .ok (.iconst 3, 1) := by decide +kernel
theorem dX5_advance_83 : decode cX5_advance 83 = .ok (.putfield 186, 3) := by decide +kernel
theorem dX5_advance_86 : decode cX5_advance 86 = .ok (.aload_n 0, 1) := by decide +kernel
theorem dX5_advance_87 : decode cX5_advance 87 = .ok (.lconst 0, 1) := by decide +kernel
theorem dX5_advance_88 : decode cX5_advance 88 = .ok (.putfield 189, 3) := by decide +kernel
theorem dX5_advance_91 : decode cX5_advance 91 = .ok (.aload_n 0, 1) := by decide +kernel
theorem dX5_advance_92 : decode cX5_advance 92 = .ok (.aload_n 0, 1) := by decide +kernel
theorem dX5_advance_93 : decode cX5_advance 93 = .ok (.getfield 186, 3) := by decide +kernel
theorem dX5_advance_96 : decode cX5_advance 96 = .ok (.iconst 2, 1) := by decide +kernel
theorem dX5_advance_97 : decode cX5_advance 97 = .ok (.if_icmp .ne 7, 3) := by decide +kernel
theorem dX5_advance_100 : decode cX5_advance 100 = .ok (.iconst 0, 1) := by decide +kernel
theorem dX5_advance_101 : decode cX5_advance 101 = .ok (.goto 4, 3) := by decide +kernel
theorem dX5_advance_104 : decode cX5_advance 104 = .ok (.iload_n 1, 1) := by decide +kernel
theorem dX5_advance_105 : decode cX5_advance 105 = .ok (.putfield 193, 3) := by decide +kernel
theorem dX5_advance_108 : decode cX5_advance 108 = .ok (.aload_n 0, 1) := by decide +kernel
theorem dX5_advance_109 : decode cX5_advance 109 = .ok (.getfield 186, 3) := by decide +kernel
theorem dX5_advance_112 : decode cX5_advance 112 = .ok (.iconst 3, 1) := by decide +kernel
theorem dX5_advance_113 : decode cX5_advance 113 = .ok (.if_icmp .ne 13, 3) := by decide +kernel
theorem dX5_advance_116 : decode cX5_advance 116 = .ok (.aload_n 0, 1) := by decide +kernel
theorem dX5_advance_117 : decode cX5_advance 117 = .ok (.dup, 1) := by decide +kernel
theorem dX5_advance_118 : decode cX5_advance 118 = .ok (.getfield 171, 3) := by decide +kernel
theorem dX5_advance_121 : decode cX5_advance 121 = .ok (.iconst 1, 1) := by decide +kernel
theorem dX5_advance_122 : decode cX5_advance 122 = .ok (.iadd, 1) := by decide +kernel
theorem dX5_advance_123 : decode cX5_advance 123 = .ok (.putfield 171, 3) := by decide +kernel
theorem dX5_advance_126 : decode cX5_advance 126 = .ok (.aload_n 0, 1) := by decide +kernel
theorem dX5_advance_127 : decode cX5_advance 127 = .ok (.getfield 186, 3) := by decide +kernel
theorem dX5_advance_130 : decode cX5_advance 130 = .ok (.iconst 1, 1) := by decide +kernel
theorem dX5_advance_131 : decode cX5_advance 131 = .ok (.if_icmp .ne 76, 3) := by decide +kernel
theorem dX5_advance_134 : decode cX5_advance 134 = .ok (.aload_n 0, 1) := by decide +kernel
theorem dX5_advance_135 : decode cX5_advance 135 = .ok (.aload_n 0, 1) := by decide +kernel
theorem dX5_advance_136 : decode cX5_advance 136 = .ok (.getfield 171, 3) := by decide +kernel
theorem dX5_advance_139 : decode cX5_advance 139 = .ok (.invokevirtual 177, 3) := by decide +kernel
theorem dX5_advance_142 : decode cX5_advance 142 = .ok (.invokestatic 180, 3) := by decide +kernel
theorem dX5_advance_145 : decode cX5_advance 145 = .ok (.ifCond .eq 62, 3) := by decide +kernel
theorem dX5_advance_148 : decode cX5_advance 148 = .ok (.aload_n 0, 1) := by decide +kernel
theorem dX5_advance_149 : decode cX5_advance 149 = .ok (.aload_n 0, 1) := by decide +kernel
theorem dX5_advance_150 : decode cX5_advance 150 = .ok (.getfield 171, 3) := by decide +kernel
theorem dX5_advance_153 : decode cX5_advance 153 = .ok (.aload_n 0, 1) := by decide +kernel
theorem dX5_advance_154 : decode cX5_advance 154 = .ok (.getfield 174, 3) := by decide +kernel
theorem dX5_advance_157 : decode cX5_advance 157 = .ok (.isub, 1) := by decide +kernel
theorem dX5_advance_158 : decode cX5_advance 158 = .ok (.bipush 12, 2) := by decide +kernel
theorem dX5_advance_160 : decode cX5_advance 160 = .ok (.if_icmp .ge 28, 3) := by decide +kernel
theorem dX5_advance_163 : decode cX5_advance 163 = .ok (.ldc2_w 196, 3) := by decide +kernel
theorem dX5_advance_166 : decode cX5_advance 166 = .ok (.aload_n 0, 1) := by decide +kernel
theorem dX5_advance_167 : decode cX5_advance 167 = .ok (.getfield 189, 3) := by decide +kernel
theorem dX5_advance_170 : decode cX5_advance 170 = .ok (.lmul, 1) := by decide +kernel
theorem dX5_advance_171 : decode cX5_advance 171 = .ok (.aload_n 0, 1) := by decide +kernel
theorem dX5_advance_172 : decode cX5_advance 172 = .ok (.aload_n 0, 1) := by decide +kernel
theorem dX5_advance_173 : decode cX5_advance 173 = .ok (.getfield 171, 3) := by decide +kernel
theorem dX5_advance_176 : decode cX5_advance 176 = .ok (.invokevirtual 177, 3) := by decide +kernel
theorem dX5_advance_179 : decode cX5_advance 179 = .ok (.i2l, 1) := by decide +kernel
theorem dX5_advance_180 : decode cX5_advance 180 = .ok (.ladd, 1) := by decide +kernel
theorem dX5_advance_181 : decode cX5_advance 181 = .ok (.ldc2_w 198, 3) := by decide +kernel
theorem dX5_advance_184 : decode cX5_advance 184 = .ok (.lsub, 1) := by decide +kernel
theorem dX5_advance_185 : decode cX5_advance 185 = .ok (.goto 6, 3) := by decide +kernel
theorem dX5_advance_188 : decode cX5_advance 188 = .ok (.ldc2_w 200, 3) := by decide +kernel
theorem dX5_advance_191 : decode cX5_advance 191 = .ok (.putfield 189, 3) := by decide +kernel
theorem dX5_advance_194 : decode cX5_advance 194 = .ok (.aload_n 0, 1) := by decide +kernel
theorem dX5_advance_195 : decode cX5_advance 195 = .ok (.dup, 1) := by decide +kernel
theorem dX5_advance_196 : decode cX5_advance 196 = .ok (.getfield 171, 3) := by decide +kernel
theorem dX5_advance_199 : decode cX5_advance 199 = .ok (.iconst 1, 1) := by decide +kernel
theorem dX5_advance_200 : decode cX5_advance 200 = .ok (.iadd, 1) := by decide +kernel
theorem dX5_advance_201 : decode cX5_advance 201 = .ok (.putfield 171, 3) := by decide +kernel
theorem dX5_advance_204 : decode cX5_advance 204 = .ok (.goto (-78), 3) := by decide +kernel
theorem dX5_advance_207 : decode cX5_advance 207 = .ok (.aload_n 0, 1) := by decide +kernel
theorem dX5_advance_208 : decode cX5_advance 208 = .ok (.getfield 186, 3) := by decide +kernel
theorem dX5_advance_211 : decode cX5_advance 211 = .ok (.iconst 2, 1) := by decide +kernel
theorem dX5_advance_212 : decode cX5_advance 212 = .ok (.if_icmp .ne 69, 3) := by decide +kernel
theorem dX5_advance_215 : decode cX5_advance 215 = .ok (.aload_n 0, 1) := by decide +kernel
theorem dX5_advance_216 : decode cX5_advance 216 = .ok (.aload_n 0, 1) := by decide +kernel
theorem dX5_advance_217 : decode cX5_advance 217 = .ok (.getfield 171, 3) := by decide +kernel
theorem dX5_advance_220 : decode cX5_advance 220 = .ok (.invokevirtual 177, 3) := by decide +kernel
theorem dX5_advance_223 : decode cX5_advance 223 = .ok (.invokestatic 183, 3) := by decide +kernel
theorem dX5_advance_226 : decode cX5_advance 226 = .ok (.ifCond .eq 55, 3) := by decide +kernel
theorem dX5_advance_229 : decode cX5_advance 229 = .ok (.aload_n 0, 1) := by decide +kernel
theorem dX5_advance_230 : decode cX5_advance 230 = .ok (.aload_n 0, 1) := by decide +kernel
theorem dX5_advance_231 : decode cX5_advance 231 = .ok (.getfield 193, 3) := by decide +kernel
theorem dX5_advance_234 : decode cX5_advance 234 = .ok (.sipush 999, 3) := by decide +kernel
theorem dX5_advance_237 : decode cX5_advance 237 = .ok (.if_icmp .le 9, 3) := by decide +kernel
theorem dX5_advance_240 : decode cX5_advance 240 = .ok (.sipush 10000, 3) := by decide +kernel
theorem dX5_advance_243 : decode cX5_advance 243 = .ok (.goto 22, 3) := by decide +kernel
theorem dX5_advance_246 : decode cX5_advance 246 = .ok (.bipush 10, 2) := by decide +kernel
theorem dX5_advance_248 : decode cX5_advance 248 = .ok (.aload_n 0, 1) := by decide +kernel
theorem dX5_advance_249 : decode cX5_advance 249 = .ok (.getfield 193, 3) := by decide +kernel
theorem dX5_advance_252 : decode cX5_advance 252 = .ok (.imul, 1) := by decide +kernel
theorem dX5_advance_253 : decode cX5_advance 253 = .ok (.aload_n 0, 1) := by decide +kernel
theorem dX5_advance_254 : decode cX5_advance 254 = .ok (.aload_n 0, 1) := by decide +kernel
theorem dX5_advance_255 : decode cX5_advance 255 = .ok (.getfield 171, 3) := by decide +kernel
theorem dX5_advance_258 : decode cX5_advance 258 = .ok (.invokevirtual 177, 3) := by decide +kernel
theorem dX5_advance_261 : decode cX5_advance 261 = .ok (.iadd, 1) := by decide +kernel
theorem dX5_advance_262 : decode cX5_advance 262 = .ok (.bipush 48, 2) := by decide +kernel
theorem dX5_advance_264 : decode cX5_advance 264 = .ok (.isub, 1) := by decide +kernel
theorem dX5_advance_265 : decode cX5_advance 265 = .ok (.putfield 193, 3) := by decide +kernel
theorem dX5_advance_268 : decode cX5_advance 268 = .ok (.aload_n 0, 1) := by decide +kernel
theorem dX5_advance_269 : decode cX5_advance 269 = .ok (.dup, 1) := by decide +kernel
theorem dX5_advance_270 : decode cX5_advance 270 = .ok (.getfield 171, 3) := by decide +kernel
theorem dX5_advance_273 : decode cX5_advance 273 = .ok (.iconst 1, 1) := by decide +kernel
theorem dX5_advance_274 : decode cX5_advance 274 = .ok (.iadd, 1) := by decide +kernel
theorem dX5_advance_275 : decode cX5_advance 275 = .ok (.putfield 171, 3) := by decide +kernel
theorem dX5_advance_278 : decode cX5_advance 278 = .ok (.goto (-71), 3) := by decide +kernel
theorem dX5_advance_281 : decode cX5_advance 281 = .ok (.return_, 1) := by decide +kernel
theorem dX5_isWord_0 : decode cX5_isWord 0 = .ok (.aload_n 0, 1) := by decide +kernel
theorem dX5_isWord_1 : decode cX5_isWord 1 = .ok (.getfield 186, 3) := by decide +kernel
theorem dX5_isWord_4 : decode cX5_isWord 4 = .ok (.iconst 1, 1) := by decide +kernel
theorem dX5_isWord_5 : decode cX5_isWord 5 = .ok (.if_icmp .ne 16, 3) := by decide +kernel
theorem dX5_isWord_8 : decode cX5_isWord 8 = .ok (.aload_n 0, 1) := by decide +kernel
theorem dX5_isWord_9 : decode cX5_isWord 9 = .ok (.getfield 189, 3) := by decide +kernel
theorem dX5_isWord_12 : decode cX5_isWord 12 = .ok (.lload_n 1, 1) := by decide +kernel
theorem dX5_isWord_13 : decode cX5_isWord 13 = .ok (.lcmp, 1) := by decide +kernel
theorem dX5_isWord_14 : decode cX5_isWord 14 = .ok (.ifCond .ne 7, 3) := by decide +kernel
theorem dX5_isWord_17 : decode cX5_isWord 17 = .ok (.iconst 1, 1) := by decide +kernel
theorem dX5_isWord_18 : decode cX5_isWord 18 = .ok (.goto 4, 3) := by decide +kernel
theorem dX5_isWord_21 : decode cX5_isWord 21 = .ok (.iconst 0, 1) := by decide +kernel
theorem dX5_isWord_22 : decode cX5_isWord 22 = .ok (.ireturn, 1) := by decide +kernel
theorem dX5_kindHere_0 : decode cX5_kindHere 0 = .ok (.aload_n 0, 1) := by decide +kernel
theorem dX5_kindHere_1 : decode cX5_kindHere 1 = .ok (.ldc2_w 202, 3) := by decide +kernel
theorem dX5_kindHere_4 : decode cX5_kindHere 4 = .ok (.invokevirtual 204, 3) := by decide +kernel
theorem dX5_kindHere_7 : decode cX5_kindHere 7 = .ok (.ifCond .eq 7, 3) := by decide +kernel
theorem dX5_kindHere_10 : decode cX5_kindHere 10 = .ok (.iconst 0, 1) := by decide +kernel
theorem dX5_kindHere_11 : decode cX5_kindHere 11 = .ok (.goto 74, 3) := by decide +kernel
theorem dX5_kindHere_14 : decode cX5_kindHere 14 = .ok (.aload_n 0, 1) := by decide +kernel
theorem dX5_kindHere_15 : decode cX5_kindHere 15 = .ok (.ldc2_w 208, 3) := by decide +kernel
theorem dX5_kindHere_18 : decode cX5_kindHere 18 = .ok (.invokevirtual 204, 3) := by decide +kernel
theorem dX5_kindHere_21 : decode cX5_kindHere 21 = .ok (.ifCond .eq 7, 3) := by decide +kernel
theorem dX5_kindHere_24 : decode cX5_kindHere 24 = .ok (.iconst 1, 1) := by decide +kernel
theorem dX5_kindHere_25 : decode cX5_kindHere 25 = .ok (.goto 60, 3) := by decide +kernel
theorem dX5_kindHere_28 : decode cX5_kindHere 28 = .ok (.aload_n 0, 1) := by decide +kernel
theorem dX5_kindHere_29 : decode cX5_kindHere 29 = .ok (.ldc2_w 210, 3) := by decide +kernel
theorem dX5_kindHere_32 : decode cX5_kindHere 32 = .ok (.invokevirtual 204, 3) := by decide +kernel
theorem dX5_kindHere_35 : decode cX5_kindHere 35 = .ok (.ifCond .eq 7, 3) := by decide +kernel
theorem dX5_kindHere_38 : decode cX5_kindHere 38 = .ok (.iconst 2, 1) := by decide +kernel
theorem dX5_kindHere_39 : decode cX5_kindHere 39 = .ok (.goto 46, 3) := by decide +kernel
theorem dX5_kindHere_42 : decode cX5_kindHere 42 = .ok (.aload_n 0, 1) := by decide +kernel
theorem dX5_kindHere_43 : decode cX5_kindHere 43 = .ok (.ldc2_w 212, 3) := by decide +kernel
theorem dX5_kindHere_46 : decode cX5_kindHere 46 = .ok (.invokevirtual 204, 3) := by decide +kernel
theorem dX5_kindHere_49 : decode cX5_kindHere 49 = .ok (.ifCond .eq 7, 3) := by decide +kernel
theorem dX5_kindHere_52 : decode cX5_kindHere 52 = .ok (.iconst 3, 1) := by decide +kernel
theorem dX5_kindHere_53 : decode cX5_kindHere 53 = .ok (.goto 32, 3) := by decide +kernel
theorem dX5_kindHere_56 : decode cX5_kindHere 56 = .ok (.aload_n 0, 1) := by decide +kernel
theorem dX5_kindHere_57 : decode cX5_kindHere 57 = .ok (.ldc2_w 214, 3) := by decide +kernel
theorem dX5_kindHere_60 : decode cX5_kindHere 60 = .ok (.invokevirtual 204, 3) := by decide +kernel
theorem dX5_kindHere_63 : decode cX5_kindHere 63 = .ok (.ifCond .eq 7, 3) := by decide +kernel
theorem dX5_kindHere_66 : decode cX5_kindHere 66 = .ok (.iconst 4, 1) := by decide +kernel
theorem dX5_kindHere_67 : decode cX5_kindHere 67 = .ok (.goto 18, 3) := by decide +kernel
theorem dX5_kindHere_70 : decode cX5_kindHere 70 = .ok (.aload_n 0, 1) := by decide +kernel
theorem dX5_kindHere_71 : decode cX5_kindHere 71 = .ok (.ldc2_w 216, 3) := by decide +kernel
theorem dX5_kindHere_74 : decode cX5_kindHere 74 = .ok (.invokevirtual 204, 3) := by decide +kernel
theorem dX5_kindHere_77 : decode cX5_kindHere 77 = .ok (.ifCond .eq 7, 3) := by decide +kernel
theorem dX5_kindHere_80 : decode cX5_kindHere 80 = .ok (.iconst 5, 1) := by decide +kernel
theorem dX5_kindHere_81 : decode cX5_kindHere 81 = .ok (.goto 4, 3) := by decide +kernel
theorem dX5_kindHere_84 : decode cX5_kindHere 84 = .ok (.iconst (-1), 1) := by decide +kernel
theorem dX5_kindHere_85 : decode cX5_kindHere 85 = .ok (.ireturn, 1) := by decide +kernel
theorem dX5_markHere_0 : decode cX5_markHere 0 = .ok (.aload_n 0, 1) := by decide +kernel
theorem dX5_markHere_1 : decode cX5_markHere 1 = .ok (.ldc2_w 218, 3) := by decide +kernel
theorem dX5_markHere_4 : decode cX5_markHere 4 = .ok (.invokevirtual 204, 3) := by decide +kernel
theorem dX5_markHere_7 : decode cX5_markHere 7 = .ok (.ifCond .eq 7, 3) := by decide +kernel
theorem dX5_markHere_10 : decode cX5_markHere 10 = .ok (.iconst 0, 1) := by decide +kernel
theorem dX5_markHere_11 : decode cX5_markHere 11 = .ok (.goto 32, 3) := by decide +kernel
theorem dX5_markHere_14 : decode cX5_markHere 14 = .ok (.aload_n 0, 1) := by decide +kernel
theorem dX5_markHere_15 : decode cX5_markHere 15 = .ok (.ldc2_w 220, 3) := by decide +kernel
theorem dX5_markHere_18 : decode cX5_markHere 18 = .ok (.invokevirtual 204, 3) := by decide +kernel
theorem dX5_markHere_21 : decode cX5_markHere 21 = .ok (.ifCond .eq 7, 3) := by decide +kernel
theorem dX5_markHere_24 : decode cX5_markHere 24 = .ok (.iconst 1, 1) := by decide +kernel
theorem dX5_markHere_25 : decode cX5_markHere 25 = .ok (.goto 18, 3) := by decide +kernel
theorem dX5_markHere_28 : decode cX5_markHere 28 = .ok (.aload_n 0, 1) := by decide +kernel
theorem dX5_markHere_29 : decode cX5_markHere 29 = .ok (.ldc2_w 222, 3) := by decide +kernel
theorem dX5_markHere_32 : decode cX5_markHere 32 = .ok (.invokevirtual 204, 3) := by decide +kernel
theorem dX5_markHere_35 : decode cX5_markHere 35 = .ok (.ifCond .eq 7, 3) := by decide +kernel
theorem dX5_markHere_38 : decode cX5_markHere 38 = .ok (.iconst 2, 1) := by decide +kernel
theorem dX5_markHere_39 : decode cX5_markHere 39 = .ok (.goto 4, 3) := by decide +kernel
theorem dX5_markHere_42 : decode cX5_markHere 42 = .ok (.iconst (-1), 1) := by decide +kernel
theorem dX5_markHere_43 : decode cX5_markHere 43 = .ok (.ireturn, 1) := by decide +kernel
theorem dX5_wantNumber_0 : decode cX5_wantNumber 0 = .ok (.aload_n 0, 1) := by decide +kernel
theorem dX5_wantNumber_1 : decode cX5_wantNumber 1 = .ok (.getfield 193, 3) := by decide +kernel
theorem dX5_wantNumber_4 : decode cX5_wantNumber 4 = .ok (.istore_n 3, 1) := by decide +kernel
theorem dX5_wantNumber_5 : decode cX5_wantNumber 5 = .ok (.aload_n 0, 1) := by decide +kernel
theorem dX5_wantNumber_6 : decode cX5_wantNumber 6 = .ok (.aload_n 0, 1) := by decide +kernel
theorem dX5_wantNumber_7 : decode cX5_wantNumber 7 = .ok (.getfield 224, 3) := by decide +kernel
theorem dX5_wantNumber_10 : decode cX5_wantNumber 10 = .ok (.ifCond .eq 24, 3) := by decide +kernel
theorem dX5_wantNumber_13 : decode cX5_wantNumber 13 = .ok (.aload_n 0, 1) := by decide +kernel
theorem dX5_wantNumber_14 : decode cX5_wantNumber 14 = .ok (.getfield 186, 3) := by decide +kernel
theorem dX5_wantNumber_17 : decode cX5_wantNumber 17 = .ok (.iconst 2, 1) := by decide +kernel
theorem dX5_wantNumber_18 : decode cX5_wantNumber 18 = .ok (.if_icmp .ne 16, 3) := by decide +kernel
theorem dX5_wantNumber_21 : decode cX5_wantNumber 21 = .ok (.iload_n 3, 1) := by decide +kernel
theorem dX5_wantNumber_22 : decode cX5_wantNumber 22 = .ok (.iload_n 1, 1) := by decide +kernel
theorem dX5_wantNumber_23 : decode cX5_wantNumber 23 = .ok (.iload_n 2, 1) := by decide +kernel
theorem dX5_wantNumber_24 : decode cX5_wantNumber 24 = .ok (.invokestatic 45, 3) := by decide +kernel
theorem dX5_wantNumber_27 : decode cX5_wantNumber 27 = .ok (.ifCond .eq 7, 3) := by decide +kernel
theorem dX5_wantNumber_30 : decode cX5_wantNumber 30 = .ok (.iconst 1, 1) := by decide +kernel
theorem dX5_wantNumber_31 : decode cX5_wantNumber 31 = .ok (.goto 4, 3) := by decide +kernel
theorem dX5_wantNumber_34 : decode cX5_wantNumber 34 = .ok (.iconst 0, 1) := by decide +kernel
theorem dX5_wantNumber_35 : decode cX5_wantNumber 35 = .ok (.putfield 224, 3) := by decide +kernel
theorem dX5_wantNumber_38 : decode cX5_wantNumber 38 = .ok (.aload_n 0, 1) := by decide +kernel
theorem dX5_wantNumber_39 : decode cX5_wantNumber 39 = .ok (.getfield 224, 3) := by decide +kernel
theorem dX5_wantNumber_42 : decode cX5_wantNumber 42 = .ok (.ifCond .eq 7, 3) := by decide +kernel
theorem dX5_wantNumber_45 : decode cX5_wantNumber 45 = .ok (.aload_n 0, 1) := by decide +kernel
theorem dX5_wantNumber_46 : decode cX5_wantNumber 46 = .ok (.invokevirtual 228, 3) := by decide +kernel
theorem dX5_wantNumber_49 : decode cX5_wantNumber 49 = .ok (.iload_n 3, 1) := by decide +kernel
theorem dX5_wantNumber_50 : decode cX5_wantNumber 50 = .ok (.ireturn, 1) := by decide +kernel
theorem dX5_mayWant_0 : decode cX5_mayWant 0 = .ok (.aload_n 0, 1) := by decide +kernel
theorem dX5_mayWant_1 : decode cX5_mayWant 1 = .ok (.getfield 224, 3) := by decide +kernel
theorem dX5_mayWant_4 : decode cX5_mayWant 4 = .ok (.ifCond .eq 11, 3) := by decide +kernel
theorem dX5_mayWant_7 : decode cX5_mayWant 7 = .ok (.aload_n 0, 1) := by decide +kernel
theorem dX5_mayWant_8 : decode cX5_mayWant 8 = .ok (.lload_n 1, 1) := by decide +kernel
theorem dX5_mayWant_9 : decode cX5_mayWant 9 = .ok (.invokevirtual 204, 3) := by decide +kernel
theorem dX5_mayWant_12 : decode cX5_mayWant 12 = .ok (.ifCond .ne 6, 3) := by decide +kernel
theorem dX5_mayWant_15 : decode cX5_mayWant 15 = .ok (.iload 5, 2) := by decide +kernel
theorem dX5_mayWant_17 : decode cX5_mayWant 17 = .ok (.ireturn, 1) := by decide +kernel
theorem dX5_mayWant_18 : decode cX5_mayWant 18 = .ok (.aload_n 0, 1) := by decide +kernel
theorem dX5_mayWant_19 : decode cX5_mayWant 19 = .ok (.invokevirtual 228, 3) := by decide +kernel
theorem dX5_mayWant_22 : decode cX5_mayWant 22 = .ok (.aload_n 0, 1) := by decide +kernel
theorem dX5_mayWant_23 : decode cX5_mayWant 23 = .ok (.iload_n 3, 1) := by decide +kernel
theorem dX5_mayWant_24 : decode cX5_mayWant 24 = .ok (.iload 4, 2) := by decide +kernel
theorem dX5_mayWant_26 : decode cX5_mayWant 26 = .ok (.invokevirtual 231, 3) := by decide +kernel
theorem dX5_mayWant_29 : decode cX5_mayWant 29 = .ok (.ireturn, 1) := by decide +kernel
theorem dX5_wantOne_0 : decode cX5_wantOne 0 = .ok (.aload_n 0, 1) := by decide +kernel
theorem dX5_wantOne_1 : decode cX5_wantOne 1 = .ok (.aload_n 0, 1) := by decide +kernel
theorem dX5_wantOne_2 : decode cX5_wantOne 2 = .ok (.getfield 7, 3) := by decide +kernel
theorem dX5_wantOne_5 : decode cX5_wantOne 5 = .ok (.iconst 2, 1) := by decide +kernel
theorem dX5_wantOne_6 : decode cX5_wantOne 6 = .ok (.iaload, 1) := by decide +kernel
theorem dX5_wantOne_7 : decode cX5_wantOne 7 = .ok (.bipush 6, 2) := by decide +kernel
theorem dX5_wantOne_9 : decode cX5_wantOne 9 = .ok (.if_icmp .ge 7, 3) := by decide +kernel
theorem dX5_wantOne_12 : decode cX5_wantOne 12 = .ok (.iconst 1, 1) := by decide +kernel
theorem dX5_wantOne_13 : decode cX5_wantOne 13 = .ok (.goto 4, 3) := by decide +kernel
theorem dX5_wantOne_16 : decode cX5_wantOne 16 = .ok (.iconst 0, 1) := by decide +kernel
theorem dX5_wantOne_17 : decode cX5_wantOne 17 = .ok (.putfield 224, 3) := by decide +kernel
theorem dX5_wantOne_20 : decode cX5_wantOne 20 = .ok (.aload_n 0, 1) := by decide +kernel
theorem dX5_wantOne_21 : decode cX5_wantOne 21 = .ok (.getfield 224, 3) := by decide +kernel
theorem dX5_wantOne_24 : decode cX5_wantOne 24 = .ok (.ifCond .ne 4, 3) := by decide +kernel
theorem dX5_wantOne_27 : decode cX5_wantOne 27 = .ok (.return_, 1) := by decide +kernel
theorem dX5_wantOne_28 : decode cX5_wantOne 28 = .ok (.aload_n 0, 1) := by decide +kernel
theorem dX5_wantOne_29 : decode cX5_wantOne 29 = .ok (.invokevirtual 228, 3) := by decide +kernel
theorem dX5_wantOne_32 : decode cX5_wantOne 32 = .ok (.aload_n 0, 1) := by decide +kernel
theorem dX5_wantOne_33 : decode cX5_wantOne 33 = .ok (.ldc2_w 234, 3) := by decide +kernel
theorem dX5_wantOne_36 : decode cX5_wantOne 36 = .ok (.iconst 0, 1) := by decide +kernel
theorem dX5_wantOne_37 : decode cX5_wantOne 37 = .ok (.iconst 2, 1) := by decide +kernel
theorem dX5_wantOne_38 : decode cX5_wantOne 38 = .ok (.aload_n 0, 1) := by decide +kernel
theorem dX5_wantOne_39 : decode cX5_wantOne 39 = .ok (.getfield 7, 3) := by decide +kernel
theorem dX5_wantOne_42 : decode cX5_wantOne 42 = .ok (.iconst 2, 1) := by decide +kernel
theorem dX5_wantOne_43 : decode cX5_wantOne 43 = .ok (.iaload, 1) := by decide +kernel
theorem dX5_wantOne_44 : decode cX5_wantOne 44 = .ok (.iconst 3, 1) := by decide +kernel
theorem dX5_wantOne_45 : decode cX5_wantOne 45 = .ok (.irem, 1) := by decide +kernel
theorem dX5_wantOne_46 : decode cX5_wantOne 46 = .ok (.invokevirtual 236, 3) := by decide +kernel
theorem dX5_wantOne_49 : decode cX5_wantOne 49 = .ok (.istore_n 2, 1) := by decide +kernel
theorem dX5_wantOne_50 : decode cX5_wantOne 50 = .ok (.aload_n 0, 1) := by decide +kernel
theorem dX5_wantOne_51 : decode cX5_wantOne 51 = .ok (.getfield 224, 3) := by decide +kernel
theorem dX5_wantOne_54 : decode cX5_wantOne 54 = .ok (.ifCond .eq 9, 3) := by decide +kernel
theorem dX5_wantOne_57 : decode cX5_wantOne 57 = .ok (.aload_n 0, 1) := by decide +kernel
theorem dX5_wantOne_58 : decode cX5_wantOne 58 = .ok (.iload_n 1, 1) := by decide +kernel
theorem dX5_wantOne_59 : decode cX5_wantOne 59 = .ok (.iload_n 2, 1) := by decide +kernel
theorem dX5_wantOne_60 : decode cX5_wantOne 60 = .ok (.invokevirtual 94, 3) := by decide +kernel
theorem dX5_wantOne_63 : decode cX5_wantOne 63 = .ok (.return_, 1) := by decide +kernel
theorem dX5_wantGarment_0 : decode cX5_wantGarment 0 = .ok (.aload_n 0, 1) := by decide +kernel
theorem dX5_wantGarment_1 : decode cX5_wantGarment 1 = .ok (.aload_n 0, 1) := by decide +kernel
theorem dX5_wantGarment_2 : decode cX5_wantGarment 2 = .ok (.getfield 7, 3) := by decide +kernel
theorem dX5_wantGarment_5 : decode cX5_wantGarment 5 = .ok (.iconst 3, 1) := by decide +kernel
theorem dX5_wantGarment_6 : decode cX5_wantGarment 6 = .ok (.iaload, 1) := by decide +kernel
theorem dX5_wantGarment_7 : decode cX5_wantGarment 7 = .ok (.bipush 10, 2) := by decide +kernel
theorem dX5_wantGarment_9 : decode cX5_wantGarment 9 = .ok (.if_icmp .ge 7, 3) := by decide +kernel
theorem dX5_wantGarment_12 : decode cX5_wantGarment 12 = .ok (.iconst 1, 1) := by decide +kernel
theorem dX5_wantGarment_13 : decode cX5_wantGarment 13 = .ok (.goto 4, 3) := by decide +kernel
theorem dX5_wantGarment_16 : decode cX5_wantGarment 16 = .ok (.iconst 0, 1) := by decide +kernel
theorem dX5_wantGarment_17 : decode cX5_wantGarment 17 = .ok (.putfield 224, 3) := by decide +kernel
theorem dX5_wantGarment_20 : decode cX5_wantGarment 20 = .ok (.aload_n 0, 1) := by decide +kernel
theorem dX5_wantGarment_21 : decode cX5_wantGarment 21 = .ok (.getfield 224, 3) := by decide +kernel
theorem dX5_wantGarment_24 : decode cX5_wantGarment 24 = .ok (.ifCond .ne 4, 3) := by decide +kernel
theorem dX5_wantGarment_27 : decode cX5_wantGarment 27 = .ok (.return_, 1) := by decide +kernel
theorem dX5_wantGarment_28 : decode cX5_wantGarment 28 = .ok (.aload_n 0, 1) := by decide +kernel
theorem dX5_wantGarment_29 : decode cX5_wantGarment 29 = .ok (.invokevirtual 228, 3) := by decide +kernel
theorem dX5_wantGarment_32 : decode cX5_wantGarment 32 = .ok (.aload_n 0, 1) := by decide +kernel
theorem dX5_wantGarment_33 : decode cX5_wantGarment 33 = .ok (.iconst 0, 1) := by decide +kernel
theorem dX5_wantGarment_34 : decode cX5_wantGarment 34 = .ok (.aload_n 0, 1) := by decide +kernel
theorem dX5_wantGarment_35 : decode cX5_wantGarment 35 = .ok (.getfield 7, 3) := by decide +kernel
theorem dX5_wantGarment_38 : decode cX5_wantGarment 38 = .ok (.iconst 2, 1) := by decide +kernel
theorem dX5_wantGarment_39 : decode cX5_wantGarment 39 = .ok (.iaload, 1) := by decide +kernel
theorem dX5_wantGarment_40 : decode cX5_wantGarment 40 = .ok (.iconst 1, 1) := by decide +kernel
theorem dX5_wantGarment_41 : decode cX5_wantGarment 41 = .ok (.isub, 1) := by decide +kernel
theorem dX5_wantGarment_42 : decode cX5_wantGarment 42 = .ok (.invokevirtual 231, 3) := by decide +kernel
theorem dX5_wantGarment_45 : decode cX5_wantGarment 45 = .ok (.istore_n 2, 1) := by decide +kernel
theorem dX5_wantGarment_46 : decode cX5_wantGarment 46 = .ok (.aload_n 0, 1) := by decide +kernel
theorem dX5_wantGarment_47 : decode cX5_wantGarment 47 = .ok (.ldc2_w 240, 3) := by decide +kernel
theorem dX5_wantGarment_50 : decode cX5_wantGarment 50 = .ok (.iconst 0, 1) := by decide +kernel
theorem dX5_wantGarment_51 : decode cX5_wantGarment 51 = .ok (.bipush 99, 2) := by decide +kernel
theorem dX5_wantGarment_53 : decode cX5_wantGarment 53 = .ok (.bipush 99, 2) := by decide +kernel
theorem dX5_wantGarment_55 : decode cX5_wantGarment 55 = .ok (.invokevirtual 236, 3) := by decide +kernel
theorem dX5_wantGarment_58 : decode cX5_wantGarment 58 = .ok (.istore_n 3, 1) := by decide +kernel
theorem dX5_wantGarment_59 : decode cX5_wantGarment 59 = .ok (.aload_n 0, 1) := by decide +kernel
theorem dX5_wantGarment_60 : decode cX5_wantGarment 60 = .ok (.getfield 224, 3) := by decide +kernel
theorem dX5_wantGarment_63 : decode cX5_wantGarment 63 = .ok (.ifCond .eq 17, 3) := by decide +kernel
theorem dX5_wantGarment_66 : decode cX5_wantGarment 66 = .ok (.aload_n 0, 1) := by decide +kernel
theorem dX5_wantGarment_67 : decode cX5_wantGarment 67 = .ok (.ldc2_w 242, 3) := by decide +kernel
theorem dX5_wantGarment_70 : decode cX5_wantGarment 70 = .ok (.invokevirtual 204, 3) := by decide +kernel
theorem dX5_wantGarment_73 : decode cX5_wantGarment 73 = .ok (.ifCond .eq 7, 3) := by decide +kernel
theorem dX5_wantGarment_76 : decode cX5_wantGarment 76 = .ok (.iconst 1, 1) := by decide +kernel
theorem dX5_wantGarment_77 : decode cX5_wantGarment 77 = .ok (.goto 4, 3) := by decide +kernel
theorem dX5_wantGarment_80 : decode cX5_wantGarment 80 = .ok (.iconst 0, 1) := by decide +kernel
theorem dX5_wantGarment_81 : decode cX5_wantGarment 81 = .ok (.istore 4, 2) := by decide +kernel
theorem dX5_wantGarment_83 : decode cX5_wantGarment 83 = .ok (.iload 4, 2) := by decide +kernel
theorem dX5_wantGarment_85 : decode cX5_wantGarment 85 = .ok (.ifCond .eq 7, 3) := by decide +kernel
theorem dX5_wantGarment_88 : decode cX5_wantGarment 88 = .ok (.aload_n 0, 1) := by decide +kernel
theorem dX5_wantGarment_89 : decode cX5_wantGarment 89 = .ok (.invokevirtual 228, 3) := by decide +kernel
theorem dX5_wantGarment_92 : decode cX5_wantGarment 92 = .ok (.aload_n 0, 1) := by decide +kernel
theorem dX5_wantGarment_93 : decode cX5_wantGarment 93 = .ok (.getfield 224, 3) := by decide +kernel
theorem dX5_wantGarment_96 : decode cX5_wantGarment 96 = .ok (.ifCond .eq 20, 3) := by decide +kernel
theorem dX5_wantGarment_99 : decode cX5_wantGarment 99 = .ok (.aload_n 0, 1) := by decide +kernel
theorem dX5_wantGarment_100 : decode cX5_wantGarment 100 = .ok (.iload_n 2, 1) := by decide +kernel
theorem dX5_wantGarment_101 : decode cX5_wantGarment 101 = .ok (.iload_n 1, 1) := by decide +kernel
theorem dX5_wantGarment_102 : decode cX5_wantGarment 102 = .ok (.iload_n 3, 1) := by decide +kernel
theorem dX5_wantGarment_103 : decode cX5_wantGarment 103 = .ok (.iload 4, 2) := by decide +kernel
theorem dX5_wantGarment_105 : decode cX5_wantGarment 105 = .ok (.ifCond .eq 7, 3) := by decide +kernel
theorem dX5_wantGarment_108 : decode cX5_wantGarment 108 = .ok (.iconst (-1), 1) := by decide +kernel
theorem dX5_wantGarment_109 : decode cX5_wantGarment 109 = .ok (.goto 4, 3) := by decide +kernel
theorem dX5_wantGarment_112 : decode cX5_wantGarment 112 = .ok (.iload_n 2, 1) := by decide +kernel
theorem dX5_wantGarment_113 : decode cX5_wantGarment 113 = .ok (.invokevirtual 121, 3) := by decide +kernel
theorem dX5_wantGarment_116 : decode cX5_wantGarment 116 = .ok (.return_, 1) := by decide +kernel
theorem dX5_wantItem_0 : decode cX5_wantItem 0 = .ok (.aload_n 0, 1) := by decide +kernel
theorem dX5_wantItem_1 : decode cX5_wantItem 1 = .ok (.invokevirtual 244, 3) := by decide +kernel
theorem dX5_wantItem_4 : decode cX5_wantItem 4 = .ok (.ifCond .lt 14, 3) := by decide +kernel
theorem dX5_wantItem_7 : decode cX5_wantItem 7 = .ok (.aload_n 0, 1) := by decide +kernel
theorem dX5_wantItem_8 : decode cX5_wantItem 8 = .ok (.aload_n 0, 1) := by decide +kernel
theorem dX5_wantItem_9 : decode cX5_wantItem 9 = .ok (.invokevirtual 244, 3) := by decide +kernel
theorem dX5_wantItem_12 : decode cX5_wantItem 12 = .ok (.invokevirtual 247, 3) := by decide +kernel
theorem dX5_wantItem_15 : decode cX5_wantItem 15 = .ok (.goto 120, 3) := by decide +kernel
theorem dX5_wantItem_18 : decode cX5_wantItem 18 = .ok (.aload_n 0, 1) := by decide +kernel
theorem dX5_wantItem_19 : decode cX5_wantItem 19 = .ok (.invokevirtual 250, 3) := by decide +kernel
theorem dX5_wantItem_22 : decode cX5_wantItem 22 = .ok (.ifCond .lt 14, 3) := by decide +kernel
theorem dX5_wantItem_25 : decode cX5_wantItem 25 = .ok (.aload_n 0, 1) := by decide +kernel
theorem dX5_wantItem_26 : decode cX5_wantItem 26 = .ok (.aload_n 0, 1) := by decide +kernel
theorem dX5_wantItem_27 : decode cX5_wantItem 27 = .ok (.invokevirtual 250, 3) := by decide +kernel
theorem dX5_wantItem_30 : decode cX5_wantItem 30 = .ok (.invokevirtual 253, 3) := by decide +kernel
theorem dX5_wantItem_33 : decode cX5_wantItem 33 = .ok (.goto 102, 3) := by decide +kernel
theorem dX5_wantItem_36 : decode cX5_wantItem 36 = .ok (.aload_n 0, 1) := by decide +kernel
theorem dX5_wantItem_37 : decode cX5_wantItem 37 = .ok (.ldc2_w 256, 3) := by decide +kernel
theorem dX5_wantItem_40 : decode cX5_wantItem 40 = .ok (.invokevirtual 204, 3) := by decide +kernel
theorem dX5_wantItem_43 : decode cX5_wantItem 43 = .ok (.ifCond .eq 42, 3) := by decide +kernel
theorem dX5_wantItem_46 : decode cX5_wantItem 46 = .ok (.aload_n 0, 1) := by decide +kernel
theorem dX5_wantItem_47 : decode cX5_wantItem 47 = .ok (.invokevirtual 228, 3) := by decide +kernel
theorem dX5_wantItem_50 : decode cX5_wantItem 50 = .ok (.aload_n 0, 1) := by decide +kernel
theorem dX5_wantItem_51 : decode cX5_wantItem 51 = .ok (.bipush 20, 2) := by decide +kernel
theorem dX5_wantItem_53 : decode cX5_wantItem 53 = .ok (.bipush 90, 2) := by decide +kernel
theorem dX5_wantItem_55 : decode cX5_wantItem 55 = .ok (.invokevirtual 231, 3) := by decide +kernel
theorem dX5_wantItem_58 : decode cX5_wantItem 58 = .ok (.istore_n 1, 1) := by decide +kernel
theorem dX5_wantItem_59 : decode cX5_wantItem 59 = .ok (.aload_n 0, 1) := by decide +kernel
theorem dX5_wantItem_60 : decode cX5_wantItem 60 = .ok (.getfield 7, 3) := by decide +kernel
theorem dX5_wantItem_63 : decode cX5_wantItem 63 = .ok (.iconst 1, 1) := by decide +kernel
theorem dX5_wantItem_64 : decode cX5_wantItem 64 = .ok (.aload_n 0, 1) := by decide +kernel
theorem dX5_wantItem_65 : decode cX5_wantItem 65 = .ok (.getfield 224, 3) := by decide +kernel
theorem dX5_wantItem_68 : decode cX5_wantItem 68 = .ok (.ifCond .eq 7, 3) := by decide +kernel
theorem dX5_wantItem_71 : decode cX5_wantItem 71 = .ok (.iload_n 1, 1) := by decide +kernel
theorem dX5_wantItem_72 : decode cX5_wantItem 72 = .ok (.goto 9, 3) := by decide +kernel
theorem dX5_wantItem_75 : decode cX5_wantItem 75 = .ok (.aload_n 0, 1) := by decide +kernel
theorem dX5_wantItem_76 : decode cX5_wantItem 76 = .ok (.getfield 7, 3) := by decide +kernel
theorem dX5_wantItem_79 : decode cX5_wantItem 79 = .ok (.iconst 1, 1) := by decide +kernel
theorem dX5_wantItem_80 : decode cX5_wantItem 80 = .ok (.iaload, 1) := by decide +kernel
theorem dX5_wantItem_81 : decode cX5_wantItem 81 = .ok (.iastore, 1) := by decide +kernel
theorem dX5_wantItem_82 : decode cX5_wantItem 82 = .ok (.goto 53, 3) := by decide +kernel
theorem dX5_wantItem_85 : decode cX5_wantItem 85 = .ok (.aload_n 0, 1) := by decide +kernel
theorem dX5_wantItem_86 : decode cX5_wantItem 86 = .ok (.ldc2_w 258, 3) := by decide +kernel
theorem dX5_wantItem_89 : decode cX5_wantItem 89 = .ok (.invokevirtual 204, 3) := by decide +kernel
theorem dX5_wantItem_92 : decode cX5_wantItem 92 = .ok (.ifCond .eq 38, 3) := by decide +kernel
theorem dX5_wantItem_95 : decode cX5_wantItem 95 = .ok (.aload_n 0, 1) := by decide +kernel
theorem dX5_wantItem_96 : decode cX5_wantItem 96 = .ok (.invokevirtual 228, 3) := by decide +kernel
theorem dX5_wantItem_99 : decode cX5_wantItem 99 = .ok (.aload_n 0, 1) := by decide +kernel
theorem dX5_wantItem_100 : decode cX5_wantItem 100 = .ok (.iconst 0, 1) := by decide +kernel
theorem dX5_wantItem_101 : decode cX5_wantItem 101 = .ok (.aload_n 0, 1) := by decide +kernel
theorem dX5_wantItem_102 : decode cX5_wantItem 102 = .ok (.getfield 7, 3) := by decide +kernel
theorem dX5_wantItem_105 : decode cX5_wantItem 105 = .ok (.iconst 2, 1) := by decide +kernel
theorem dX5_wantItem_106 : decode cX5_wantItem 106 = .ok (.iaload, 1) := by decide +kernel
theorem dX5_wantItem_107 : decode cX5_wantItem 107 = .ok (.iconst 1, 1) := by decide +kernel
theorem dX5_wantItem_108 : decode cX5_wantItem 108 = .ok (.isub, 1) := by decide +kernel
theorem dX5_wantItem_109 : decode cX5_wantItem 109 = .ok (.invokevirtual 231, 3) := by decide +kernel
theorem dX5_wantItem_112 : decode cX5_wantItem 112 = .ok (.istore_n 1, 1) := by decide +kernel
theorem dX5_wantItem_113 : decode cX5_wantItem 113 = .ok (.aload_n 0, 1) := by decide +kernel
theorem dX5_wantItem_114 : decode cX5_wantItem 114 = .ok (.getfield 224, 3) := by decide +kernel
theorem dX5_wantItem_117 : decode cX5_wantItem 117 = .ok (.ifCond .eq 10, 3) := by decide +kernel
theorem dX5_wantItem_120 : decode cX5_wantItem 120 = .ok (.aload_n 0, 1) := by decide +kernel
theorem dX5_wantItem_121 : decode cX5_wantItem 121 = .ok (.iload_n 1, 1) := by decide +kernel
theorem dX5_wantItem_122 : decode cX5_wantItem 122 = .ok (.iconst 3, 1) := by decide +kernel
theorem dX5_wantItem_123 : decode cX5_wantItem 123 = .ok (.iconst 1, 1) := by decide +kernel
theorem dX5_wantItem_124 : decode cX5_wantItem 124 = .ok (.invokevirtual 86, 3) := by decide +kernel
theorem dX5_wantItem_127 : decode cX5_wantItem 127 = .ok (.goto 8, 3) := by decide +kernel
theorem dX5_wantItem_130 : decode cX5_wantItem 130 = .ok (.aload_n 0, 1) := by decide +kernel
theorem dX5_wantItem_131 : decode cX5_wantItem 131 = .ok (.iconst 0, 1) := by decide +kernel
theorem dX5_wantItem_132 : decode cX5_wantItem 132 = .ok (.putfield 224, 3) := by decide +kernel
theorem dX5_wantItem_135 : decode cX5_wantItem 135 = .ok (.return_, 1) := by decide +kernel
theorem dX5_home_0 : decode cX5_home 0 = .ok (.aload_n 0, 1) := by decide +kernel
theorem dX5_home_1 : decode cX5_home 1 = .ok (.iconst 1, 1) := by decide +kernel
theorem dX5_home_2 : decode cX5_home 2 = .ok (.aload_n 0, 1) := by decide +kernel
theorem dX5_home_3 : decode cX5_home 3 = .ok (.getfield 41, 3) := by decide +kernel
theorem dX5_home_6 : decode cX5_home 6 = .ok (.invokevirtual 153, 3) := by decide +kernel
theorem dX5_home_9 : decode cX5_home 9 = .ok (.aload_n 0, 1) := by decide +kernel
theorem dX5_home_10 : decode cX5_home 10 = .ok (.iconst 0, 1) := by decide +kernel
theorem dX5_home_11 : decode cX5_home 11 = .ok (.putfield 171, 3) := by decide +kernel
theorem dX5_home_14 : decode cX5_home 14 = .ok (.aload_n 0, 1) := by decide +kernel
theorem dX5_home_15 : decode cX5_home 15 = .ok (.iconst 1, 1) := by decide +kernel
theorem dX5_home_16 : decode cX5_home 16 = .ok (.putfield 224, 3) := by decide +kernel
theorem dX5_home_19 : decode cX5_home 19 = .ok (.iconst 0, 1) := by decide +kernel
theorem dX5_home_20 : decode cX5_home 20 = .ok (.istore_n 1, 1) := by decide +kernel
theorem dX5_home_21 : decode cX5_home 21 = .ok (.iconst 1, 1) := by decide +kernel
theorem dX5_home_22 : decode cX5_home 22 = .ok (.istore_n 2, 1) := by decide +kernel
theorem dX5_home_23 : decode cX5_home 23 = .ok (.iload_n 2, 1) := by decide +kernel
theorem dX5_home_24 : decode cX5_home 24 = .ok (.ifCond .eq 47, 3) := by decide +kernel
theorem dX5_home_27 : decode cX5_home 27 = .ok (.aload_n 0, 1) := by decide +kernel
theorem dX5_home_28 : decode cX5_home 28 = .ok (.invokevirtual 228, 3) := by decide +kernel
theorem dX5_home_31 : decode cX5_home 31 = .ok (.aload_n 0, 1) := by decide +kernel
theorem dX5_home_32 : decode cX5_home 32 = .ok (.invokevirtual 260, 3) := by decide +kernel
theorem dX5_home_35 : decode cX5_home 35 = .ok (.iinc 1 1, 3) := by decide +kernel
theorem dX5_home_38 : decode cX5_home 38 = .ok (.aload_n 0, 1) := by decide +kernel
theorem dX5_home_39 : decode cX5_home 39 = .ok (.getfield 224, 3) := by decide +kernel
theorem dX5_home_42 : decode cX5_home 42 = .ok (.ifCond .eq 24, 3) := by decide +kernel
theorem dX5_home_45 : decode cX5_home 45 = .ok (.aload_n 0, 1) := by decide +kernel
theorem dX5_home_46 : decode cX5_home 46 = .ok (.getfield 186, 3) := by decide +kernel
theorem dX5_home_49 : decode cX5_home 49 = .ok (.iconst 3, 1) := by decide +kernel
theorem dX5_home_50 : decode cX5_home 50 = .ok (.if_icmp .ne 16, 3) := by decide +kernel
theorem dX5_home_53 : decode cX5_home 53 = .ok (.aload_n 0, 1) := by decide +kernel
theorem dX5_home_54 : decode cX5_home 54 = .ok (.getfield 193, 3) := by decide +kernel
theorem dX5_home_57 : decode cX5_home 57 = .ok (.bipush 59, 2) := by decide +kernel
theorem dX5_home_59 : decode cX5_home 59 = .ok (.if_icmp .ne 7, 3) := by decide +kernel
theorem dX5_home_62 : decode cX5_home 62 = .ok (.iconst 1, 1) := by decide +kernel
theorem dX5_home_63 : decode cX5_home 63 = .ok (.goto 4, 3) := by decide +kernel
theorem dX5_home_66 : decode cX5_home 66 = .ok (.iconst 0, 1) := by decide +kernel
theorem dX5_home_67 : decode cX5_home 67 = .ok (.istore_n 2, 1) := by decide +kernel
theorem dX5_home_68 : decode cX5_home 68 = .ok (.goto (-45), 3) := by decide +kernel
theorem dX5_home_71 : decode cX5_home 71 = .ok (.aload_n 0, 1) := by decide +kernel
theorem dX5_home_72 : decode cX5_home 72 = .ok (.aload_n 0, 1) := by decide +kernel
theorem dX5_home_73 : decode cX5_home 73 = .ok (.getfield 224, 3) := by decide +kernel
theorem dX5_home_76 : decode cX5_home 76 = .ok (.ifCond .eq 14, 3) := by decide +kernel
theorem dX5_home_79 : decode cX5_home 79 = .ok (.aload_n 0, 1) := by decide +kernel
theorem dX5_home_80 : decode cX5_home 80 = .ok (.getfield 186, 3) := by decide +kernel
theorem dX5_home_83 : decode cX5_home 83 = .ok (.ifCond .ne 7, 3) := by decide +kernel
theorem dX5_home_86 : decode cX5_home 86 = .ok (.iconst 1, 1) := by decide +kernel
theorem dX5_home_87 : decode cX5_home 87 = .ok (.goto 4, 3) := by decide +kernel
theorem dX5_home_90 : decode cX5_home 90 = .ok (.iconst 0, 1) := by decide +kernel
theorem dX5_home_91 : decode cX5_home 91 = .ok (.putfield 224, 3) := by decide +kernel
theorem dX5_home_94 : decode cX5_home 94 = .ok (.aload_n 0, 1) := by decide +kernel
theorem dX5_home_95 : decode cX5_home 95 = .ok (.iconst 0, 1) := by decide +kernel
theorem dX5_home_96 : decode cX5_home 96 = .ok (.putfield 167, 3) := by decide +kernel
theorem dX5_home_99 : decode cX5_home 99 = .ok (.aload_n 0, 1) := by decide +kernel
theorem dX5_home_100 : decode cX5_home 100 = .ok (.getfield 224, 3) := by decide +kernel
theorem dX5_home_103 : decode cX5_home 103 = .ok (.ifCond .ne 19, 3) := by decide +kernel
theorem dX5_home_106 : decode cX5_home 106 = .ok (.aload_n 0, 1) := by decide +kernel
theorem dX5_home_107 : decode cX5_home 107 = .ok (.iconst 0, 1) := by decide +kernel
theorem dX5_home_108 : decode cX5_home 108 = .ok (.aload_n 0, 1) := by decide +kernel
theorem dX5_home_109 : decode cX5_home 109 = .ok (.getfield 41, 3) := by decide +kernel
theorem dX5_home_112 : decode cX5_home 112 = .ok (.invokevirtual 153, 3) := by decide +kernel
theorem dX5_home_115 : decode cX5_home 115 = .ok (.iconst (-1), 1) := by decide +kernel
theorem dX5_home_116 : decode cX5_home 116 = .ok (.aload_n 0, 1) := by decide +kernel
theorem dX5_home_117 : decode cX5_home 117 = .ok (.getfield 174, 3) := by decide +kernel
theorem dX5_home_120 : decode cX5_home 120 = .ok (.isub, 1) := by decide +kernel
theorem dX5_home_121 : decode cX5_home 121 = .ok (.ireturn, 1) := by decide +kernel
theorem dX5_home_122 : decode cX5_home 122 = .ok (.iload_n 1, 1) := by decide +kernel
theorem dX5_home_123 : decode cX5_home 123 = .ok (.ireturn, 1) := by decide +kernel
theorem dX5_isSheet_0 : decode cX5_isSheet 0 = .ok (.iload_n 0, 1) := by decide +kernel
theorem dX5_isSheet_1 : decode cX5_isSheet 1 = .ok (.iconst 0, 1) := by decide +kernel
theorem dX5_isSheet_2 : decode cX5_isSheet 2 = .ok (.iconst 3, 1) := by decide +kernel
theorem dX5_isSheet_3 : decode cX5_isSheet 3 = .ok (.invokestatic 45, 3) := by decide +kernel
theorem dX5_isSheet_6 : decode cX5_isSheet 6 = .ok (.ireturn, 1) := by decide +kernel
theorem dX5_narrow_0 : decode cX5_narrow 0 = .ok (.iload_n 0, 1) := by decide +kernel
theorem dX5_narrow_1 : decode cX5_narrow 1 = .ok (.bipush 8, 2) := by decide +kernel
theorem dX5_narrow_3 : decode cX5_narrow 3 = .ok (.if_icmp .ne 13, 3) := by decide +kernel
theorem dX5_narrow_6 : decode cX5_narrow 6 = .ok (.lload_n 1, 1) := by decide +kernel
theorem dX5_narrow_7 : decode cX5_narrow 7 = .ok (.bipush 56, 2) := by decide +kernel
theorem dX5_narrow_9 : decode cX5_narrow 9 = .ok (.lshl, 1) := by decide +kernel
theorem dX5_narrow_10 : decode cX5_narrow 10 = .ok (.bipush 56, 2) := by decide +kernel
theorem dX5_narrow_12 : decode cX5_narrow 12 = .ok (.lshr, 1) := by decide +kernel
theorem dX5_narrow_13 : decode cX5_narrow 13 = .ok (.goto 20, 3) := by decide +kernel
theorem dX5_narrow_16 : decode cX5_narrow 16 = .ok (.iload_n 0, 1) := by decide +kernel
theorem dX5_narrow_17 : decode cX5_narrow 17 = .ok (.bipush 16, 2) := by decide +kernel
theorem dX5_narrow_19 : decode cX5_narrow 19 = .ok (.if_icmp .ne 13, 3) := by decide +kernel
theorem dX5_narrow_22 : decode cX5_narrow 22 = .ok (.lload_n 1, 1) := by decide +kernel
theorem dX5_narrow_23 : decode cX5_narrow 23 = .ok (.bipush 48, 2) := by decide +kernel
theorem dX5_narrow_25 : decode cX5_narrow 25 = .ok (.lshl, 1) := by decide +kernel
theorem dX5_narrow_26 : decode cX5_narrow 26 = .ok (.bipush 48, 2) := by decide +kernel
theorem dX5_narrow_28 : decode cX5_narrow 28 = .ok (.lshr, 1) := by decide +kernel
theorem dX5_narrow_29 : decode cX5_narrow 29 = .ok (.goto 4, 3) := by decide +kernel
theorem dX5_narrow_32 : decode cX5_narrow 32 = .ok (.lload_n 1, 1) := by decide +kernel
theorem dX5_narrow_33 : decode cX5_narrow 33 = .ok (.lreturn, 1) := by decide +kernel
theorem dX5_sheet_0 : decode cX5_sheet 0 = .ok (.iload_n 1, 1) := by decide +kernel
theorem dX5_sheet_1 : decode cX5_sheet 1 = .ok (.invokestatic 263, 3) := by decide +kernel
theorem dX5_sheet_4 : decode cX5_sheet 4 = .ok (.ifCond .eq 25, 3) := by decide +kernel
theorem dX5_sheet_7 : decode cX5_sheet 7 = .ok (.iload_n 2, 1) := by decide +kernel
theorem dX5_sheet_8 : decode cX5_sheet 8 = .ok (.ifCond .eq 28, 3) := by decide +kernel
theorem dX5_sheet_11 : decode cX5_sheet 11 = .ok (.iload_n 2, 1) := by decide +kernel
theorem dX5_sheet_12 : decode cX5_sheet 12 = .ok (.bipush 8, 2) := by decide +kernel
theorem dX5_sheet_14 : decode cX5_sheet 14 = .ok (.if_icmp .eq 22, 3) := by decide +kernel
theorem dX5_sheet_17 : decode cX5_sheet 17 = .ok (.iload_n 2, 1) := by decide +kernel
theorem dX5_sheet_18 : decode cX5_sheet 18 = .ok (.bipush 16, 2) := by decide +kernel
theorem dX5_sheet_20 : decode cX5_sheet 20 = .ok (.if_icmp .eq 16, 3) := by decide +kernel
theorem dX5_sheet_23 : decode cX5_sheet 23 = .ok (.iload_n 2, 1) := by decide +kernel
theorem dX5_sheet_24 : decode cX5_sheet 24 = .ok (.bipush 64, 2) := by decide +kernel
theorem dX5_sheet_26 : decode cX5_sheet 26 = .ok (.if_icmp .eq 10, 3) := by decide +kernel
theorem dX5_sheet_29 : decode cX5_sheet 29 = .ok (.aload_n 0, 1) := by decide +kernel
theorem dX5_sheet_30 : decode cX5_sheet 30 = .ok (.ldc 44, 2) := by decide +kernel
theorem dX5_sheet_32 : decode cX5_sheet 32 = .ok (.invokevirtual 73, 3) := by decide +kernel
theorem dX5_sheet_35 : decode cX5_sheet 35 = .ok (.ireturn, 1) := by decide +kernel
theorem dX5_sheet_36 : decode cX5_sheet 36 = .ok (.iload_n 3, 1) := by decide +kernel
theorem dX5_sheet_37 : decode cX5_sheet 37 = .ok (.ifCond .ge 11, 3) := by decide +kernel
theorem dX5_sheet_40 : decode cX5_sheet 40 = .ok (.aload_n 0, 1) := by decide +kernel
theorem dX5_sheet_41 : decode cX5_sheet 41 = .ok (.ldc_w 266, 3) := by decide +kernel
theorem dX5_sheet_44 : decode cX5_sheet 44 = .ok (.invokevirtual 73, 3) := by decide +kernel
theorem dX5_sheet_47 : decode cX5_sheet 47 = .ok (.ireturn, 1) := by decide +kernel
theorem dX5_sheet_48 : decode cX5_sheet 48 = .ok (.iload_n 3, 1) := by decide +kernel
theorem dX5_sheet_49 : decode cX5_sheet 49 = .ok (.bipush 40, 2) := by decide +kernel
theorem dX5_sheet_51 : decode cX5_sheet 51 = .ok (.if_icmp .le 10, 3) := by decide +kernel
theorem dX5_sheet_54 : decode cX5_sheet 54 = .ok (.aload_n 0, 1) := by decide +kernel
theorem dX5_sheet_55 : decode cX5_sheet 55 = .ok (.ldc 44, 2) := by decide +kernel
theorem dX5_sheet_57 : decode cX5_sheet 57 = .ok (.invokevirtual 73, 3) := by decide +kernel
theorem dX5_sheet_60 : decode cX5_sheet 60 = .ok (.ireturn, 1) := by decide +kernel
theorem dX5_sheet_61 : decode cX5_sheet 61 = .ok (.aload_n 0, 1) := by decide +kernel
theorem dX5_sheet_62 : decode cX5_sheet 62 = .ok (.getfield 25, 3) := by decide +kernel
theorem dX5_sheet_65 : decode cX5_sheet 65 = .ok (.iload_n 1, 1) := by decide +kernel
theorem dX5_sheet_66 : decode cX5_sheet 66 = .ok (.iload_n 2, 1) := by decide +kernel
theorem dX5_sheet_67 : decode cX5_sheet 67 = .ok (.iastore, 1) := by decide +kernel
theorem dX5_sheet_68 : decode cX5_sheet 68 = .ok (.aload_n 0, 1) := by decide +kernel
theorem dX5_sheet_69 : decode cX5_sheet 69 = .ok (.getfield 28, 3) := by decide +kernel
theorem dX5_sheet_72 : decode cX5_sheet 72 = .ok (.iload_n 1, 1) := by decide +kernel
theorem dX5_sheet_73 : decode cX5_sheet 73 = .ok (.iload_n 2, 1) := by decide +kernel
theorem dX5_sheet_74 : decode cX5_sheet 74 = .ok (.ifCond .ne 7, 3) := by decide +kernel
theorem dX5_sheet_77 : decode cX5_sheet 77 = .ok (.iconst 0, 1) := by decide +kernel
theorem dX5_sheet_78 : decode cX5_sheet 78 = .ok (.goto 4, 3) := by decide +kernel
theorem dX5_sheet_81 : decode cX5_sheet 81 = .ok (.iload_n 3, 1) := by decide +kernel
theorem dX5_sheet_82 : decode cX5_sheet 82 = .ok (.iastore, 1) := by decide +kernel
theorem dX5_sheet_83 : decode cX5_sheet 83 = .ok (.iconst 0, 1) := by decide +kernel
theorem dX5_sheet_84 : decode cX5_sheet 84 = .ok (.istore 4, 2) := by decide +kernel
theorem dX5_sheet_86 : decode cX5_sheet 86 = .ok (.iload 4, 2) := by decide +kernel
theorem dX5_sheet_88 : decode cX5_sheet 88 = .ok (.bipush 40, 2) := by decide +kernel
theorem dX5_sheet_90 : decode cX5_sheet 90 = .ok (.if_icmp .ge 22, 3) := by decide +kernel
theorem dX5_sheet_93 : decode cX5_sheet 93 = .ok (.aload_n 0, 1) := by decide +kernel
theorem dX5_sheet_94 : decode cX5_sheet 94 = .ok (.getfield 31, 3) := by decide +kernel
theorem dX5_sheet_97 : decode cX5_sheet 97 = .ok (.bipush 40, 2) := by decide +kernel
theorem dX5_sheet_99 : decode cX5_sheet 99 = .ok (.iload_n 1, 1) := by decide +kernel
theorem dX5_sheet_100 : decode cX5_sheet 100 = .ok (.imul, 1) := by decide +kernel
theorem dX5_sheet_101 : decode cX5_sheet 101 = .ok (.iload 4, 2) := by decide +kernel
theorem dX5_sheet_103 : decode cX5_sheet 103 = .ok (.iadd, 1) := by decide +kernel
theorem dX5_sheet_104 : decode cX5_sheet 104 = .ok (.lconst 0, 1) := by decide +kernel
theorem dX5_sheet_105 : decode cX5_sheet 105 = .ok (.lastore, 1) := by decide +kernel
theorem dX5_sheet_106 : decode cX5_sheet 106 = .ok (.iinc 4 1, 3) := by decide +kernel
theorem dX5_sheet_109 : decode cX5_sheet 109 = .ok (.goto (-23), 3) := by decide +kernel
theorem dX5_sheet_112 : decode cX5_sheet 112 = .ok (.aload_n 0, 1) := by decide +kernel
theorem dX5_sheet_113 : decode cX5_sheet 113 = .ok (.getfield 28, 3) := by decide +kernel
theorem dX5_sheet_116 : decode cX5_sheet 116 = .ok (.iload_n 1, 1) := by decide +kernel
theorem dX5_sheet_117 : decode cX5_sheet 117 = .ok (.iaload, 1) := by decide +kernel
theorem dX5_sheet_118 : decode cX5_sheet 118 = .ok (.ireturn, 1) := by decide +kernel
theorem dX5_write_0 : decode cX5_write 0 = .ok (.iload_n 1, 1) := by decide +kernel
end
section
theorem dX5_write_1 : decode cX5_write 1 = .ok (.invokestatic 263, 3) := by decide +kernel
theorem dX5_write_4 : decode cX5_write 4 = .ok (.ifCond .ne 11, 3) := by decide +kernel
theorem dX5_write_7 : decode cX5_write 7 = .ok (.aload_n 0, 1) := by decide +kernel
theorem dX5_write_8 : decode cX5_write 8 = .ok (.ldc 44, 2) := by decide +kernel
theorem dX5_write_10 : decode cX5_write 10 = .ok (.invokevirtual 73, 3) := by decide +kernel
theorem dX5_write_13 : decode cX5_write 13 = .ok (.i2l, 1) := by decide +kernel
theorem dX5_write_14 : decode cX5_write 14 = .ok (.lreturn, 1) := by decide +kernel
theorem dX5_write_15 : decode cX5_write 15 = .ok (.aload_n 0, 1) := by decide +kernel
theorem dX5_write_16 : decode cX5_write 16 = .ok (.getfield 25, 3) := by decide +kernel
theorem dX5_write_19 : decode cX5_write 19 = .ok (.iload_n 1, 1) := by decide +kernel
theorem dX5_write_20 : decode cX5_write 20 = .ok (.iaload, 1) := by decide +kernel
theorem dX5_write_21 : decode cX5_write 21 = .ok (.ifCond .ne 12, 3) := by decide +kernel
theorem dX5_write_24 : decode cX5_write 24 = .ok (.aload_n 0, 1) := by decide +kernel
theorem dX5_write_25 : decode cX5_write 25 = .ok (.ldc_w 267, 3) := by decide +kernel
theorem dX5_write_28 : decode cX5_write 28 = .ok (.invokevirtual 73, 3) := by decide +kernel
theorem dX5_write_31 : decode cX5_write 31 = .ok (.i2l, 1) := by decide +kernel
theorem dX5_write_32 : decode cX5_write 32 = .ok (.lreturn, 1) := by decide +kernel
theorem dX5_write_33 : decode cX5_write 33 = .ok (.iload_n 2, 1) := by decide +kernel
theorem dX5_write_34 : decode cX5_write 34 = .ok (.iconst 0, 1) := by decide +kernel
theorem dX5_write_35 : decode cX5_write 35 = .ok (.aload_n 0, 1) := by decide +kernel
theorem dX5_write_36 : decode cX5_write 36 = .ok (.getfield 28, 3) := by decide +kernel
theorem dX5_write_39 : decode cX5_write 39 = .ok (.iload_n 1, 1) := by decide +kernel
theorem dX5_write_40 : decode cX5_write 40 = .ok (.iaload, 1) := by decide +kernel
theorem dX5_write_41 : decode cX5_write 41 = .ok (.iconst 1, 1) := by decide +kernel
theorem dX5_write_42 : decode cX5_write 42 = .ok (.isub, 1) := by decide +kernel
theorem dX5_write_43 : decode cX5_write 43 = .ok (.invokestatic 45, 3) := by decide +kernel
theorem dX5_write_46 : decode cX5_write 46 = .ok (.ifCond .ne 11, 3) := by decide +kernel
theorem dX5_write_49 : decode cX5_write 49 = .ok (.aload_n 0, 1) := by decide +kernel
theorem dX5_write_50 : decode cX5_write 50 = .ok (.ldc 44, 2) := by decide +kernel
theorem dX5_write_52 : decode cX5_write 52 = .ok (.invokevirtual 73, 3) := by decide +kernel
theorem dX5_write_55 : decode cX5_write 55 = .ok (.i2l, 1) := by decide +kernel
theorem dX5_write_56 : decode cX5_write 56 = .ok (.lreturn, 1) := by decide +kernel
theorem dX5_write_57 : decode cX5_write 57 = .ok (.aload_n 0, 1) := by decide +kernel
theorem dX5_write_58 : decode cX5_write 58 = .ok (.getfield 31, 3) := by decide +kernel
theorem dX5_write_61 : decode cX5_write 61 = .ok (.bipush 40, 2) := by decide +kernel
theorem dX5_write_63 : decode cX5_write 63 = .ok (.iload_n 1, 1) := by decide +kernel
theorem dX5_write_64 : decode cX5_write 64 = .ok (.imul, 1) := by decide +kernel
theorem dX5_write_65 : decode cX5_write 65 = .ok (.iload_n 2, 1) := by decide +kernel
theorem dX5_write_66 : decode cX5_write 66 = .ok (.iadd, 1) := by decide +kernel
theorem dX5_write_67 : decode cX5_write 67 = .ok (.laload, 1) := by decide +kernel
theorem dX5_write_68 : decode cX5_write 68 = .ok (.lstore 5, 2) := by decide +kernel
theorem dX5_write_70 : decode cX5_write 70 = .ok (.aload_n 0, 1) := by decide +kernel
theorem dX5_write_71 : decode cX5_write 71 = .ok (.getfield 31, 3) := by decide +kernel
theorem dX5_write_74 : decode cX5_write 74 = .ok (.bipush 40, 2) := by decide +kernel
theorem dX5_write_76 : decode cX5_write 76 = .ok (.iload_n 1, 1) := by decide +kernel
theorem dX5_write_77 : decode cX5_write 77 = .ok (.imul, 1) := by decide +kernel
theorem dX5_write_78 : decode cX5_write 78 = .ok (.iload_n 2, 1) := by decide +kernel
theorem dX5_write_79 : decode cX5_write 79 = .ok (.iadd, 1) := by decide +kernel
theorem dX5_write_80 : decode cX5_write 80 = .ok (.aload_n 0, 1) := by decide +kernel
theorem dX5_write_81 : decode cX5_write 81 = .ok (.getfield 25, 3) := by decide +kernel
theorem dX5_write_84 : decode cX5_write 84 = .ok (.iload_n 1, 1) := by decide +kernel
theorem dX5_write_85 : decode cX5_write 85 = .ok (.iaload, 1) := by decide +kernel
theorem dX5_write_86 : decode cX5_write 86 = .ok (.lload_n 3, 1) := by decide +kernel
theorem dX5_write_87 : decode cX5_write 87 = .ok (.invokestatic 268, 3) := by decide +kernel
theorem dX5_write_90 : decode cX5_write 90 = .ok (.lastore, 1) := by decide +kernel
theorem dX5_write_91 : decode cX5_write 91 = .ok (.lload 5, 2) := by decide +kernel
theorem dX5_write_93 : decode cX5_write 93 = .ok (.lreturn, 1) := by decide +kernel
theorem dX5_isPart__0 : decode cX5_isPart_ 0 = .ok (.iload_n 2, 1) := by decide +kernel
theorem dX5_isPart__1 : decode cX5_isPart_ 1 = .ok (.ifCond .lt 33, 3) := by decide +kernel
theorem dX5_isPart__4 : decode cX5_isPart_ 4 = .ok (.iload_n 3, 1) := by decide +kernel
theorem dX5_isPart__5 : decode cX5_isPart_ 5 = .ok (.ifCond .lt 29, 3) := by decide +kernel
theorem dX5_isPart__8 : decode cX5_isPart_ 8 = .ok (.iload_n 3, 1) := by decide +kernel
theorem dX5_isPart__9 : decode cX5_isPart_ 9 = .ok (.aload_n 0, 1) := by decide +kernel
theorem dX5_isPart__10 : decode cX5_isPart_ 10 = .ok (.getfield 28, 3) := by decide +kernel
theorem dX5_isPart__13 : decode cX5_isPart_ 13 = .ok (.iload_n 1, 1) := by decide +kernel
theorem dX5_isPart__14 : decode cX5_isPart_ 14 = .ok (.iaload, 1) := by decide +kernel
theorem dX5_isPart__15 : decode cX5_isPart_ 15 = .ok (.if_icmp .gt 19, 3) := by decide +kernel
theorem dX5_isPart__18 : decode cX5_isPart_ 18 = .ok (.iload_n 2, 1) := by decide +kernel
theorem dX5_isPart__19 : decode cX5_isPart_ 19 = .ok (.aload_n 0, 1) := by decide +kernel
theorem dX5_isPart__20 : decode cX5_isPart_ 20 = .ok (.getfield 28, 3) := by decide +kernel
theorem dX5_isPart__23 : decode cX5_isPart_ 23 = .ok (.iload_n 1, 1) := by decide +kernel
theorem dX5_isPart__24 : decode cX5_isPart_ 24 = .ok (.iaload, 1) := by decide +kernel
theorem dX5_isPart__25 : decode cX5_isPart_ 25 = .ok (.iload_n 3, 1) := by decide +kernel
theorem dX5_isPart__26 : decode cX5_isPart_ 26 = .ok (.isub, 1) := by decide +kernel
theorem dX5_isPart__27 : decode cX5_isPart_ 27 = .ok (.if_icmp .gt 7, 3) := by decide +kernel
theorem dX5_isPart__30 : decode cX5_isPart_ 30 = .ok (.iconst 1, 1) := by decide +kernel
theorem dX5_isPart__31 : decode cX5_isPart_ 31 = .ok (.goto 4, 3) := by decide +kernel
theorem dX5_isPart__34 : decode cX5_isPart_ 34 = .ok (.iconst 0, 1) := by decide +kernel
theorem dX5_isPart__35 : decode cX5_isPart_ 35 = .ok (.ireturn, 1) := by decide +kernel
theorem dX5_copy_0 : decode cX5_copy 0 = .ok (.iload_n 1, 1) := by decide +kernel
theorem dX5_copy_1 : decode cX5_copy 1 = .ok (.invokestatic 263, 3) := by decide +kernel
theorem dX5_copy_4 : decode cX5_copy 4 = .ok (.ifCond .eq 10, 3) := by decide +kernel
theorem dX5_copy_7 : decode cX5_copy 7 = .ok (.iload_n 3, 1) := by decide +kernel
theorem dX5_copy_8 : decode cX5_copy 8 = .ok (.invokestatic 263, 3) := by decide +kernel
theorem dX5_copy_11 : decode cX5_copy 11 = .ok (.ifCond .ne 10, 3) := by decide +kernel
theorem dX5_copy_14 : decode cX5_copy 14 = .ok (.aload_n 0, 1) := by decide +kernel
theorem dX5_copy_15 : decode cX5_copy 15 = .ok (.ldc 44, 2) := by decide +kernel
theorem dX5_copy_17 : decode cX5_copy 17 = .ok (.invokevirtual 73, 3) := by decide +kernel
theorem dX5_copy_20 : decode cX5_copy 20 = .ok (.ireturn, 1) := by decide +kernel
theorem dX5_copy_21 : decode cX5_copy 21 = .ok (.aload_n 0, 1) := by decide +kernel
theorem dX5_copy_22 : decode cX5_copy 22 = .ok (.getfield 25, 3) := by decide +kernel
theorem dX5_copy_25 : decode cX5_copy 25 = .ok (.iload_n 1, 1) := by decide +kernel
theorem dX5_copy_26 : decode cX5_copy 26 = .ok (.iaload, 1) := by decide +kernel
theorem dX5_copy_27 : decode cX5_copy 27 = .ok (.ifCond .eq 12, 3) := by decide +kernel
theorem dX5_copy_30 : decode cX5_copy 30 = .ok (.aload_n 0, 1) := by decide +kernel
theorem dX5_copy_31 : decode cX5_copy 31 = .ok (.getfield 25, 3) := by decide +kernel
theorem dX5_copy_34 : decode cX5_copy 34 = .ok (.iload_n 3, 1) := by decide +kernel
theorem dX5_copy_35 : decode cX5_copy 35 = .ok (.iaload, 1) := by decide +kernel
theorem dX5_copy_36 : decode cX5_copy 36 = .ok (.ifCond .ne 11, 3) := by decide +kernel
theorem dX5_copy_39 : decode cX5_copy 39 = .ok (.aload_n 0, 1) := by decide +kernel
theorem dX5_copy_40 : decode cX5_copy 40 = .ok (.ldc_w 267, 3) := by decide +kernel
theorem dX5_copy_43 : decode cX5_copy 43 = .ok (.invokevirtual 73, 3) := by decide +kernel
theorem dX5_copy_46 : decode cX5_copy 46 = .ok (.ireturn, 1) := by decide +kernel
theorem dX5_copy_47 : decode cX5_copy 47 = .ok (.aload_n 0, 1) := by decide +kernel
theorem dX5_copy_48 : decode cX5_copy 48 = .ok (.getfield 25, 3) := by decide +kernel
theorem dX5_copy_51 : decode cX5_copy 51 = .ok (.iload_n 1, 1) := by decide +kernel
theorem dX5_copy_52 : decode cX5_copy 52 = .ok (.iaload, 1) := by decide +kernel
theorem dX5_copy_53 : decode cX5_copy 53 = .ok (.aload_n 0, 1) := by decide +kernel
theorem dX5_copy_54 : decode cX5_copy 54 = .ok (.getfield 25, 3) := by decide +kernel
theorem dX5_copy_57 : decode cX5_copy 57 = .ok (.iload_n 3, 1) := by decide +kernel
theorem dX5_copy_58 : decode cX5_copy 58 = .ok (.iaload, 1) := by decide +kernel
theorem dX5_copy_59 : decode cX5_copy 59 = .ok (.if_icmp .eq 10, 3) := by decide +kernel
theorem dX5_copy_62 : decode cX5_copy 62 = .ok (.aload_n 0, 1) := by decide +kernel
theorem dX5_copy_63 : decode cX5_copy 63 = .ok (.ldc 117, 2) := by decide +kernel
theorem dX5_copy_65 : decode cX5_copy 65 = .ok (.invokevirtual 73, 3) := by decide +kernel
theorem dX5_copy_68 : decode cX5_copy 68 = .ok (.ireturn, 1) := by decide +kernel
theorem dX5_copy_69 : decode cX5_copy 69 = .ok (.aload_n 0, 1) := by decide +kernel
theorem dX5_copy_70 : decode cX5_copy 70 = .ok (.iload_n 1, 1) := by decide +kernel
theorem dX5_copy_71 : decode cX5_copy 71 = .ok (.iload_n 2, 1) := by decide +kernel
theorem dX5_copy_72 : decode cX5_copy 72 = .ok (.iload 5, 2) := by decide +kernel
theorem dX5_copy_74 : decode cX5_copy 74 = .ok (.invokevirtual 272, 3) := by decide +kernel
theorem dX5_copy_77 : decode cX5_copy 77 = .ok (.ifCond .eq 15, 3) := by decide +kernel
theorem dX5_copy_80 : decode cX5_copy 80 = .ok (.aload_n 0, 1) := by decide +kernel
theorem dX5_copy_81 : decode cX5_copy 81 = .ok (.iload_n 3, 1) := by decide +kernel
theorem dX5_copy_82 : decode cX5_copy 82 = .ok (.iload 4, 2) := by decide +kernel
theorem dX5_copy_84 : decode cX5_copy 84 = .ok (.iload 5, 2) := by decide +kernel
theorem dX5_copy_86 : decode cX5_copy 86 = .ok (.invokevirtual 272, 3) := by decide +kernel
theorem dX5_copy_89 : decode cX5_copy 89 = .ok (.ifCond .ne 10, 3) := by decide +kernel
theorem dX5_copy_92 : decode cX5_copy 92 = .ok (.aload_n 0, 1) := by decide +kernel
theorem dX5_copy_93 : decode cX5_copy 93 = .ok (.ldc 44, 2) := by decide +kernel
theorem dX5_copy_95 : decode cX5_copy 95 = .ok (.invokevirtual 73, 3) := by decide +kernel
theorem dX5_copy_98 : decode cX5_copy 98 = .ok (.ireturn, 1) := by decide +kernel
theorem dX5_copy_99 : decode cX5_copy 99 = .ok (.iconst 0, 1) := by decide +kernel
theorem dX5_copy_100 : decode cX5_copy 100 = .ok (.istore 6, 2) := by decide +kernel
theorem dX5_copy_102 : decode cX5_copy 102 = .ok (.iload 6, 2) := by decide +kernel
theorem dX5_copy_104 : decode cX5_copy 104 = .ok (.iload 5, 2) := by decide +kernel
theorem dX5_copy_106 : decode cX5_copy 106 = .ok (.if_icmp .ge 30, 3) := by decide +kernel
theorem dX5_copy_109 : decode cX5_copy 109 = .ok (.aload_n 0, 1) := by decide +kernel
theorem dX5_copy_110 : decode cX5_copy 110 = .ok (.getfield 35, 3) := by decide +kernel
theorem dX5_copy_113 : decode cX5_copy 113 = .ok (.iload 6, 2) := by decide +kernel
theorem dX5_copy_115 : decode cX5_copy 115 = .ok (.aload_n 0, 1) := by decide +kernel
theorem dX5_copy_116 : decode cX5_copy 116 = .ok (.getfield 31, 3) := by decide +kernel
theorem dX5_copy_119 : decode cX5_copy 119 = .ok (.bipush 40, 2) := by decide +kernel
theorem dX5_copy_121 : decode cX5_copy 121 = .ok (.iload_n 1, 1) := by decide +kernel
theorem dX5_copy_122 : decode cX5_copy 122 = .ok (.imul, 1) := by decide +kernel
theorem dX5_copy_123 : decode cX5_copy 123 = .ok (.iload_n 2, 1) := by decide +kernel
theorem dX5_copy_124 : decode cX5_copy 124 = .ok (.iadd, 1) := by decide +kernel
theorem dX5_copy_125 : decode cX5_copy 125 = .ok (.iload 6, 2) := by decide +kernel
theorem dX5_copy_127 : decode cX5_copy 127 = .ok (.iadd, 1) := by decide +kernel
theorem dX5_copy_128 : decode cX5_copy 128 = .ok (.laload, 1) := by decide +kernel
theorem dX5_copy_129 : decode cX5_copy 129 = .ok (.lastore, 1) := by decide +kernel
theorem dX5_copy_130 : decode cX5_copy 130 = .ok (.iinc 6 1, 3) := by decide +kernel
theorem dX5_copy_133 : decode cX5_copy 133 = .ok (.goto (-31), 3) := by decide +kernel
theorem dX5_copy_136 : decode cX5_copy 136 = .ok (.iconst 0, 1) := by decide +kernel
theorem dX5_copy_137 : decode cX5_copy 137 = .ok (.istore 6, 2) := by decide +kernel
theorem dX5_copy_139 : decode cX5_copy 139 = .ok (.iload 6, 2) := by decide +kernel
theorem dX5_copy_141 : decode cX5_copy 141 = .ok (.iload 5, 2) := by decide +kernel
theorem dX5_copy_143 : decode cX5_copy 143 = .ok (.if_icmp .ge 31, 3) := by decide +kernel
theorem dX5_copy_146 : decode cX5_copy 146 = .ok (.aload_n 0, 1) := by decide +kernel
theorem dX5_copy_147 : decode cX5_copy 147 = .ok (.getfield 31, 3) := by decide +kernel
theorem dX5_copy_150 : decode cX5_copy 150 = .ok (.bipush 40, 2) := by decide +kernel
theorem dX5_copy_152 : decode cX5_copy 152 = .ok (.iload_n 3, 1) := by decide +kernel
theorem dX5_copy_153 : decode cX5_copy 153 = .ok (.imul, 1) := by decide +kernel
theorem dX5_copy_154 : decode cX5_copy 154 = .ok (.iload 4, 2) := by decide +kernel
theorem dX5_copy_156 : decode cX5_copy 156 = .ok (.iadd, 1) := by decide +kernel
theorem dX5_copy_157 : decode cX5_copy 157 = .ok (.iload 6, 2) := by decide +kernel
theorem dX5_copy_159 : decode cX5_copy 159 = .ok (.iadd, 1) := by decide +kernel
theorem dX5_copy_160 : decode cX5_copy 160 = .ok (.aload_n 0, 1) := by decide +kernel
theorem dX5_copy_161 : decode cX5_copy 161 = .ok (.getfield 35, 3) := by decide +kernel
theorem dX5_copy_164 : decode cX5_copy 164 = .ok (.iload 6, 2) := by decide +kernel
theorem dX5_copy_166 : decode cX5_copy 166 = .ok (.laload, 1) := by decide +kernel
theorem dX5_copy_167 : decode cX5_copy 167 = .ok (.lastore, 1) := by decide +kernel
theorem dX5_copy_168 : decode cX5_copy 168 = .ok (.iinc 6 1, 3) := by decide +kernel
theorem dX5_copy_171 : decode cX5_copy 171 = .ok (.goto (-32), 3) := by decide +kernel
theorem dX5_copy_174 : decode cX5_copy 174 = .ok (.iload 5, 2) := by decide +kernel
theorem dX5_copy_176 : decode cX5_copy 176 = .ok (.ireturn, 1) := by decide +kernel
theorem dX5_badSheet_0 : decode cX5_badSheet 0 = .ok (.iload_n 1, 1) := by decide +kernel
theorem dX5_badSheet_1 : decode cX5_badSheet 1 = .ok (.invokestatic 263, 3) := by decide +kernel
theorem dX5_badSheet_4 : decode cX5_badSheet 4 = .ok (.ifCond .ne 8, 3) := by decide +kernel
theorem dX5_badSheet_7 : decode cX5_badSheet 7 = .ok (.ldc 44, 2) := by decide +kernel
theorem dX5_badSheet_9 : decode cX5_badSheet 9 = .ok (.goto 19, 3) := by decide +kernel
theorem dX5_badSheet_12 : decode cX5_badSheet 12 = .ok (.aload_n 0, 1) := by decide +kernel
theorem dX5_badSheet_13 : decode cX5_badSheet 13 = .ok (.getfield 25, 3) := by decide +kernel
theorem dX5_badSheet_16 : decode cX5_badSheet 16 = .ok (.iload_n 1, 1) := by decide +kernel
theorem dX5_badSheet_17 : decode cX5_badSheet 17 = .ok (.iaload, 1) := by decide +kernel
theorem dX5_badSheet_18 : decode cX5_badSheet 18 = .ok (.ifCond .ne 9, 3) := by decide +kernel
theorem dX5_badSheet_21 : decode cX5_badSheet 21 = .ok (.ldc_w 267, 3) := by decide +kernel
theorem dX5_badSheet_24 : decode cX5_badSheet 24 = .ok (.goto 4, 3) := by decide +kernel
theorem dX5_badSheet_27 : decode cX5_badSheet 27 = .ok (.iconst 0, 1) := by decide +kernel
theorem dX5_badSheet_28 : decode cX5_badSheet 28 = .ok (.ireturn, 1) := by decide +kernel
theorem dX5_lays_0 : decode cX5_lays 0 = .ok (.aload_n 0, 1) := by decide +kernel
theorem dX5_lays_1 : decode cX5_lays 1 = .ok (.iload_n 1, 1) := by decide +kernel
theorem dX5_lays_2 : decode cX5_lays 2 = .ok (.invokevirtual 274, 3) := by decide +kernel
theorem dX5_lays_5 : decode cX5_lays 5 = .ok (.istore_n 2, 1) := by decide +kernel
theorem dX5_lays_6 : decode cX5_lays 6 = .ok (.iload_n 2, 1) := by decide +kernel
theorem dX5_lays_7 : decode cX5_lays 7 = .ok (.ifCond .eq 9, 3) := by decide +kernel
theorem dX5_lays_10 : decode cX5_lays 10 = .ok (.aload_n 0, 1) := by decide +kernel
theorem dX5_lays_11 : decode cX5_lays 11 = .ok (.iload_n 2, 1) := by decide +kernel
theorem dX5_lays_12 : decode cX5_lays 12 = .ok (.invokevirtual 73, 3) := by decide +kernel
theorem dX5_lays_15 : decode cX5_lays 15 = .ok (.ireturn, 1) := by decide +kernel
theorem dX5_lays_16 : decode cX5_lays 16 = .ok (.iconst 0, 1) := by decide +kernel
theorem dX5_lays_17 : decode cX5_lays 17 = .ok (.istore_n 3, 1) := by decide +kernel
theorem dX5_lays_18 : decode cX5_lays 18 = .ok (.iconst 0, 1) := by decide +kernel
theorem dX5_lays_19 : decode cX5_lays 19 = .ok (.istore 4, 2) := by decide +kernel
theorem dX5_lays_21 : decode cX5_lays 21 = .ok (.iload 4, 2) := by decide +kernel
theorem dX5_lays_23 : decode cX5_lays 23 = .ok (.aload_n 0, 1) := by decide +kernel
theorem dX5_lays_24 : decode cX5_lays 24 = .ok (.getfield 28, 3) := by decide +kernel
theorem dX5_lays_27 : decode cX5_lays 27 = .ok (.iload_n 1, 1) := by decide +kernel
theorem dX5_lays_28 : decode cX5_lays 28 = .ok (.iaload, 1) := by decide +kernel
theorem dX5_lays_29 : decode cX5_lays 29 = .ok (.if_icmp .ge 63, 3) := by decide +kernel
theorem dX5_lays_32 : decode cX5_lays 32 = .ok (.iload 4, 2) := by decide +kernel
theorem dX5_lays_34 : decode cX5_lays 34 = .ok (.aload_n 0, 1) := by decide +kernel
theorem dX5_lays_35 : decode cX5_lays 35 = .ok (.getfield 7, 3) := by decide +kernel
theorem dX5_lays_38 : decode cX5_lays 38 = .ok (.iconst 3, 1) := by decide +kernel
theorem dX5_lays_39 : decode cX5_lays 39 = .ok (.iaload, 1) := by decide +kernel
theorem dX5_lays_40 : decode cX5_lays 40 = .ok (.if_icmp .ge 52, 3) := by decide +kernel
theorem dX5_lays_43 : decode cX5_lays 43 = .ok (.aload_n 0, 1) := by decide +kernel
theorem dX5_lays_44 : decode cX5_lays 44 = .ok (.getfield 31, 3) := by decide +kernel
theorem dX5_lays_47 : decode cX5_lays 47 = .ok (.bipush 40, 2) := by decide +kernel
theorem dX5_lays_49 : decode cX5_lays 49 = .ok (.iload_n 1, 1) := by decide +kernel
theorem dX5_lays_50 : decode cX5_lays 50 = .ok (.imul, 1) := by decide +kernel
theorem dX5_lays_51 : decode cX5_lays 51 = .ok (.iload 4, 2) := by decide +kernel
theorem dX5_lays_53 : decode cX5_lays 53 = .ok (.iadd, 1) := by decide +kernel
theorem dX5_lays_54 : decode cX5_lays 54 = .ok (.laload, 1) := by decide +kernel
theorem dX5_lays_55 : decode cX5_lays 55 = .ok (.lstore 5, 2) := by decide +kernel
theorem dX5_lays_57 : decode cX5_lays 57 = .ok (.lload 5, 2) := by decide +kernel
theorem dX5_lays_59 : decode cX5_lays 59 = .ok (.lconst 0, 1) := by decide +kernel
theorem dX5_lays_60 : decode cX5_lays 60 = .ok (.lcmp, 1) := by decide +kernel
theorem dX5_lays_61 : decode cX5_lays 61 = .ok (.ifCond .lt 25, 3) := by decide +kernel
theorem dX5_lays_64 : decode cX5_lays 64 = .ok (.lload 5, 2) := by decide +kernel
theorem dX5_lays_66 : decode cX5_lays 66 = .ok (.ldc2_w 277, 3) := by decide +kernel
theorem dX5_lays_69 : decode cX5_lays 69 = .ok (.lcmp, 1) := by decide +kernel
theorem dX5_lays_70 : decode cX5_lays 70 = .ok (.ifCond .gt 16, 3) := by decide +kernel
theorem dX5_lays_73 : decode cX5_lays 73 = .ok (.aload_n 0, 1) := by decide +kernel
theorem dX5_lays_74 : decode cX5_lays 74 = .ok (.iload 4, 2) := by decide +kernel
theorem dX5_lays_76 : decode cX5_lays 76 = .ok (.iconst 2, 1) := by decide +kernel
theorem dX5_lays_77 : decode cX5_lays 77 = .ok (.lload 5, 2) := by decide +kernel
theorem dX5_lays_79 : decode cX5_lays 79 = .ok (.l2i, 1) := by decide +kernel
theorem dX5_lays_80 : decode cX5_lays 80 = .ok (.invokevirtual 118, 3) := by decide +kernel
theorem dX5_lays_83 : decode cX5_lays 83 = .ok (.iinc 3 1, 3) := by decide +kernel
theorem dX5_lays_86 : decode cX5_lays 86 = .ok (.iinc 4 1, 3) := by decide +kernel
theorem dX5_lays_89 : decode cX5_lays 89 = .ok (.goto (-68), 3) := by decide +kernel
theorem dX5_lays_92 : decode cX5_lays 92 = .ok (.iload_n 3, 1) := by decide +kernel
theorem dX5_lays_93 : decode cX5_lays 93 = .ok (.ireturn, 1) := by decide +kernel
theorem dX5_book_0 : decode cX5_book 0 = .ok (.aload_n 0, 1) := by decide +kernel
theorem dX5_book_1 : decode cX5_book 1 = .ok (.iload_n 1, 1) := by decide +kernel
theorem dX5_book_2 : decode cX5_book 2 = .ok (.invokevirtual 274, 3) := by decide +kernel
theorem dX5_book_5 : decode cX5_book 5 = .ok (.istore_n 3, 1) := by decide +kernel
theorem dX5_book_6 : decode cX5_book 6 = .ok (.iload_n 3, 1) := by decide +kernel
theorem dX5_book_7 : decode cX5_book 7 = .ok (.ifCond .eq 9, 3) := by decide +kernel
theorem dX5_book_10 : decode cX5_book 10 = .ok (.aload_n 0, 1) := by decide +kernel
theorem dX5_book_11 : decode cX5_book 11 = .ok (.iload_n 3, 1) := by decide +kernel
theorem dX5_book_12 : decode cX5_book 12 = .ok (.invokevirtual 73, 3) := by decide +kernel
theorem dX5_book_15 : decode cX5_book 15 = .ok (.ireturn, 1) := by decide +kernel
theorem dX5_book_16 : decode cX5_book 16 = .ok (.aload_n 0, 1) := by decide +kernel
theorem dX5_book_17 : decode cX5_book 17 = .ok (.iload_n 2, 1) := by decide +kernel
theorem dX5_book_18 : decode cX5_book 18 = .ok (.invokevirtual 108, 3) := by decide +kernel
theorem dX5_book_21 : decode cX5_book 21 = .ok (.ifCond .ne 10, 3) := by decide +kernel
theorem dX5_book_24 : decode cX5_book 24 = .ok (.aload_n 0, 1) := by decide +kernel
theorem dX5_book_25 : decode cX5_book 25 = .ok (.ldc 44, 2) := by decide +kernel
theorem dX5_book_27 : decode cX5_book 27 = .ok (.invokevirtual 73, 3) := by decide +kernel
theorem dX5_book_30 : decode cX5_book 30 = .ok (.ireturn, 1) := by decide +kernel
theorem dX5_book_31 : decode cX5_book 31 = .ok (.aload_n 0, 1) := by decide +kernel
theorem dX5_book_32 : decode cX5_book 32 = .ok (.iconst 1, 1) := by decide +kernel
theorem dX5_book_33 : decode cX5_book 33 = .ok (.aload_n 0, 1) := by decide +kernel
theorem dX5_book_34 : decode cX5_book 34 = .ok (.getfield 16, 3) := by decide +kernel
theorem dX5_book_37 : decode cX5_book 37 = .ok (.invokevirtual 153, 3) := by decide +kernel
theorem dX5_book_40 : decode cX5_book 40 = .ok (.iconst 0, 1) := by decide +kernel
theorem dX5_book_41 : decode cX5_book 41 = .ok (.istore 4, 2) := by decide +kernel
theorem dX5_book_43 : decode cX5_book 43 = .ok (.iload 4, 2) := by decide +kernel
theorem dX5_book_45 : decode cX5_book 45 = .ok (.aload_n 0, 1) := by decide +kernel
theorem dX5_book_46 : decode cX5_book 46 = .ok (.getfield 28, 3) := by decide +kernel
theorem dX5_book_49 : decode cX5_book 49 = .ok (.iload_n 1, 1) := by decide +kernel
theorem dX5_book_50 : decode cX5_book 50 = .ok (.iaload, 1) := by decide +kernel
theorem dX5_book_51 : decode cX5_book 51 = .ok (.if_icmp .ge 32, 3) := by decide +kernel
theorem dX5_book_54 : decode cX5_book 54 = .ok (.aload_n 0, 1) := by decide +kernel
theorem dX5_book_55 : decode cX5_book 55 = .ok (.getfield 31, 3) := by decide +kernel
theorem dX5_book_58 : decode cX5_book 58 = .ok (.bipush 40, 2) := by decide +kernel
theorem dX5_book_60 : decode cX5_book 60 = .ok (.iload_n 1, 1) := by decide +kernel
theorem dX5_book_61 : decode cX5_book 61 = .ok (.imul, 1) := by decide +kernel
theorem dX5_book_62 : decode cX5_book 62 = .ok (.iload 4, 2) := by decide +kernel
theorem dX5_book_64 : decode cX5_book 64 = .ok (.iadd, 1) := by decide +kernel
theorem dX5_book_65 : decode cX5_book 65 = .ok (.aload_n 0, 1) := by decide +kernel
theorem dX5_book_66 : decode cX5_book 66 = .ok (.iload_n 2, 1) := by decide +kernel
theorem dX5_book_67 : decode cX5_book 67 = .ok (.iconst 3, 1) := by decide +kernel
theorem dX5_book_68 : decode cX5_book 68 = .ok (.invokevirtual 49, 3) := by decide +kernel
theorem dX5_book_71 : decode cX5_book 71 = .ok (.i2l, 1) := by decide +kernel
theorem dX5_book_72 : decode cX5_book 72 = .ok (.lastore, 1) := by decide +kernel
theorem dX5_book_73 : decode cX5_book 73 = .ok (.aload_n 0, 1) := by decide +kernel
theorem dX5_book_74 : decode cX5_book 74 = .ok (.invokevirtual 145, 3) := by decide +kernel
theorem dX5_book_77 : decode cX5_book 77 = .ok (.iinc 4 1, 3) := by decide +kernel
theorem dX5_book_80 : decode cX5_book 80 = .ok (.goto (-37), 3) := by decide +kernel
theorem dX5_book_83 : decode cX5_book 83 = .ok (.aload_n 0, 1) := by decide +kernel
theorem dX5_book_84 : decode cX5_book 84 = .ok (.iconst 0, 1) := by decide +kernel
theorem dX5_book_85 : decode cX5_book 85 = .ok (.aload_n 0, 1) := by decide +kernel
theorem dX5_book_86 : decode cX5_book 86 = .ok (.getfield 16, 3) := by decide +kernel
theorem dX5_book_89 : decode cX5_book 89 = .ok (.invokevirtual 153, 3) := by decide +kernel
theorem dX5_book_92 : decode cX5_book 92 = .ok (.aload_n 0, 1) := by decide +kernel
theorem dX5_book_93 : decode cX5_book 93 = .ok (.getfield 28, 3) := by decide +kernel
theorem dX5_book_96 : decode cX5_book 96 = .ok (.iload_n 1, 1) := by decide +kernel
theorem dX5_book_97 : decode cX5_book 97 = .ok (.iaload, 1) := by decide +kernel
theorem dX5_book_98 : decode cX5_book 98 = .ok (.ireturn, 1) := by decide +kernel
theorem dX5_isSo_0 : decode cX5_isSo 0 = .ok (.iconst 1, 1) := by decide +kernel
theorem dX5_isSo_1 : decode cX5_isSo 1 = .ok (.istore_n 3, 1) := by decide +kernel
theorem dX5_isSo_2 : decode cX5_isSo 2 = .ok (.iconst 0, 1) := by decide +kernel
theorem dX5_isSo_3 : decode cX5_isSo 3 = .ok (.istore 4, 2) := by decide +kernel
theorem dX5_isSo_5 : decode cX5_isSo 5 = .ok (.iload 4, 2) := by decide +kernel
theorem dX5_isSo_7 : decode cX5_isSo 7 = .ok (.aload_n 0, 1) := by decide +kernel
theorem dX5_isSo_8 : decode cX5_isSo 8 = .ok (.getfield 28, 3) := by decide +kernel
theorem dX5_isSo_11 : decode cX5_isSo 11 = .ok (.iload_n 1, 1) := by decide +kernel
theorem dX5_isSo_12 : decode cX5_isSo 12 = .ok (.iaload, 1) := by decide +kernel
theorem dX5_isSo_13 : decode cX5_isSo 13 = .ok (.if_icmp .ge 46, 3) := by decide +kernel
theorem dX5_isSo_16 : decode cX5_isSo 16 = .ok (.iload_n 3, 1) := by decide +kernel
theorem dX5_isSo_17 : decode cX5_isSo 17 = .ok (.ifCond .eq 42, 3) := by decide +kernel
theorem dX5_isSo_20 : decode cX5_isSo 20 = .ok (.aload_n 0, 1) := by decide +kernel
theorem dX5_isSo_21 : decode cX5_isSo 21 = .ok (.getfield 31, 3) := by decide +kernel
theorem dX5_isSo_24 : decode cX5_isSo 24 = .ok (.bipush 40, 2) := by decide +kernel
theorem dX5_isSo_26 : decode cX5_isSo 26 = .ok (.iload_n 1, 1) := by decide +kernel
theorem dX5_isSo_27 : decode cX5_isSo 27 = .ok (.imul, 1) := by decide +kernel
theorem dX5_isSo_28 : decode cX5_isSo 28 = .ok (.iload 4, 2) := by decide +kernel
theorem dX5_isSo_30 : decode cX5_isSo 30 = .ok (.iadd, 1) := by decide +kernel
theorem dX5_isSo_31 : decode cX5_isSo 31 = .ok (.laload, 1) := by decide +kernel
theorem dX5_isSo_32 : decode cX5_isSo 32 = .ok (.aload_n 0, 1) := by decide +kernel
theorem dX5_isSo_33 : decode cX5_isSo 33 = .ok (.iload_n 2, 1) := by decide +kernel
theorem dX5_isSo_34 : decode cX5_isSo 34 = .ok (.iconst 3, 1) := by decide +kernel
theorem dX5_isSo_35 : decode cX5_isSo 35 = .ok (.invokevirtual 49, 3) := by decide +kernel
theorem dX5_isSo_38 : decode cX5_isSo 38 = .ok (.i2l, 1) := by decide +kernel
theorem dX5_isSo_39 : decode cX5_isSo 39 = .ok (.lcmp, 1) := by decide +kernel
theorem dX5_isSo_40 : decode cX5_isSo 40 = .ok (.ifCond .ne 7, 3) := by decide +kernel
theorem dX5_isSo_43 : decode cX5_isSo 43 = .ok (.iconst 1, 1) := by decide +kernel
theorem dX5_isSo_44 : decode cX5_isSo 44 = .ok (.goto 4, 3) := by decide +kernel
theorem dX5_isSo_47 : decode cX5_isSo 47 = .ok (.iconst 0, 1) := by decide +kernel
theorem dX5_isSo_48 : decode cX5_isSo 48 = .ok (.istore_n 3, 1) := by decide +kernel
theorem dX5_isSo_49 : decode cX5_isSo 49 = .ok (.aload_n 0, 1) := by decide +kernel
theorem dX5_isSo_50 : decode cX5_isSo 50 = .ok (.invokevirtual 145, 3) := by decide +kernel
theorem dX5_isSo_53 : decode cX5_isSo 53 = .ok (.iinc 4 1, 3) := by decide +kernel
theorem dX5_isSo_56 : decode cX5_isSo 56 = .ok (.goto (-51), 3) := by decide +kernel
theorem dX5_isSo_59 : decode cX5_isSo 59 = .ok (.iload_n 3, 1) := by decide +kernel
theorem dX5_isSo_60 : decode cX5_isSo 60 = .ok (.ireturn, 1) := by decide +kernel
theorem dX5_read_0 : decode cX5_read 0 = .ok (.aload_n 0, 1) := by decide +kernel
theorem dX5_read_1 : decode cX5_read 1 = .ok (.iload_n 1, 1) := by decide +kernel
theorem dX5_read_2 : decode cX5_read 2 = .ok (.invokevirtual 274, 3) := by decide +kernel
theorem dX5_read_5 : decode cX5_read 5 = .ok (.istore_n 3, 1) := by decide +kernel
theorem dX5_read_6 : decode cX5_read 6 = .ok (.iload_n 3, 1) := by decide +kernel
theorem dX5_read_7 : decode cX5_read 7 = .ok (.ifCond .eq 9, 3) := by decide +kernel
theorem dX5_read_10 : decode cX5_read 10 = .ok (.aload_n 0, 1) := by decide +kernel
theorem dX5_read_11 : decode cX5_read 11 = .ok (.iload_n 3, 1) := by decide +kernel
theorem dX5_read_12 : decode cX5_read 12 = .ok (.invokevirtual 73, 3) := by decide +kernel
theorem dX5_read_15 : decode cX5_read 15 = .ok (.ireturn, 1) := by decide +kernel
theorem dX5_read_16 : decode cX5_read 16 = .ok (.aload_n 0, 1) := by decide +kernel
theorem dX5_read_17 : decode cX5_read 17 = .ok (.iload_n 2, 1) := by decide +kernel
theorem dX5_read_18 : decode cX5_read 18 = .ok (.invokevirtual 108, 3) := by decide +kernel
theorem dX5_read_21 : decode cX5_read 21 = .ok (.ifCond .ne 10, 3) := by decide +kernel
theorem dX5_read_24 : decode cX5_read 24 = .ok (.aload_n 0, 1) := by decide +kernel
theorem dX5_read_25 : decode cX5_read 25 = .ok (.ldc 44, 2) := by decide +kernel
theorem dX5_read_27 : decode cX5_read 27 = .ok (.invokevirtual 73, 3) := by decide +kernel
theorem dX5_read_30 : decode cX5_read 30 = .ok (.ireturn, 1) := by decide +kernel
theorem dX5_read_31 : decode cX5_read 31 = .ok (.iconst 0, 1) := by decide +kernel
theorem dX5_read_32 : decode cX5_read 32 = .ok (.istore 4, 2) := by decide +kernel
theorem dX5_read_34 : decode cX5_read 34 = .ok (.aload_n 0, 1) := by decide +kernel
theorem dX5_read_35 : decode cX5_read 35 = .ok (.iconst 1, 1) := by decide +kernel
theorem dX5_read_36 : decode cX5_read 36 = .ok (.aload_n 0, 1) := by decide +kernel
theorem dX5_read_37 : decode cX5_read 37 = .ok (.getfield 19, 3) := by decide +kernel
theorem dX5_read_40 : decode cX5_read 40 = .ok (.invokevirtual 153, 3) := by decide +kernel
theorem dX5_read_43 : decode cX5_read 43 = .ok (.iconst 0, 1) := by decide +kernel
theorem dX5_read_44 : decode cX5_read 44 = .ok (.istore 5, 2) := by decide +kernel
theorem dX5_read_46 : decode cX5_read 46 = .ok (.iload 5, 2) := by decide +kernel
theorem dX5_read_48 : decode cX5_read 48 = .ok (.sipush 300, 3) := by decide +kernel
theorem dX5_read_51 : decode cX5_read 51 = .ok (.if_icmp .ge 59, 3) := by decide +kernel
theorem dX5_read_54 : decode cX5_read 54 = .ok (.aload_n 0, 1) := by decide +kernel
theorem dX5_read_55 : decode cX5_read 55 = .ok (.iload_n 2, 1) := by decide +kernel
theorem dX5_read_56 : decode cX5_read 56 = .ok (.iconst 1, 1) := by decide +kernel
theorem dX5_read_57 : decode cX5_read 57 = .ok (.iload 5, 2) := by decide +kernel
theorem dX5_read_59 : decode cX5_read 59 = .ok (.bipush 100, 2) := by decide +kernel
theorem dX5_read_61 : decode cX5_read 61 = .ok (.idiv, 1) := by decide +kernel
theorem dX5_read_62 : decode cX5_read 62 = .ok (.invokevirtual 118, 3) := by decide +kernel
theorem dX5_read_65 : decode cX5_read 65 = .ok (.aload_n 0, 1) := by decide +kernel
theorem dX5_read_66 : decode cX5_read 66 = .ok (.iload_n 2, 1) := by decide +kernel
theorem dX5_read_67 : decode cX5_read 67 = .ok (.iconst 2, 1) := by decide +kernel
theorem dX5_read_68 : decode cX5_read 68 = .ok (.iload 5, 2) := by decide +kernel
theorem dX5_read_70 : decode cX5_read 70 = .ok (.bipush 100, 2) := by decide +kernel
theorem dX5_read_72 : decode cX5_read 72 = .ok (.irem, 1) := by decide +kernel
theorem dX5_read_73 : decode cX5_read 73 = .ok (.invokevirtual 118, 3) := by decide +kernel
theorem dX5_read_76 : decode cX5_read 76 = .ok (.iload 4, 2) := by decide +kernel
theorem dX5_read_78 : decode cX5_read 78 = .ok (.aload_n 0, 1) := by decide +kernel
theorem dX5_read_79 : decode cX5_read 79 = .ok (.iload_n 1, 1) := by decide +kernel
theorem dX5_read_80 : decode cX5_read 80 = .ok (.iload_n 2, 1) := by decide +kernel
theorem dX5_read_81 : decode cX5_read 81 = .ok (.invokevirtual 279, 3) := by decide +kernel
theorem dX5_read_84 : decode cX5_read 84 = .ok (.ifCond .eq 7, 3) := by decide +kernel
theorem dX5_read_87 : decode cX5_read 87 = .ok (.iconst 1, 1) := by decide +kernel
theorem dX5_read_88 : decode cX5_read 88 = .ok (.goto 4, 3) := by decide +kernel
theorem dX5_read_91 : decode cX5_read 91 = .ok (.iconst 0, 1) := by decide +kernel
theorem dX5_read_92 : decode cX5_read 92 = .ok (.iadd, 1) := by decide +kernel
theorem dX5_read_93 : decode cX5_read 93 = .ok (.istore 4, 2) := by decide +kernel
theorem dX5_read_95 : decode cX5_read 95 = .ok (.aload_n 0, 1) := by decide +kernel
theorem dX5_read_96 : decode cX5_read 96 = .ok (.iconst 0, 1) := by decide +kernel
theorem dX5_read_97 : decode cX5_read 97 = .ok (.aload_n 0, 1) := by decide +kernel
theorem dX5_read_98 : decode cX5_read 98 = .ok (.getfield 19, 3) := by decide +kernel
theorem dX5_read_101 : decode cX5_read 101 = .ok (.invokevirtual 153, 3) := by decide +kernel
theorem dX5_read_104 : decode cX5_read 104 = .ok (.iinc 5 1, 3) := by decide +kernel
theorem dX5_read_107 : decode cX5_read 107 = .ok (.goto (-61), 3) := by decide +kernel
theorem dX5_read_110 : decode cX5_read 110 = .ok (.iload 4, 2) := by decide +kernel
theorem dX5_read_112 : decode cX5_read 112 = .ok (.ireturn, 1) := by decide +kernel
theorem dX5_moveAll_0 : decode cX5_moveAll 0 = .ok (.iconst 0, 1) := by decide +kernel
theorem dX5_moveAll_1 : decode cX5_moveAll 1 = .ok (.istore_n 3, 1) := by decide +kernel
theorem dX5_moveAll_2 : decode cX5_moveAll 2 = .ok (.iload_n 3, 1) := by decide +kernel
theorem dX5_moveAll_3 : decode cX5_moveAll 3 = .ok (.bipush 68, 2) := by decide +kernel
theorem dX5_moveAll_5 : decode cX5_moveAll 5 = .ok (.if_icmp .ge 34, 3) := by decide +kernel
theorem dX5_moveAll_8 : decode cX5_moveAll 8 = .ok (.iload_n 1, 1) := by decide +kernel
theorem dX5_moveAll_9 : decode cX5_moveAll 9 = .ok (.ifCond .eq 15, 3) := by decide +kernel
theorem dX5_moveAll_12 : decode cX5_moveAll 12 = .ok (.aload_n 2, 1) := by decide +kernel
theorem dX5_moveAll_13 : decode cX5_moveAll 13 = .ok (.iload_n 3, 1) := by decide +kernel
theorem dX5_moveAll_14 : decode cX5_moveAll 14 = .ok (.aload_n 0, 1) := by decide +kernel
theorem dX5_moveAll_15 : decode cX5_moveAll 15 = .ok (.getfield 7, 3) := by decide +kernel
theorem dX5_moveAll_18 : decode cX5_moveAll 18 = .ok (.iload_n 3, 1) := by decide +kernel
theorem dX5_moveAll_19 : decode cX5_moveAll 19 = .ok (.iaload, 1) := by decide +kernel
theorem dX5_moveAll_20 : decode cX5_moveAll 20 = .ok (.iastore, 1) := by decide +kernel
theorem dX5_moveAll_21 : decode cX5_moveAll 21 = .ok (.goto 12, 3) := by decide +kernel
theorem dX5_moveAll_24 : decode cX5_moveAll 24 = .ok (.aload_n 0, 1) := by decide +kernel
theorem dX5_moveAll_25 : decode cX5_moveAll 25 = .ok (.getfield 7, 3) := by decide +kernel
theorem dX5_moveAll_28 : decode cX5_moveAll 28 = .ok (.iload_n 3, 1) := by decide +kernel
theorem dX5_moveAll_29 : decode cX5_moveAll 29 = .ok (.aload_n 2, 1) := by decide +kernel
theorem dX5_moveAll_30 : decode cX5_moveAll 30 = .ok (.iload_n 3, 1) := by decide +kernel
theorem dX5_moveAll_31 : decode cX5_moveAll 31 = .ok (.iaload, 1) := by decide +kernel
theorem dX5_moveAll_32 : decode cX5_moveAll 32 = .ok (.iastore, 1) := by decide +kernel
theorem dX5_moveAll_33 : decode cX5_moveAll 33 = .ok (.iinc 3 1, 3) := by decide +kernel
theorem dX5_moveAll_36 : decode cX5_moveAll 36 = .ok (.goto (-34), 3) := by decide +kernel
theorem dX5_moveAll_39 : decode cX5_moveAll 39 = .ok (.return_, 1) := by decide +kernel
theorem dX5_image_0 : decode cX5_image 0 = .ok (.aload_n 0, 1) := by decide +kernel
theorem dX5_image_1 : decode cX5_image 1 = .ok (.iconst 1, 1) := by decide +kernel
theorem dX5_image_2 : decode cX5_image 2 = .ok (.aload_n 0, 1) := by decide +kernel
theorem dX5_image_3 : decode cX5_image 3 = .ok (.getfield 38, 3) := by decide +kernel
theorem dX5_image_6 : decode cX5_image 6 = .ok (.invokevirtual 153, 3) := by decide +kernel
theorem dX5_image_9 : decode cX5_image 9 = .ok (.aload_n 0, 1) := by decide +kernel
theorem dX5_image_10 : decode cX5_image 10 = .ok (.iconst 1, 1) := by decide +kernel
theorem dX5_image_11 : decode cX5_image 11 = .ok (.putfield 282, 3) := by decide +kernel
theorem dX5_image_14 : decode cX5_image 14 = .ok (.iconst 1, 1) := by decide +kernel
theorem dX5_image_15 : decode cX5_image 15 = .ok (.ireturn, 1) := by decide +kernel
theorem dX5_undo_0 : decode cX5_undo 0 = .ok (.aload_n 0, 1) := by decide +kernel
theorem dX5_undo_1 : decode cX5_undo 1 = .ok (.getfield 282, 3) := by decide +kernel
theorem dX5_undo_4 : decode cX5_undo 4 = .ok (.ifCond .ne 10, 3) := by decide +kernel
theorem dX5_undo_7 : decode cX5_undo 7 = .ok (.aload_n 0, 1) := by decide +kernel
theorem dX5_undo_8 : decode cX5_undo 8 = .ok (.ldc 160, 2) := by decide +kernel
theorem dX5_undo_10 : decode cX5_undo 10 = .ok (.invokevirtual 73, 3) := by decide +kernel
theorem dX5_undo_13 : decode cX5_undo 13 = .ok (.ireturn, 1) := by decide +kernel
theorem dX5_undo_14 : decode cX5_undo 14 = .ok (.aload_n 0, 1) := by decide +kernel
theorem dX5_undo_15 : decode cX5_undo 15 = .ok (.iconst 0, 1) := by decide +kernel
theorem dX5_undo_16 : decode cX5_undo 16 = .ok (.aload_n 0, 1) := by decide +kernel
theorem dX5_undo_17 : decode cX5_undo 17 = .ok (.getfield 38, 3) := by decide +kernel
theorem dX5_undo_20 : decode cX5_undo 20 = .ok (.invokevirtual 153, 3) := by decide +kernel
theorem dX5_undo_23 : decode cX5_undo 23 = .ok (.aload_n 0, 1) := by decide +kernel
theorem dX5_undo_24 : decode cX5_undo 24 = .ok (.getfield 7, 3) := by decide +kernel
theorem dX5_undo_27 : decode cX5_undo 27 = .ok (.iconst 2, 1) := by decide +kernel
theorem dX5_undo_28 : decode cX5_undo 28 = .ok (.iaload, 1) := by decide +kernel
theorem dX5_undo_29 : decode cX5_undo 29 = .ok (.ireturn, 1) := by decide +kernel
theorem dX5_tear_0 : decode cX5_tear 0 = .ok (.aload_n 0, 1) := by decide +kernel
theorem dX5_tear_1 : decode cX5_tear 1 = .ok (.getfield 282, 3) := by decide +kernel
theorem dX5_tear_4 : decode cX5_tear 4 = .ok (.ifCond .eq 7, 3) := by decide +kernel
theorem dX5_tear_7 : decode cX5_tear 7 = .ok (.iconst 1, 1) := by decide +kernel
theorem dX5_tear_8 : decode cX5_tear 8 = .ok (.goto 4, 3) := by decide +kernel
theorem dX5_tear_11 : decode cX5_tear 11 = .ok (.iconst 0, 1) := by decide +kernel
theorem dX5_tear_12 : decode cX5_tear 12 = .ok (.istore_n 1, 1) := by decide +kernel
theorem dX5_tear_13 : decode cX5_tear 13 = .ok (.aload_n 0, 1) := by decide +kernel
theorem dX5_tear_14 : decode cX5_tear 14 = .ok (.iconst 0, 1) := by decide +kernel
theorem dX5_tear_15 : decode cX5_tear 15 = .ok (.putfield 282, 3) := by decide +kernel
theorem dX5_tear_18 : decode cX5_tear 18 = .ok (.iload_n 1, 1) := by decide +kernel
theorem dX5_tear_19 : decode cX5_tear 19 = .ok (.ireturn, 1) := by decide +kernel
theorem dX5_names_0 : decode cX5_names 0 = .ok (.iconst 0, 1) := by decide +kernel
theorem dX5_names_1 : decode cX5_names 1 = .ok (.istore_n 1, 1) := by decide +kernel
theorem dX5_names_2 : decode cX5_names 2 = .ok (.iconst 0, 1) := by decide +kernel
theorem dX5_names_3 : decode cX5_names 3 = .ok (.istore_n 2, 1) := by decide +kernel
theorem dX5_names_4 : decode cX5_names 4 = .ok (.iload_n 2, 1) := by decide +kernel
theorem dX5_names_5 : decode cX5_names 5 = .ok (.aload_n 0, 1) := by decide +kernel
theorem dX5_names_6 : decode cX5_names 6 = .ok (.getfield 7, 3) := by decide +kernel
theorem dX5_names_9 : decode cX5_names 9 = .ok (.iconst 3, 1) := by decide +kernel
theorem dX5_names_10 : decode cX5_names 10 = .ok (.iaload, 1) := by decide +kernel
theorem dX5_names_11 : decode cX5_names 11 = .ok (.if_icmp .ge 18, 3) := by decide +kernel
theorem dX5_names_14 : decode cX5_names 14 = .ok (.iload_n 1, 1) := by decide +kernel
theorem dX5_names_15 : decode cX5_names 15 = .ok (.aload_n 0, 1) := by decide +kernel
theorem dX5_names_16 : decode cX5_names 16 = .ok (.iload_n 2, 1) := by decide +kernel
theorem dX5_names_17 : decode cX5_names 17 = .ok (.iconst 2, 1) := by decide +kernel
theorem dX5_names_18 : decode cX5_names 18 = .ok (.invokevirtual 49, 3) := by decide +kernel
theorem dX5_names_21 : decode cX5_names 21 = .ok (.iadd, 1) := by decide +kernel
theorem dX5_names_22 : decode cX5_names 22 = .ok (.istore_n 1, 1) := by decide +kernel
theorem dX5_names_23 : decode cX5_names 23 = .ok (.iinc 2 1, 3) := by decide +kernel
theorem dX5_names_26 : decode cX5_names 26 = .ok (.goto (-22), 3) := by decide +kernel
theorem dX5_names_29 : decode cX5_names 29 = .ok (.iload_n 1, 1) := by decide +kernel
theorem dX5_names_30 : decode cX5_names 30 = .ok (.ireturn, 1) := by decide +kernel
theorem dX5_count_0 : decode cX5_count 0 = .ok (.iload_n 1, 1) := by decide +kernel
theorem dX5_count_1 : decode cX5_count 1 = .ok (.tableswitch 55 0 3 #[31, 38, 45, 50], 31) := by decide +kernel
theorem dX5_count_32 : decode cX5_count 32 = .ok (.aload_n 0, 1) := by decide +kernel
theorem dX5_count_33 : decode cX5_count 33 = .ok (.getfield 7, 3) := by decide +kernel
theorem dX5_count_36 : decode cX5_count 36 = .ok (.iconst 2, 1) := by decide +kernel
theorem dX5_count_37 : decode cX5_count 37 = .ok (.iaload, 1) := by decide +kernel
theorem dX5_count_38 : decode cX5_count 38 = .ok (.ireturn, 1) := by decide +kernel
theorem dX5_count_39 : decode cX5_count 39 = .ok (.aload_n 0, 1) := by decide +kernel
theorem dX5_count_40 : decode cX5_count 40 = .ok (.getfield 7, 3) := by decide +kernel
theorem dX5_count_43 : decode cX5_count 43 = .ok (.iconst 3, 1) := by decide +kernel
theorem dX5_count_44 : decode cX5_count 44 = .ok (.iaload, 1) := by decide +kernel
theorem dX5_count_45 : decode cX5_count 45 = .ok (.ireturn, 1) := by decide +kernel
theorem dX5_count_46 : decode cX5_count 46 = .ok (.aload_n 0, 1) := by decide +kernel
theorem dX5_count_47 : decode cX5_count 47 = .ok (.getfield 167, 3) := by decide +kernel
theorem dX5_count_50 : decode cX5_count 50 = .ok (.ireturn, 1) := by decide +kernel
theorem dX5_count_51 : decode cX5_count 51 = .ok (.aload_n 0, 1) := by decide +kernel
theorem dX5_count_52 : decode cX5_count 52 = .ok (.invokevirtual 285, 3) := by decide +kernel
theorem dX5_count_55 : decode cX5_count 55 = .ok (.ireturn, 1) := by decide +kernel
theorem dX5_count_56 : decode cX5_count 56 = .ok (.aload_n 0, 1) := by decide +kernel
theorem dX5_count_57 : decode cX5_count 57 = .ok (.ldc 44, 2) := by decide +kernel
theorem dX5_count_59 : decode cX5_count 59 = .ok (.invokevirtual 73, 3) := by decide +kernel
theorem dX5_count_62 : decode cX5_count 62 = .ok (.ireturn, 1) := by decide +kernel
theorem dX5_status_0 : decode cX5_status 0 = .ok (.iload_n 1, 1) := by decide +kernel
theorem dX5_status_1 : decode cX5_status 1 = .ok (.iconst (-1), 1) := by decide +kernel
theorem dX5_status_2 : decode cX5_status 2 = .ok (.bipush 6, 2) := by decide +kernel
theorem dX5_status_4 : decode cX5_status 4 = .ok (.invokestatic 45, 3) := by decide +kernel
theorem dX5_status_7 : decode cX5_status 7 = .ok (.ifCond .ne 10, 3) := by decide +kernel
theorem dX5_status_10 : decode cX5_status 10 = .ok (.aload_n 0, 1) := by decide +kernel
theorem dX5_status_11 : decode cX5_status 11 = .ok (.ldc 44, 2) := by decide +kernel
theorem dX5_status_13 : decode cX5_status 13 = .ok (.invokevirtual 73, 3) := by decide +kernel
theorem dX5_status_16 : decode cX5_status 16 = .ok (.ireturn, 1) := by decide +kernel
theorem dX5_status_17 : decode cX5_status 17 = .ok (.iconst 0, 1) := by decide +kernel
theorem dX5_status_18 : decode cX5_status 18 = .ok (.istore_n 2, 1) := by decide +kernel
theorem dX5_status_19 : decode cX5_status 19 = .ok (.iconst 0, 1) := by decide +kernel
theorem dX5_status_20 : decode cX5_status 20 = .ok (.istore_n 3, 1) := by decide +kernel
theorem dX5_status_21 : decode cX5_status 21 = .ok (.iload_n 3, 1) := by decide +kernel
theorem dX5_status_22 : decode cX5_status 22 = .ok (.bipush 7, 2) := by decide +kernel
theorem dX5_status_24 : decode cX5_status 24 = .ok (.if_icmp .ge 18, 3) := by decide +kernel
theorem dX5_status_27 : decode cX5_status 27 = .ok (.iload_n 2, 1) := by decide +kernel
theorem dX5_status_28 : decode cX5_status 28 = .ok (.aload_n 0, 1) := by decide +kernel
theorem dX5_status_29 : decode cX5_status 29 = .ok (.getfield 13, 3) := by decide +kernel
theorem dX5_status_32 : decode cX5_status 32 = .ok (.iload_n 3, 1) := by decide +kernel
theorem dX5_status_33 : decode cX5_status 33 = .ok (.iaload, 1) := by decide +kernel
theorem dX5_status_34 : decode cX5_status 34 = .ok (.iadd, 1) := by decide +kernel
theorem dX5_status_35 : decode cX5_status 35 = .ok (.istore_n 2, 1) := by decide +kernel
theorem dX5_status_36 : decode cX5_status 36 = .ok (.iinc 3 1, 3) := by decide +kernel
theorem dX5_status_39 : decode cX5_status 39 = .ok (.goto (-18), 3) := by decide +kernel
theorem dX5_status_42 : decode cX5_status 42 = .ok (.iload_n 1, 1) := by decide +kernel
theorem dX5_status_43 : decode cX5_status 43 = .ok (.ifCond .ge 7, 3) := by decide +kernel
theorem dX5_status_46 : decode cX5_status 46 = .ok (.iload_n 2, 1) := by decide +kernel
theorem dX5_status_47 : decode cX5_status 47 = .ok (.goto 17, 3) := by decide +kernel
theorem dX5_status_50 : decode cX5_status 50 = .ok (.aload_n 0, 1) := by decide +kernel
theorem dX5_status_51 : decode cX5_status 51 = .ok (.getfield 13, 3) := by decide +kernel
theorem dX5_status_54 : decode cX5_status 54 = .ok (.iload_n 1, 1) := by decide +kernel
theorem dX5_status_55 : decode cX5_status 55 = .ok (.ifCond .ge 7, 3) := by decide +kernel
theorem dX5_status_58 : decode cX5_status 58 = .ok (.iconst 0, 1) := by decide +kernel
theorem dX5_status_59 : decode cX5_status 59 = .ok (.goto 4, 3) := by decide +kernel
theorem dX5_status_62 : decode cX5_status 62 = .ok (.iload_n 1, 1) := by decide +kernel
theorem dX5_status_63 : decode cX5_status 63 = .ok (.iaload, 1) := by decide +kernel
theorem dX5_status_64 : decode cX5_status 64 = .ok (.ireturn, 1) := by decide +kernel
theorem dJ6_bitCount_0f7a4_0 : decode cJ6_bitCount_0f7a4 0 = .ok (.iload_n 0, 1) := by decide +kernel
theorem dJ6_bitCount_0f7a4_1 : decode cJ6_bitCount_0f7a4 1 = .ok (.iload_n 0, 1) := by decide +kernel
theorem dJ6_bitCount_0f7a4_2 : decode cJ6_bitCount_0f7a4 2 = .ok (.iconst 1, 1) := by decide +kernel
theorem dJ6_bitCount_0f7a4_3 : decode cJ6_bitCount_0f7a4 3 = .ok (.iushr, 1) := by decide +kernel
theorem dJ6_bitCount_0f7a4_4 : decode cJ6_bitCount_0f7a4 4 = .ok (.ldc_w 265, 3) := by decide +kernel
theorem dJ6_bitCount_0f7a4_7 : decode cJ6_bitCount_0f7a4 7 = .ok (.iand, 1) := by decide +kernel
theorem dJ6_bitCount_0f7a4_8 : decode cJ6_bitCount_0f7a4 8 = .ok (.isub, 1) := by decide +kernel
theorem dJ6_bitCount_0f7a4_9 : decode cJ6_bitCount_0f7a4 9 = .ok (.istore_n 0, 1) := by decide +kernel
theorem dJ6_bitCount_0f7a4_10 : decode cJ6_bitCount_0f7a4 10 = .ok (.iload_n 0, 1) := by decide +kernel
theorem dJ6_bitCount_0f7a4_11 : decode cJ6_bitCount_0f7a4 11 = .ok (.ldc_w 266, 3) := by decide +kernel
theorem dJ6_bitCount_0f7a4_14 : decode cJ6_bitCount_0f7a4 14 = .ok (.iand, 1) := by decide +kernel
theorem dJ6_bitCount_0f7a4_15 : decode cJ6_bitCount_0f7a4 15 = .ok (.iload_n 0, 1) := by decide +kernel
theorem dJ6_bitCount_0f7a4_16 : decode cJ6_bitCount_0f7a4 16 = .ok (.iconst 2, 1) := by decide +kernel
theorem dJ6_bitCount_0f7a4_17 : decode cJ6_bitCount_0f7a4 17 = .ok (.iushr, 1) := by decide +kernel
theorem dJ6_bitCount_0f7a4_18 : decode cJ6_bitCount_0f7a4 18 = .ok (.ldc_w 266, 3) := by decide +kernel
theorem dJ6_bitCount_0f7a4_21 : decode cJ6_bitCount_0f7a4 21 = .ok (.iand, 1) := by decide +kernel
theorem dJ6_bitCount_0f7a4_22 : decode cJ6_bitCount_0f7a4 22 = .ok (.iadd, 1) := by decide +kernel
theorem dJ6_bitCount_0f7a4_23 : decode cJ6_bitCount_0f7a4 23 = .ok (.istore_n 0, 1) := by decide +kernel
theorem dJ6_bitCount_0f7a4_24 : decode cJ6_bitCount_0f7a4 24 = .ok (.iload_n 0, 1) := by decide +kernel
theorem dJ6_bitCount_0f7a4_25 : decode cJ6_bitCount_0f7a4 25 = .ok (.iload_n 0, 1) := by decide +kernel
theorem dJ6_bitCount_0f7a4_26 : decode cJ6_bitCount_0f7a4 26 = .ok (.iconst 4, 1) := by decide +kernel
theorem dJ6_bitCount_0f7a4_27 : decode cJ6_bitCount_0f7a4 27 = .ok (.iushr, 1) := by decide +kernel
theorem dJ6_bitCount_0f7a4_28 : decode cJ6_bitCount_0f7a4 28 = .ok (.iadd, 1) := by decide +kernel
theorem dJ6_bitCount_0f7a4_29 : decode cJ6_bitCount_0f7a4 29 = .ok (.ldc_w 267, 3) := by decide +kernel
theorem dJ6_bitCount_0f7a4_32 : decode cJ6_bitCount_0f7a4 32 = .ok (.iand, 1) := by decide +kernel
theorem dJ6_bitCount_0f7a4_33 : decode cJ6_bitCount_0f7a4 33 = .ok (.istore_n 0, 1) := by decide +kernel
theorem dJ6_bitCount_0f7a4_34 : decode cJ6_bitCount_0f7a4 34 = .ok (.iload_n 0, 1) := by decide +kernel
theorem dJ6_bitCount_0f7a4_35 : decode cJ6_bitCount_0f7a4 35 = .ok (.iload_n 0, 1) := by decide +kernel
theorem dJ6_bitCount_0f7a4_36 : decode cJ6_bitCount_0f7a4 36 = .ok (.bipush 8, 2) := by decide +kernel
theorem dJ6_bitCount_0f7a4_38 : decode cJ6_bitCount_0f7a4 38 = .ok (.iushr, 1) := by decide +kernel
theorem dJ6_bitCount_0f7a4_39 : decode cJ6_bitCount_0f7a4 39 = .ok (.iadd, 1) := by decide +kernel
theorem dJ6_bitCount_0f7a4_40 : decode cJ6_bitCount_0f7a4 40 = .ok (.istore_n 0, 1) := by decide +kernel
theorem dJ6_bitCount_0f7a4_41 : decode cJ6_bitCount_0f7a4 41 = .ok (.iload_n 0, 1) := by decide +kernel
theorem dJ6_bitCount_0f7a4_42 : decode cJ6_bitCount_0f7a4 42 = .ok (.iload_n 0, 1) := by decide +kernel
theorem dJ6_bitCount_0f7a4_43 : decode cJ6_bitCount_0f7a4 43 = .ok (.bipush 16, 2) := by decide +kernel
theorem dJ6_bitCount_0f7a4_45 : decode cJ6_bitCount_0f7a4 45 = .ok (.iushr, 1) := by decide +kernel
theorem dJ6_bitCount_0f7a4_46 : decode cJ6_bitCount_0f7a4 46 = .ok (.iadd, 1) := by decide +kernel
theorem dJ6_bitCount_0f7a4_47 : decode cJ6_bitCount_0f7a4 47 = .ok (.istore_n 0, 1) := by decide +kernel
theorem dJ6_bitCount_0f7a4_48 : decode cJ6_bitCount_0f7a4 48 = .ok (.iload_n 0, 1) := by decide +kernel
theorem dJ6_bitCount_0f7a4_49 : decode cJ6_bitCount_0f7a4 49 = .ok (.bipush 63, 2) := by decide +kernel
theorem dJ6_bitCount_0f7a4_51 : decode cJ6_bitCount_0f7a4 51 = .ok (.iand, 1) := by decide +kernel
theorem dJ6_bitCount_0f7a4_52 : decode cJ6_bitCount_0f7a4 52 = .ok (.ireturn, 1) := by decide +kernel
theorem dJ9_max_7cf53_0 : decode cJ9_max_7cf53 0 = .ok (.iload_n 0, 1) := by decide +kernel
theorem dJ9_max_7cf53_1 : decode cJ9_max_7cf53 1 = .ok (.iload_n 1, 1) := by decide +kernel
theorem dJ9_max_7cf53_2 : decode cJ9_max_7cf53 2 = .ok (.if_icmp .lt 7, 3) := by decide +kernel
theorem dJ9_max_7cf53_5 : decode cJ9_max_7cf53 5 = .ok (.iload_n 0, 1) := by decide +kernel
theorem dJ9_max_7cf53_6 : decode cJ9_max_7cf53 6 = .ok (.goto 4, 3) := by decide +kernel
theorem dJ9_max_7cf53_9 : decode cJ9_max_7cf53 9 = .ok (.iload_n 1, 1) := by decide +kernel
theorem dJ9_max_7cf53_10 : decode cJ9_max_7cf53 10 = .ok (.ireturn, 1) := by decide +kernel
theorem dJ9_min_7cf53_0 : decode cJ9_min_7cf53 0 = .ok (.iload_n 0, 1) := by decide +kernel
theorem dJ9_min_7cf53_1 : decode cJ9_min_7cf53 1 = .ok (.iload_n 1, 1) := by decide +kernel
theorem dJ9_min_7cf53_2 : decode cJ9_min_7cf53 2 = .ok (.if_icmp .gt 7, 3) := by decide +kernel
theorem dJ9_min_7cf53_5 : decode cJ9_min_7cf53 5 = .ok (.iload_n 0, 1) := by decide +kernel
theorem dJ9_min_7cf53_6 : decode cJ9_min_7cf53 6 = .ok (.goto 4, 3) := by decide +kernel
theorem dJ9_min_7cf53_9 : decode cJ9_min_7cf53 9 = .ok (.iload_n 1, 1) := by decide +kernel
theorem dJ9_min_7cf53_10 : decode cJ9_min_7cf53 10 = .ok (.ireturn, 1) := by decide +kernel
theorem dJ0_length_8abf5_0 : decode cJ0_length_8abf5 0 = .ok (.aload_n 0, 1) := by decide +kernel
theorem dJ0_length_8abf5_1 : decode cJ0_length_8abf5 1 = .ok (.getfield 9, 3) := by decide +kernel
theorem dJ0_length_8abf5_4 : decode cJ0_length_8abf5 4 = .ok (.arraylength, 1) := by decide +kernel
theorem dJ0_length_8abf5_5 : decode cJ0_length_8abf5 5 = .ok (.aload_n 0, 1) := by decide +kernel
theorem dJ0_length_8abf5_6 : decode cJ0_length_8abf5 6 = .ok (.invokevirtual 335, 3) := by decide +kernel
theorem dJ0_length_8abf5_9 : decode cJ0_length_8abf5 9 = .ok (.ishr, 1) := by decide +kernel
theorem dJ0_length_8abf5_10 : decode cJ0_length_8abf5 10 = .ok (.ireturn, 1) := by decide +kernel
theorem dJ0_charAt_5068e_0 : decode cJ0_charAt_5068e 0 = .ok (.aload_n 0, 1) := by decide +kernel
theorem dJ0_charAt_5068e_1 : decode cJ0_charAt_5068e 1 = .ok (.invokevirtual 492, 3) := by decide +kernel
theorem dJ0_charAt_5068e_4 : decode cJ0_charAt_5068e 4 = .ok (.ifCond .eq 12, 3) := by decide +kernel
theorem dJ0_charAt_5068e_7 : decode cJ0_charAt_5068e 7 = .ok (.aload_n 0, 1) := by decide +kernel
theorem dJ0_charAt_5068e_8 : decode cJ0_charAt_5068e 8 = .ok (.getfield 9, 3) := by decide +kernel
theorem dJ0_charAt_5068e_11 : decode cJ0_charAt_5068e 11 = .ok (.iload_n 1, 1) := by decide +kernel
theorem dJ0_charAt_5068e_12 : decode cJ0_charAt_5068e 12 = .ok (.invokestatic 495, 3) := by decide +kernel
theorem dJ0_charAt_5068e_15 : decode cJ0_charAt_5068e 15 = .ok (.ireturn, 1) := by decide +kernel
theorem dJ0_charAt_5068e_16 : decode cJ0_charAt_5068e 16 = .ok (.aload_n 0, 1) := by decide +kernel
theorem dJ0_charAt_5068e_17 : decode cJ0_charAt_5068e 17 = .ok (.getfield 9, 3) := by decide +kernel
theorem dJ0_charAt_5068e_20 : decode cJ0_charAt_5068e 20 = .ok (.iload_n 1, 1) := by decide +kernel
theorem dJ0_charAt_5068e_21 : decode cJ0_charAt_5068e 21 = .ok (.invokestatic 498, 3) := by decide +kernel
theorem dJ0_charAt_5068e_24 : decode cJ0_charAt_5068e 24 = .ok (.ireturn, 1) := by decide +kernel
theorem dJ0_coder_7d493_0 : decode cJ0_coder_7d493 0 = .ok (.getstatic 38, 3) := by decide +kernel
theorem dJ0_coder_7d493_3 : decode cJ0_coder_7d493 3 = .ok (.ifCond .eq 10, 3) := by decide +kernel
theorem dJ0_coder_7d493_6 : decode cJ0_coder_7d493 6 = .ok (.aload_n 0, 1) := by decide +kernel
theorem dJ0_coder_7d493_7 : decode cJ0_coder_7d493 7 = .ok (.getfield 15, 3) := by decide +kernel
theorem dJ0_coder_7d493_10 : decode cJ0_coder_7d493 10 = .ok (.goto 4, 3) := by decide +kernel
theorem dJ0_coder_7d493_13 : decode cJ0_coder_7d493 13 = .ok (.iconst 1, 1) := by decide +kernel
theorem dJ0_coder_7d493_14 : decode cJ0_coder_7d493 14 = .ok (.ireturn, 1) := by decide +kernel
theorem dJ0_isLatin1_aae02_0 : decode cJ0_isLatin1_aae02 0 = .ok (.getstatic 38, 3) := by decide +kernel
theorem dJ0_isLatin1_aae02_3 : decode cJ0_isLatin1_aae02 3 = .ok (.ifCond .eq 14, 3) := by decide +kernel
theorem dJ0_isLatin1_aae02_6 : decode cJ0_isLatin1_aae02 6 = .ok (.aload_n 0, 1) := by decide +kernel
theorem dJ0_isLatin1_aae02_7 : decode cJ0_isLatin1_aae02 7 = .ok (.getfield 15, 3) := by decide +kernel
theorem dJ0_isLatin1_aae02_10 : decode cJ0_isLatin1_aae02 10 = .ok (.ifCond .ne 7, 3) := by decide +kernel
theorem dJ0_isLatin1_aae02_13 : decode cJ0_isLatin1_aae02 13 = .ok (.iconst 1, 1) := by decide +kernel
theorem dJ0_isLatin1_aae02_14 : decode cJ0_isLatin1_aae02 14 = .ok (.goto 4, 3) := by decide +kernel
theorem dJ0_isLatin1_aae02_17 : decode cJ0_isLatin1_aae02 17 = .ok (.iconst 0, 1) := by decide +kernel
theorem dJ0_isLatin1_aae02_18 : decode cJ0_isLatin1_aae02 18 = .ok (.ireturn, 1) := by decide +kernel
theorem dJ0_checkIndex_df160_0 : decode cJ0_checkIndex_df160 0 = .ok (.iload_n 0, 1) := by decide +kernel
theorem dJ0_checkIndex_df160_1 : decode cJ0_checkIndex_df160 1 = .ok (.iload_n 1, 1) := by decide +kernel
theorem dJ0_checkIndex_df160_2 : decode cJ0_checkIndex_df160 2 = .ok (.getstatic 1053, 3) := by decide +kernel
theorem dJ0_checkIndex_df160_5 : decode cJ0_checkIndex_df160 5 = .ok (.invokestatic 1059, 3) := by decide +kernel
theorem dJ0_checkIndex_df160_8 : decode cJ0_checkIndex_df160 8 = .ok (.pop, 1) := by decide +kernel
theorem dJ0_checkIndex_df160_9 : decode cJ0_checkIndex_df160 9 = .ok (.return_, 1) := by decide +kernel
theorem dJ1_charAt_3b067_0 : decode cJ1_charAt_3b067 0 = .ok (.iload_n 1, 1) := by decide +kernel
theorem dJ1_charAt_3b067_1 : decode cJ1_charAt_3b067 1 = .ok (.aload_n 0, 1) := by decide +kernel
theorem dJ1_charAt_3b067_2 : decode cJ1_charAt_3b067 2 = .ok (.arraylength, 1) := by decide +kernel
theorem dJ1_charAt_3b067_3 : decode cJ1_charAt_3b067 3 = .ok (.invokestatic 9, 3) := by decide +kernel
theorem dJ1_charAt_3b067_6 : decode cJ1_charAt_3b067 6 = .ok (.aload_n 0, 1) := by decide +kernel
theorem dJ1_charAt_3b067_7 : decode cJ1_charAt_3b067 7 = .ok (.iload_n 1, 1) := by decide +kernel
theorem dJ1_charAt_3b067_8 : decode cJ1_charAt_3b067 8 = .ok (.baload, 1) := by decide +kernel
theorem dJ1_charAt_3b067_9 : decode cJ1_charAt_3b067 9 = .ok (.sipush 255, 3) := by decide +kernel
theorem dJ1_charAt_3b067_12 : decode cJ1_charAt_3b067 12 = .ok (.iand, 1) := by decide +kernel
theorem dJ1_charAt_3b067_13 : decode cJ1_charAt_3b067 13 = .ok (.i2c, 1) := by decide +kernel
theorem dJ1_charAt_3b067_14 : decode cJ1_charAt_3b067 14 = .ok (.ireturn, 1) := by decide +kernel
theorem dJ2_getChar_3b067_0 : decode cJ2_getChar_3b067 0 = .ok (.getstatic 44, 3) := by decide +kernel
theorem dJ2_getChar_3b067_3 : decode cJ2_getChar_3b067 3 = .ok (.ifCond .ne 25, 3) := by decide +kernel
theorem dJ2_getChar_3b067_6 : decode cJ2_getChar_3b067 6 = .ok (.iload_n 1, 1) := by decide +kernel
theorem dJ2_getChar_3b067_7 : decode cJ2_getChar_3b067 7 = .ok (.ifCond .lt 11, 3) := by decide +kernel
theorem dJ2_getChar_3b067_10 : decode cJ2_getChar_3b067 10 = .ok (.iload_n 1, 1) := by decide +kernel
theorem dJ2_getChar_3b067_11 : decode cJ2_getChar_3b067 11 = .ok (.aload_n 0, 1) := by decide +kernel
theorem dJ2_getChar_3b067_12 : decode cJ2_getChar_3b067 12 = .ok (.invokestatic 48, 3) := by decide +kernel
theorem dJ2_getChar_3b067_15 : decode cJ2_getChar_3b067 15 = .ok (.if_icmp .lt 13, 3) := by decide +kernel
theorem dJ2_getChar_3b067_18 : decode cJ2_getChar_3b067 18 = .ok (.new 52, 3) := by decide +kernel
theorem dJ2_getChar_3b067_21 : decode cJ2_getChar_3b067 21 = .ok (.dup, 1) := by decide +kernel
theorem dJ2_getChar_3b067_22 : decode cJ2_getChar_3b067 22 = .ok (.ldc 54, 2) := by decide +kernel
theorem dJ2_getChar_3b067_24 : decode cJ2_getChar_3b067 24 = .ok (.invokespecial 56, 3) := by decide +kernel
theorem dJ2_getChar_3b067_27 : decode cJ2_getChar_3b067 27 = .ok (.athrow, 1) := by decide +kernel
theorem dJ2_getChar_3b067_28 : decode cJ2_getChar_3b067 28 = .ok (.iload_n 1, 1) := by decide +kernel
theorem dJ2_getChar_3b067_29 : decode cJ2_getChar_3b067 29 = .ok (.iconst 1, 1) := by decide +kernel
theorem dJ2_getChar_3b067_30 : decode cJ2_getChar_3b067 30 = .ok (.ishl, 1) := by decide +kernel
theorem dJ2_getChar_3b067_31 : decode cJ2_getChar_3b067 31 = .ok (.istore_n 1, 1) := by decide +kernel
theorem dJ2_getChar_3b067_32 : decode cJ2_getChar_3b067 32 = .ok (.aload_n 0, 1) := by decide +kernel
theorem dJ2_getChar_3b067_33 : decode cJ2_getChar_3b067 33 = .ok (.iload_n 1, 1) := by decide +kernel
theorem dJ2_getChar_3b067_34 : decode cJ2_getChar_3b067 34 = .ok (.iinc 1 1, 3) := by decide +kernel
theorem dJ2_getChar_3b067_37 : decode cJ2_getChar_3b067 37 = .ok (.baload, 1) := by decide +kernel
theorem dJ2_getChar_3b067_38 : decode cJ2_getChar_3b067 38 = .ok (.sipush 255, 3) := by decide +kernel
theorem dJ2_getChar_3b067_41 : decode cJ2_getChar_3b067 41 = .ok (.iand, 1) := by decide +kernel
theorem dJ2_getChar_3b067_42 : decode cJ2_getChar_3b067 42 = .ok (.getstatic 59, 3) := by decide +kernel
theorem dJ2_getChar_3b067_45 : decode cJ2_getChar_3b067 45 = .ok (.ishl, 1) := by decide +kernel
theorem dJ2_getChar_3b067_46 : decode cJ2_getChar_3b067 46 = .ok (.aload_n 0, 1) := by decide +kernel
theorem dJ2_getChar_3b067_47 : decode cJ2_getChar_3b067 47 = .ok (.iload_n 1, 1) := by decide +kernel
theorem dJ2_getChar_3b067_48 : decode cJ2_getChar_3b067 48 = .ok (.baload, 1) := by decide +kernel
theorem dJ2_getChar_3b067_49 : decode cJ2_getChar_3b067 49 = .ok (.sipush 255, 3) := by decide +kernel
theorem dJ2_getChar_3b067_52 : decode cJ2_getChar_3b067 52 = .ok (.iand, 1) := by decide +kernel
theorem dJ2_getChar_3b067_53 : decode cJ2_getChar_3b067 53 = .ok (.getstatic 63, 3) := by decide +kernel
theorem dJ2_getChar_3b067_56 : decode cJ2_getChar_3b067 56 = .ok (.ishl, 1) := by decide +kernel
theorem dJ2_getChar_3b067_57 : decode cJ2_getChar_3b067 57 = .ok (.ior, 1) := by decide +kernel
theorem dJ2_getChar_3b067_58 : decode cJ2_getChar_3b067 58 = .ok (.i2c, 1) := by decide +kernel
theorem dJ2_getChar_3b067_59 : decode cJ2_getChar_3b067 59 = .ok (.ireturn, 1) := by decide +kernel
theorem dJ2_length_9d52b_0 : decode cJ2_length_9d52b 0 = .ok (.aload_n 0, 1) := by decide +kernel
theorem dJ2_length_9d52b_1 : decode cJ2_length_9d52b 1 = .ok (.arraylength, 1) := by decide +kernel
theorem dJ2_length_9d52b_2 : decode cJ2_length_9d52b 2 = .ok (.iconst 1, 1) := by decide +kernel
theorem dJ2_length_9d52b_3 : decode cJ2_length_9d52b 3 = .ok (.ishr, 1) := by decide +kernel
theorem dJ2_length_9d52b_4 : decode cJ2_length_9d52b 4 = .ok (.ireturn, 1) := by decide +kernel
theorem dJ2_charAt_3b067_0 : decode cJ2_charAt_3b067 0 = .ok (.iload_n 1, 1) := by decide +kernel
theorem dJ2_charAt_3b067_1 : decode cJ2_charAt_3b067 1 = .ok (.aload_n 0, 1) := by decide +kernel
theorem dJ2_charAt_3b067_2 : decode cJ2_charAt_3b067 2 = .ok (.invokestatic 67, 3) := by decide +kernel
theorem dJ2_charAt_3b067_5 : decode cJ2_charAt_3b067 5 = .ok (.aload_n 0, 1) := by decide +kernel
theorem dJ2_charAt_3b067_6 : decode cJ2_charAt_3b067 6 = .ok (.iload_n 1, 1) := by decide +kernel
theorem dJ2_charAt_3b067_7 : decode cJ2_charAt_3b067 7 = .ok (.invokestatic 71, 3) := by decide +kernel
theorem dJ2_charAt_3b067_10 : decode cJ2_charAt_3b067 10 = .ok (.ireturn, 1) := by decide +kernel
theorem dJ2_checkIndex_2214a_0 : decode cJ2_checkIndex_2214a 0 = .ok (.iload_n 0, 1) := by decide +kernel
theorem dJ2_checkIndex_2214a_1 : decode cJ2_checkIndex_2214a 1 = .ok (.aload_n 1, 1) := by decide +kernel
theorem dJ2_checkIndex_2214a_2 : decode cJ2_checkIndex_2214a 2 = .ok (.invokestatic 48, 3) := by decide +kernel
theorem dJ2_checkIndex_2214a_5 : decode cJ2_checkIndex_2214a 5 = .ok (.invokestatic 414, 3) := by decide +kernel
theorem dJ2_checkIndex_2214a_8 : decode cJ2_checkIndex_2214a 8 = .ok (.return_, 1) := by decide +kernel
theorem dJ3_checkIndex_8e157_0 : decode cJ3_checkIndex_8e157 0 = .ok (.iload_n 0, 1) := by decide +kernel
theorem dJ3_checkIndex_8e157_1 : decode cJ3_checkIndex_8e157 1 = .ok (.ifCond .lt 8, 3) := by decide +kernel
theorem dJ3_checkIndex_8e157_4 : decode cJ3_checkIndex_8e157 4 = .ok (.iload_n 0, 1) := by decide +kernel
theorem dJ3_checkIndex_8e157_5 : decode cJ3_checkIndex_8e157 5 = .ok (.iload_n 1, 1) := by decide +kernel
theorem dJ3_checkIndex_8e157_6 : decode cJ3_checkIndex_8e157 6 = .ok (.if_icmp .lt 10, 3) := by decide +kernel
theorem dJ3_checkIndex_8e157_9 : decode cJ3_checkIndex_8e157 9 = .ok (.aload_n 2, 1) := by decide +kernel
theorem dJ3_checkIndex_8e157_10 : decode cJ3_checkIndex_8e157 10 = .ok (.iload_n 0, 1) := by decide +kernel
theorem dJ3_checkIndex_8e157_11 : decode cJ3_checkIndex_8e157 11 = .ok (.iload_n 1, 1) := by decide +kernel
theorem dJ3_checkIndex_8e157_12 : decode cJ3_checkIndex_8e157 12 = .ok (.invokestatic 95, 3) := by decide +kernel
theorem dJ3_checkIndex_8e157_15 : decode cJ3_checkIndex_8e157 15 = .ok (.athrow, 1) := by decide +kernel
theorem dJ3_checkIndex_8e157_16 : decode cJ3_checkIndex_8e157 16 = .ok (.iload_n 0, 1) := by decide +kernel
theorem dJ3_checkIndex_8e157_17 : decode cJ3_checkIndex_8e157 17 = .ok (.ireturn, 1) := by decide +kernel
theorem dL_law_0 : decode cL_law 0 = .ok (.new 7, 3) := by decide +kernel
theorem dL_law_3 : decode cL_law 3 = .ok (.dup, 1) := by decide +kernel
theorem dL_law_4 : decode cL_law 4 = .ok (.invokespecial 9, 3) := by decide +kernel
theorem dL_law_7 : decode cL_law 7 = .ok (.astore_n 1, 1) := by decide +kernel
theorem dL_law_8 : decode cL_law 8 = .ok (.new 10, 3) := by decide +kernel
theorem dL_law_11 : decode cL_law 11 = .ok (.dup, 1) := by decide +kernel
theorem dL_law_12 : decode cL_law 12 = .ok (.invokespecial 12, 3) := by decide +kernel
theorem dL_law_15 : decode cL_law 15 = .ok (.astore_n 2, 1) := by decide +kernel
theorem dL_law_16 : decode cL_law 16 = .ok (.iconst 0, 1) := by decide +kernel
theorem dL_law_17 : decode cL_law 17 = .ok (.istore_n 3, 1) := by decide +kernel
theorem dL_law_18 : decode cL_law 18 = .ok (.iload_n 3, 1) := by decide +kernel
theorem dL_law_19 : decode cL_law 19 = .ok (.aload_n 0, 1) := by decide +kernel
theorem dL_law_20 : decode cL_law 20 = .ok (.arraylength, 1) := by decide +kernel
theorem dL_law_21 : decode cL_law 21 = .ok (.bipush 6, 2) := by decide +kernel
theorem dL_law_23 : decode cL_law 23 = .ok (.isub, 1) := by decide +kernel
theorem dL_law_24 : decode cL_law 24 = .ok (.if_icmp .gt 1283, 3) := by decide +kernel
theorem dL_law_27 : decode cL_law 27 = .ok (.aload_n 0, 1) := by decide +kernel
theorem dL_law_28 : decode cL_law 28 = .ok (.iload_n 3, 1) := by decide +kernel
theorem dL_law_29 : decode cL_law 29 = .ok (.iaload, 1) := by decide +kernel
theorem dL_law_30 : decode cL_law 30 = .ok (.bipush 63, 2) := by decide +kernel
theorem dL_law_32 : decode cL_law 32 = .ok (.iand, 1) := by decide +kernel
theorem dL_law_33 : decode cL_law 33 = .ok (.tableswitch 1268 0 35 #[159, 182, 205, 228, 261, 304, 347, 380, 413, 446, 479, 522, 545, 588, 621, 644, 677, 710, 743, 776, 809, 832, 855, 888, 901, 914, 957, 1031, 1094, 1117, 1150, 1183, 1196, 1209, 1222, 1245], 159) := by decide +kernel
theorem dL_law_192 : decode cL_law 192 = .ok (.aload_n 1, 1) := by decide +kernel
theorem dL_law_193 : decode cL_law 193 = .ok (.aload_n 0, 1) := by decide +kernel
theorem dL_law_194 : decode cL_law 194 = .ok (.iload_n 3, 1) := by decide +kernel
theorem dL_law_195 : decode cL_law 195 = .ok (.iconst 1, 1) := by decide +kernel
theorem dL_law_196 : decode cL_law 196 = .ok (.iadd, 1) := by decide +kernel
theorem dL_law_197 : decode cL_law 197 = .ok (.iaload, 1) := by decide +kernel
theorem dL_law_198 : decode cL_law 198 = .ok (.invokevirtual 13, 3) := by decide +kernel
theorem dL_law_201 : decode cL_law 201 = .ok (.aload_n 2, 1) := by decide +kernel
theorem dL_law_202 : decode cL_law 202 = .ok (.aload_n 0, 1) := by decide +kernel
theorem dL_law_203 : decode cL_law 203 = .ok (.iload_n 3, 1) := by decide +kernel
theorem dL_law_204 : decode cL_law 204 = .ok (.iconst 1, 1) := by decide +kernel
theorem dL_law_205 : decode cL_law 205 = .ok (.iadd, 1) := by decide +kernel
theorem dL_law_206 : decode cL_law 206 = .ok (.iaload, 1) := by decide +kernel
theorem dL_law_207 : decode cL_law 207 = .ok (.invokevirtual 17, 3) := by decide +kernel
theorem dL_law_210 : decode cL_law 210 = .ok (.if_icmp .eq 1091, 3) := by decide +kernel
theorem dL_law_213 : decode cL_law 213 = .ok (.iconst 0, 1) := by decide +kernel
theorem dL_law_214 : decode cL_law 214 = .ok (.ireturn, 1) := by decide +kernel
theorem dL_law_215 : decode cL_law 215 = .ok (.aload_n 1, 1) := by decide +kernel
theorem dL_law_216 : decode cL_law 216 = .ok (.aload_n 0, 1) := by decide +kernel
theorem dL_law_217 : decode cL_law 217 = .ok (.iload_n 3, 1) := by decide +kernel
theorem dL_law_218 : decode cL_law 218 = .ok (.iconst 1, 1) := by decide +kernel
theorem dL_law_219 : decode cL_law 219 = .ok (.iadd, 1) := by decide +kernel
theorem dL_law_220 : decode cL_law 220 = .ok (.iaload, 1) := by decide +kernel
theorem dL_law_221 : decode cL_law 221 = .ok (.invokevirtual 18, 3) := by decide +kernel
theorem dL_law_224 : decode cL_law 224 = .ok (.aload_n 2, 1) := by decide +kernel
theorem dL_law_225 : decode cL_law 225 = .ok (.aload_n 0, 1) := by decide +kernel
theorem dL_law_226 : decode cL_law 226 = .ok (.iload_n 3, 1) := by decide +kernel
theorem dL_law_227 : decode cL_law 227 = .ok (.iconst 1, 1) := by decide +kernel
theorem dL_law_228 : decode cL_law 228 = .ok (.iadd, 1) := by decide +kernel
theorem dL_law_229 : decode cL_law 229 = .ok (.iaload, 1) := by decide +kernel
theorem dL_law_230 : decode cL_law 230 = .ok (.invokevirtual 21, 3) := by decide +kernel
theorem dL_law_233 : decode cL_law 233 = .ok (.if_icmp .eq 1068, 3) := by decide +kernel
theorem dL_law_236 : decode cL_law 236 = .ok (.iconst 0, 1) := by decide +kernel
theorem dL_law_237 : decode cL_law 237 = .ok (.ireturn, 1) := by decide +kernel
theorem dL_law_238 : decode cL_law 238 = .ok (.aload_n 1, 1) := by decide +kernel
theorem dL_law_239 : decode cL_law 239 = .ok (.aload_n 0, 1) := by decide +kernel
theorem dL_law_240 : decode cL_law 240 = .ok (.iload_n 3, 1) := by decide +kernel
theorem dL_law_241 : decode cL_law 241 = .ok (.iconst 1, 1) := by decide +kernel
theorem dL_law_242 : decode cL_law 242 = .ok (.iadd, 1) := by decide +kernel
theorem dL_law_243 : decode cL_law 243 = .ok (.iaload, 1) := by decide +kernel
theorem dL_law_244 : decode cL_law 244 = .ok (.invokevirtual 22, 3) := by decide +kernel
theorem dL_law_247 : decode cL_law 247 = .ok (.aload_n 2, 1) := by decide +kernel
theorem dL_law_248 : decode cL_law 248 = .ok (.aload_n 0, 1) := by decide +kernel
theorem dL_law_249 : decode cL_law 249 = .ok (.iload_n 3, 1) := by decide +kernel
theorem dL_law_250 : decode cL_law 250 = .ok (.iconst 1, 1) := by decide +kernel
theorem dL_law_251 : decode cL_law 251 = .ok (.iadd, 1) := by decide +kernel
theorem dL_law_252 : decode cL_law 252 = .ok (.iaload, 1) := by decide +kernel
theorem dL_law_253 : decode cL_law 253 = .ok (.invokevirtual 25, 3) := by decide +kernel
theorem dL_law_256 : decode cL_law 256 = .ok (.if_icmp .eq 1045, 3) := by decide +kernel
theorem dL_law_259 : decode cL_law 259 = .ok (.iconst 0, 1) := by decide +kernel
theorem dL_law_260 : decode cL_law 260 = .ok (.ireturn, 1) := by decide +kernel
theorem dL_law_261 : decode cL_law 261 = .ok (.aload_n 1, 1) := by decide +kernel
theorem dL_law_262 : decode cL_law 262 = .ok (.aload_n 0, 1) := by decide +kernel
theorem dL_law_263 : decode cL_law 263 = .ok (.iload_n 3, 1) := by decide +kernel
theorem dL_law_264 : decode cL_law 264 = .ok (.iconst 1, 1) := by decide +kernel
theorem dL_law_265 : decode cL_law 265 = .ok (.iadd, 1) := by decide +kernel
theorem dL_law_266 : decode cL_law 266 = .ok (.iaload, 1) := by decide +kernel
theorem dL_law_267 : decode cL_law 267 = .ok (.aload_n 0, 1) := by decide +kernel
theorem dL_law_268 : decode cL_law 268 = .ok (.iload_n 3, 1) := by decide +kernel
theorem dL_law_269 : decode cL_law 269 = .ok (.iconst 2, 1) := by decide +kernel
theorem dL_law_270 : decode cL_law 270 = .ok (.iadd, 1) := by decide +kernel
theorem dL_law_271 : decode cL_law 271 = .ok (.iaload, 1) := by decide +kernel
theorem dL_law_272 : decode cL_law 272 = .ok (.invokevirtual 26, 3) := by decide +kernel
theorem dL_law_275 : decode cL_law 275 = .ok (.aload_n 2, 1) := by decide +kernel
theorem dL_law_276 : decode cL_law 276 = .ok (.aload_n 0, 1) := by decide +kernel
theorem dL_law_277 : decode cL_law 277 = .ok (.iload_n 3, 1) := by decide +kernel
theorem dL_law_278 : decode cL_law 278 = .ok (.iconst 1, 1) := by decide +kernel
theorem dL_law_279 : decode cL_law 279 = .ok (.iadd, 1) := by decide +kernel
theorem dL_law_280 : decode cL_law 280 = .ok (.iaload, 1) := by decide +kernel
theorem dL_law_281 : decode cL_law 281 = .ok (.aload_n 0, 1) := by decide +kernel
theorem dL_law_282 : decode cL_law 282 = .ok (.iload_n 3, 1) := by decide +kernel
theorem dL_law_283 : decode cL_law 283 = .ok (.iconst 2, 1) := by decide +kernel
theorem dL_law_284 : decode cL_law 284 = .ok (.iadd, 1) := by decide +kernel
theorem dL_law_285 : decode cL_law 285 = .ok (.iaload, 1) := by decide +kernel
theorem dL_law_286 : decode cL_law 286 = .ok (.invokevirtual 30, 3) := by decide +kernel
theorem dL_law_289 : decode cL_law 289 = .ok (.if_icmp .eq 1012, 3) := by decide +kernel
theorem dL_law_292 : decode cL_law 292 = .ok (.iconst 0, 1) := by decide +kernel
theorem dL_law_293 : decode cL_law 293 = .ok (.ireturn, 1) := by decide +kernel
theorem dL_law_294 : decode cL_law 294 = .ok (.aload_n 1, 1) := by decide +kernel
theorem dL_law_295 : decode cL_law 295 = .ok (.aload_n 0, 1) := by decide +kernel
theorem dL_law_296 : decode cL_law 296 = .ok (.iload_n 3, 1) := by decide +kernel
theorem dL_law_297 : decode cL_law 297 = .ok (.iconst 1, 1) := by decide +kernel
theorem dL_law_298 : decode cL_law 298 = .ok (.iadd, 1) := by decide +kernel
theorem dL_law_299 : decode cL_law 299 = .ok (.iaload, 1) := by decide +kernel
theorem dL_law_300 : decode cL_law 300 = .ok (.aload_n 0, 1) := by decide +kernel
theorem dL_law_301 : decode cL_law 301 = .ok (.iload_n 3, 1) := by decide +kernel
theorem dL_law_302 : decode cL_law 302 = .ok (.iconst 2, 1) := by decide +kernel
theorem dL_law_303 : decode cL_law 303 = .ok (.iadd, 1) := by decide +kernel
theorem dL_law_304 : decode cL_law 304 = .ok (.iaload, 1) := by decide +kernel
theorem dL_law_305 : decode cL_law 305 = .ok (.aload_n 0, 1) := by decide +kernel
theorem dL_law_306 : decode cL_law 306 = .ok (.iload_n 3, 1) := by decide +kernel
theorem dL_law_307 : decode cL_law 307 = .ok (.iconst 3, 1) := by decide +kernel
theorem dL_law_308 : decode cL_law 308 = .ok (.iadd, 1) := by decide +kernel
theorem dL_law_309 : decode cL_law 309 = .ok (.iaload, 1) := by decide +kernel
theorem dL_law_310 : decode cL_law 310 = .ok (.invokevirtual 31, 3) := by decide +kernel
theorem dL_law_313 : decode cL_law 313 = .ok (.aload_n 2, 1) := by decide +kernel
theorem dL_law_314 : decode cL_law 314 = .ok (.aload_n 0, 1) := by decide +kernel
theorem dL_law_315 : decode cL_law 315 = .ok (.iload_n 3, 1) := by decide +kernel
theorem dL_law_316 : decode cL_law 316 = .ok (.iconst 1, 1) := by decide +kernel
theorem dL_law_317 : decode cL_law 317 = .ok (.iadd, 1) := by decide +kernel
theorem dL_law_318 : decode cL_law 318 = .ok (.iaload, 1) := by decide +kernel
theorem dL_law_319 : decode cL_law 319 = .ok (.aload_n 0, 1) := by decide +kernel
theorem dL_law_320 : decode cL_law 320 = .ok (.iload_n 3, 1) := by decide +kernel
theorem dL_law_321 : decode cL_law 321 = .ok (.iconst 2, 1) := by decide +kernel
theorem dL_law_322 : decode cL_law 322 = .ok (.iadd, 1) := by decide +kernel
theorem dL_law_323 : decode cL_law 323 = .ok (.iaload, 1) := by decide +kernel
theorem dL_law_324 : decode cL_law 324 = .ok (.aload_n 0, 1) := by decide +kernel
theorem dL_law_325 : decode cL_law 325 = .ok (.iload_n 3, 1) := by decide +kernel
theorem dL_law_326 : decode cL_law 326 = .ok (.iconst 3, 1) := by decide +kernel
theorem dL_law_327 : decode cL_law 327 = .ok (.iadd, 1) := by decide +kernel
theorem dL_law_328 : decode cL_law 328 = .ok (.iaload, 1) := by decide +kernel
theorem dL_law_329 : decode cL_law 329 = .ok (.invokevirtual 35, 3) := by decide +kernel
theorem dL_law_332 : decode cL_law 332 = .ok (.if_icmp .eq 969, 3) := by decide +kernel
theorem dL_law_335 : decode cL_law 335 = .ok (.iconst 0, 1) := by decide +kernel
theorem dL_law_336 : decode cL_law 336 = .ok (.ireturn, 1) := by decide +kernel
theorem dL_law_337 : decode cL_law 337 = .ok (.aload_n 1, 1) := by decide +kernel
theorem dL_law_338 : decode cL_law 338 = .ok (.aload_n 0, 1) := by decide +kernel
theorem dL_law_339 : decode cL_law 339 = .ok (.iload_n 3, 1) := by decide +kernel
theorem dL_law_340 : decode cL_law 340 = .ok (.iconst 1, 1) := by decide +kernel
theorem dL_law_341 : decode cL_law 341 = .ok (.iadd, 1) := by decide +kernel
theorem dL_law_342 : decode cL_law 342 = .ok (.iaload, 1) := by decide +kernel
theorem dL_law_343 : decode cL_law 343 = .ok (.aload_n 0, 1) := by decide +kernel
theorem dL_law_344 : decode cL_law 344 = .ok (.iload_n 3, 1) := by decide +kernel
theorem dL_law_345 : decode cL_law 345 = .ok (.iconst 2, 1) := by decide +kernel
theorem dL_law_346 : decode cL_law 346 = .ok (.iadd, 1) := by decide +kernel
theorem dL_law_347 : decode cL_law 347 = .ok (.iaload, 1) := by decide +kernel
theorem dL_law_348 : decode cL_law 348 = .ok (.aload_n 0, 1) := by decide +kernel
theorem dL_law_349 : decode cL_law 349 = .ok (.iload_n 3, 1) := by decide +kernel
theorem dL_law_350 : decode cL_law 350 = .ok (.iconst 3, 1) := by decide +kernel
theorem dL_law_351 : decode cL_law 351 = .ok (.iadd, 1) := by decide +kernel
theorem dL_law_352 : decode cL_law 352 = .ok (.iaload, 1) := by decide +kernel
theorem dL_law_353 : decode cL_law 353 = .ok (.invokevirtual 36, 3) := by decide +kernel
theorem dL_law_356 : decode cL_law 356 = .ok (.aload_n 2, 1) := by decide +kernel
theorem dL_law_357 : decode cL_law 357 = .ok (.aload_n 0, 1) := by decide +kernel
theorem dL_law_358 : decode cL_law 358 = .ok (.iload_n 3, 1) := by decide +kernel
theorem dL_law_359 : decode cL_law 359 = .ok (.iconst 1, 1) := by decide +kernel
theorem dL_law_360 : decode cL_law 360 = .ok (.iadd, 1) := by decide +kernel
theorem dL_law_361 : decode cL_law 361 = .ok (.iaload, 1) := by decide +kernel
theorem dL_law_362 : decode cL_law 362 = .ok (.aload_n 0, 1) := by decide +kernel
theorem dL_law_363 : decode cL_law 363 = .ok (.iload_n 3, 1) := by decide +kernel
theorem dL_law_364 : decode cL_law 364 = .ok (.iconst 2, 1) := by decide +kernel
theorem dL_law_365 : decode cL_law 365 = .ok (.iadd, 1) := by decide +kernel
theorem dL_law_366 : decode cL_law 366 = .ok (.iaload, 1) := by decide +kernel
theorem dL_law_367 : decode cL_law 367 = .ok (.aload_n 0, 1) := by decide +kernel
theorem dL_law_368 : decode cL_law 368 = .ok (.iload_n 3, 1) := by decide +kernel
theorem dL_law_369 : decode cL_law 369 = .ok (.iconst 3, 1) := by decide +kernel
theorem dL_law_370 : decode cL_law 370 = .ok (.iadd, 1) := by decide +kernel
theorem dL_law_371 : decode cL_law 371 = .ok (.iaload, 1) := by decide +kernel
theorem dL_law_372 : decode cL_law 372 = .ok (.invokevirtual 39, 3) := by decide +kernel
theorem dL_law_375 : decode cL_law 375 = .ok (.if_icmp .eq 926, 3) := by decide +kernel
theorem dL_law_378 : decode cL_law 378 = .ok (.iconst 0, 1) := by decide +kernel
theorem dL_law_379 : decode cL_law 379 = .ok (.ireturn, 1) := by decide +kernel
theorem dL_law_380 : decode cL_law 380 = .ok (.aload_n 1, 1) := by decide +kernel
theorem dL_law_381 : decode cL_law 381 = .ok (.aload_n 0, 1) := by decide +kernel
theorem dL_law_382 : decode cL_law 382 = .ok (.iload_n 3, 1) := by decide +kernel
theorem dL_law_383 : decode cL_law 383 = .ok (.iconst 1, 1) := by decide +kernel
theorem dL_law_384 : decode cL_law 384 = .ok (.iadd, 1) := by decide +kernel
theorem dL_law_385 : decode cL_law 385 = .ok (.iaload, 1) := by decide +kernel
theorem dL_law_386 : decode cL_law 386 = .ok (.aload_n 0, 1) := by decide +kernel
theorem dL_law_387 : decode cL_law 387 = .ok (.iload_n 3, 1) := by decide +kernel
theorem dL_law_388 : decode cL_law 388 = .ok (.iconst 2, 1) := by decide +kernel
theorem dL_law_389 : decode cL_law 389 = .ok (.iadd, 1) := by decide +kernel
theorem dL_law_390 : decode cL_law 390 = .ok (.iaload, 1) := by decide +kernel
theorem dL_law_391 : decode cL_law 391 = .ok (.invokevirtual 40, 3) := by decide +kernel
theorem dL_law_394 : decode cL_law 394 = .ok (.aload_n 2, 1) := by decide +kernel
theorem dL_law_395 : decode cL_law 395 = .ok (.aload_n 0, 1) := by decide +kernel
theorem dL_law_396 : decode cL_law 396 = .ok (.iload_n 3, 1) := by decide +kernel
theorem dL_law_397 : decode cL_law 397 = .ok (.iconst 1, 1) := by decide +kernel
theorem dL_law_398 : decode cL_law 398 = .ok (.iadd, 1) := by decide +kernel
theorem dL_law_399 : decode cL_law 399 = .ok (.iaload, 1) := by decide +kernel
theorem dL_law_400 : decode cL_law 400 = .ok (.aload_n 0, 1) := by decide +kernel
theorem dL_law_401 : decode cL_law 401 = .ok (.iload_n 3, 1) := by decide +kernel
theorem dL_law_402 : decode cL_law 402 = .ok (.iconst 2, 1) := by decide +kernel
theorem dL_law_403 : decode cL_law 403 = .ok (.iadd, 1) := by decide +kernel
theorem dL_law_404 : decode cL_law 404 = .ok (.iaload, 1) := by decide +kernel
theorem dL_law_405 : decode cL_law 405 = .ok (.invokevirtual 43, 3) := by decide +kernel
theorem dL_law_408 : decode cL_law 408 = .ok (.if_icmp .eq 893, 3) := by decide +kernel
theorem dL_law_411 : decode cL_law 411 = .ok (.iconst 0, 1) := by decide +kernel
theorem dL_law_412 : decode cL_law 412 = .ok (.ireturn, 1) := by decide +kernel
theorem dL_law_413 : decode cL_law 413 = .ok (.aload_n 1, 1) := by decide +kernel
theorem dL_law_414 : decode cL_law 414 = .ok (.aload_n 0, 1) := by decide +kernel
theorem dL_law_415 : decode cL_law 415 = .ok (.iload_n 3, 1) := by decide +kernel
theorem dL_law_416 : decode cL_law 416 = .ok (.iconst 1, 1) := by decide +kernel
theorem dL_law_417 : decode cL_law 417 = .ok (.iadd, 1) := by decide +kernel
theorem dL_law_418 : decode cL_law 418 = .ok (.iaload, 1) := by decide +kernel
theorem dL_law_419 : decode cL_law 419 = .ok (.aload_n 0, 1) := by decide +kernel
theorem dL_law_420 : decode cL_law 420 = .ok (.iload_n 3, 1) := by decide +kernel
theorem dL_law_421 : decode cL_law 421 = .ok (.iconst 2, 1) := by decide +kernel
theorem dL_law_422 : decode cL_law 422 = .ok (.iadd, 1) := by decide +kernel
theorem dL_law_423 : decode cL_law 423 = .ok (.iaload, 1) := by decide +kernel
theorem dL_law_424 : decode cL_law 424 = .ok (.invokevirtual 44, 3) := by decide +kernel
theorem dL_law_427 : decode cL_law 427 = .ok (.aload_n 2, 1) := by decide +kernel
theorem dL_law_428 : decode cL_law 428 = .ok (.aload_n 0, 1) := by decide +kernel
theorem dL_law_429 : decode cL_law 429 = .ok (.iload_n 3, 1) := by decide +kernel
theorem dL_law_430 : decode cL_law 430 = .ok (.iconst 1, 1) := by decide +kernel
theorem dL_law_431 : decode cL_law 431 = .ok (.iadd, 1) := by decide +kernel
theorem dL_law_432 : decode cL_law 432 = .ok (.iaload, 1) := by decide +kernel
theorem dL_law_433 : decode cL_law 433 = .ok (.aload_n 0, 1) := by decide +kernel
theorem dL_law_434 : decode cL_law 434 = .ok (.iload_n 3, 1) := by decide +kernel
theorem dL_law_435 : decode cL_law 435 = .ok (.iconst 2, 1) := by decide +kernel
theorem dL_law_436 : decode cL_law 436 = .ok (.iadd, 1) := by decide +kernel
theorem dL_law_437 : decode cL_law 437 = .ok (.iaload, 1) := by decide +kernel
theorem dL_law_438 : decode cL_law 438 = .ok (.invokevirtual 47, 3) := by decide +kernel
theorem dL_law_441 : decode cL_law 441 = .ok (.if_icmp .eq 860, 3) := by decide +kernel
theorem dL_law_444 : decode cL_law 444 = .ok (.iconst 0, 1) := by decide +kernel
theorem dL_law_445 : decode cL_law 445 = .ok (.ireturn, 1) := by decide +kernel
theorem dL_law_446 : decode cL_law 446 = .ok (.aload_n 1, 1) := by decide +kernel
theorem dL_law_447 : decode cL_law 447 = .ok (.aload_n 0, 1) := by decide +kernel
theorem dL_law_448 : decode cL_law 448 = .ok (.iload_n 3, 1) := by decide +kernel
theorem dL_law_449 : decode cL_law 449 = .ok (.iconst 1, 1) := by decide +kernel
theorem dL_law_450 : decode cL_law 450 = .ok (.iadd, 1) := by decide +kernel
theorem dL_law_451 : decode cL_law 451 = .ok (.iaload, 1) := by decide +kernel
theorem dL_law_452 : decode cL_law 452 = .ok (.aload_n 0, 1) := by decide +kernel
theorem dL_law_453 : decode cL_law 453 = .ok (.iload_n 3, 1) := by decide +kernel
theorem dL_law_454 : decode cL_law 454 = .ok (.iconst 2, 1) := by decide +kernel
theorem dL_law_455 : decode cL_law 455 = .ok (.iadd, 1) := by decide +kernel
theorem dL_law_456 : decode cL_law 456 = .ok (.iaload, 1) := by decide +kernel
theorem dL_law_457 : decode cL_law 457 = .ok (.invokevirtual 48, 3) := by decide +kernel
theorem dL_law_460 : decode cL_law 460 = .ok (.aload_n 2, 1) := by decide +kernel
theorem dL_law_461 : decode cL_law 461 = .ok (.aload_n 0, 1) := by decide +kernel
theorem dL_law_462 : decode cL_law 462 = .ok (.iload_n 3, 1) := by decide +kernel
theorem dL_law_463 : decode cL_law 463 = .ok (.iconst 1, 1) := by decide +kernel
theorem dL_law_464 : decode cL_law 464 = .ok (.iadd, 1) := by decide +kernel
theorem dL_law_465 : decode cL_law 465 = .ok (.iaload, 1) := by decide +kernel
theorem dL_law_466 : decode cL_law 466 = .ok (.aload_n 0, 1) := by decide +kernel
theorem dL_law_467 : decode cL_law 467 = .ok (.iload_n 3, 1) := by decide +kernel
theorem dL_law_468 : decode cL_law 468 = .ok (.iconst 2, 1) := by decide +kernel
theorem dL_law_469 : decode cL_law 469 = .ok (.iadd, 1) := by decide +kernel
theorem dL_law_470 : decode cL_law 470 = .ok (.iaload, 1) := by decide +kernel
theorem dL_law_471 : decode cL_law 471 = .ok (.invokevirtual 51, 3) := by decide +kernel
theorem dL_law_474 : decode cL_law 474 = .ok (.if_icmp .eq 827, 3) := by decide +kernel
theorem dL_law_477 : decode cL_law 477 = .ok (.iconst 0, 1) := by decide +kernel
theorem dL_law_478 : decode cL_law 478 = .ok (.ireturn, 1) := by decide +kernel
theorem dL_law_479 : decode cL_law 479 = .ok (.aload_n 1, 1) := by decide +kernel
theorem dL_law_480 : decode cL_law 480 = .ok (.aload_n 0, 1) := by decide +kernel
theorem dL_law_481 : decode cL_law 481 = .ok (.iload_n 3, 1) := by decide +kernel
theorem dL_law_482 : decode cL_law 482 = .ok (.iconst 1, 1) := by decide +kernel
theorem dL_law_483 : decode cL_law 483 = .ok (.iadd, 1) := by decide +kernel
theorem dL_law_484 : decode cL_law 484 = .ok (.iaload, 1) := by decide +kernel
theorem dL_law_485 : decode cL_law 485 = .ok (.aload_n 0, 1) := by decide +kernel
theorem dL_law_486 : decode cL_law 486 = .ok (.iload_n 3, 1) := by decide +kernel
theorem dL_law_487 : decode cL_law 487 = .ok (.iconst 2, 1) := by decide +kernel
theorem dL_law_488 : decode cL_law 488 = .ok (.iadd, 1) := by decide +kernel
theorem dL_law_489 : decode cL_law 489 = .ok (.iaload, 1) := by decide +kernel
theorem dL_law_490 : decode cL_law 490 = .ok (.invokevirtual 52, 3) := by decide +kernel
theorem dL_law_493 : decode cL_law 493 = .ok (.aload_n 2, 1) := by decide +kernel
theorem dL_law_494 : decode cL_law 494 = .ok (.aload_n 0, 1) := by decide +kernel
theorem dL_law_495 : decode cL_law 495 = .ok (.iload_n 3, 1) := by decide +kernel
theorem dL_law_496 : decode cL_law 496 = .ok (.iconst 1, 1) := by decide +kernel
theorem dL_law_497 : decode cL_law 497 = .ok (.iadd, 1) := by decide +kernel
theorem dL_law_498 : decode cL_law 498 = .ok (.iaload, 1) := by decide +kernel
theorem dL_law_499 : decode cL_law 499 = .ok (.aload_n 0, 1) := by decide +kernel
theorem dL_law_500 : decode cL_law 500 = .ok (.iload_n 3, 1) := by decide +kernel
theorem dL_law_501 : decode cL_law 501 = .ok (.iconst 2, 1) := by decide +kernel
theorem dL_law_502 : decode cL_law 502 = .ok (.iadd, 1) := by decide +kernel
theorem dL_law_503 : decode cL_law 503 = .ok (.iaload, 1) := by decide +kernel
theorem dL_law_504 : decode cL_law 504 = .ok (.invokevirtual 55, 3) := by decide +kernel
theorem dL_law_507 : decode cL_law 507 = .ok (.if_icmp .eq 794, 3) := by decide +kernel
theorem dL_law_510 : decode cL_law 510 = .ok (.iconst 0, 1) := by decide +kernel
theorem dL_law_511 : decode cL_law 511 = .ok (.ireturn, 1) := by decide +kernel
theorem dL_law_512 : decode cL_law 512 = .ok (.aload_n 1, 1) := by decide +kernel
theorem dL_law_513 : decode cL_law 513 = .ok (.aload_n 0, 1) := by decide +kernel
theorem dL_law_514 : decode cL_law 514 = .ok (.iload_n 3, 1) := by decide +kernel
theorem dL_law_515 : decode cL_law 515 = .ok (.iconst 1, 1) := by decide +kernel
theorem dL_law_516 : decode cL_law 516 = .ok (.iadd, 1) := by decide +kernel
theorem dL_law_517 : decode cL_law 517 = .ok (.iaload, 1) := by decide +kernel
theorem dL_law_518 : decode cL_law 518 = .ok (.aload_n 0, 1) := by decide +kernel
theorem dL_law_519 : decode cL_law 519 = .ok (.iload_n 3, 1) := by decide +kernel
theorem dL_law_520 : decode cL_law 520 = .ok (.iconst 2, 1) := by decide +kernel
theorem dL_law_521 : decode cL_law 521 = .ok (.iadd, 1) := by decide +kernel
theorem dL_law_522 : decode cL_law 522 = .ok (.iaload, 1) := by decide +kernel
theorem dL_law_523 : decode cL_law 523 = .ok (.aload_n 0, 1) := by decide +kernel
theorem dL_law_524 : decode cL_law 524 = .ok (.iload_n 3, 1) := by decide +kernel
theorem dL_law_525 : decode cL_law 525 = .ok (.iconst 3, 1) := by decide +kernel
theorem dL_law_526 : decode cL_law 526 = .ok (.iadd, 1) := by decide +kernel
theorem dL_law_527 : decode cL_law 527 = .ok (.iaload, 1) := by decide +kernel
theorem dL_law_528 : decode cL_law 528 = .ok (.invokevirtual 56, 3) := by decide +kernel
theorem dL_law_531 : decode cL_law 531 = .ok (.aload_n 2, 1) := by decide +kernel
theorem dL_law_532 : decode cL_law 532 = .ok (.aload_n 0, 1) := by decide +kernel
theorem dL_law_533 : decode cL_law 533 = .ok (.iload_n 3, 1) := by decide +kernel
theorem dL_law_534 : decode cL_law 534 = .ok (.iconst 1, 1) := by decide +kernel
theorem dL_law_535 : decode cL_law 535 = .ok (.iadd, 1) := by decide +kernel
theorem dL_law_536 : decode cL_law 536 = .ok (.iaload, 1) := by decide +kernel
theorem dL_law_537 : decode cL_law 537 = .ok (.aload_n 0, 1) := by decide +kernel
theorem dL_law_538 : decode cL_law 538 = .ok (.iload_n 3, 1) := by decide +kernel
theorem dL_law_539 : decode cL_law 539 = .ok (.iconst 2, 1) := by decide +kernel
theorem dL_law_540 : decode cL_law 540 = .ok (.iadd, 1) := by decide +kernel
theorem dL_law_541 : decode cL_law 541 = .ok (.iaload, 1) := by decide +kernel
theorem dL_law_542 : decode cL_law 542 = .ok (.aload_n 0, 1) := by decide +kernel
theorem dL_law_543 : decode cL_law 543 = .ok (.iload_n 3, 1) := by decide +kernel
theorem dL_law_544 : decode cL_law 544 = .ok (.iconst 3, 1) := by decide +kernel
theorem dL_law_545 : decode cL_law 545 = .ok (.iadd, 1) := by decide +kernel
theorem dL_law_546 : decode cL_law 546 = .ok (.iaload, 1) := by decide +kernel
theorem dL_law_547 : decode cL_law 547 = .ok (.invokevirtual 59, 3) := by decide +kernel
theorem dL_law_550 : decode cL_law 550 = .ok (.if_icmp .eq 751, 3) := by decide +kernel
theorem dL_law_553 : decode cL_law 553 = .ok (.iconst 0, 1) := by decide +kernel
theorem dL_law_554 : decode cL_law 554 = .ok (.ireturn, 1) := by decide +kernel
theorem dL_law_555 : decode cL_law 555 = .ok (.aload_n 1, 1) := by decide +kernel
theorem dL_law_556 : decode cL_law 556 = .ok (.aload_n 0, 1) := by decide +kernel
theorem dL_law_557 : decode cL_law 557 = .ok (.iload_n 3, 1) := by decide +kernel
theorem dL_law_558 : decode cL_law 558 = .ok (.iconst 1, 1) := by decide +kernel
theorem dL_law_559 : decode cL_law 559 = .ok (.iadd, 1) := by decide +kernel
theorem dL_law_560 : decode cL_law 560 = .ok (.iaload, 1) := by decide +kernel
theorem dL_law_561 : decode cL_law 561 = .ok (.invokevirtual 60, 3) := by decide +kernel
theorem dL_law_564 : decode cL_law 564 = .ok (.aload_n 2, 1) := by decide +kernel
theorem dL_law_565 : decode cL_law 565 = .ok (.aload_n 0, 1) := by decide +kernel
theorem dL_law_566 : decode cL_law 566 = .ok (.iload_n 3, 1) := by decide +kernel
theorem dL_law_567 : decode cL_law 567 = .ok (.iconst 1, 1) := by decide +kernel
theorem dL_law_568 : decode cL_law 568 = .ok (.iadd, 1) := by decide +kernel
theorem dL_law_569 : decode cL_law 569 = .ok (.iaload, 1) := by decide +kernel
theorem dL_law_570 : decode cL_law 570 = .ok (.invokevirtual 63, 3) := by decide +kernel
theorem dL_law_573 : decode cL_law 573 = .ok (.if_icmp .eq 728, 3) := by decide +kernel
theorem dL_law_576 : decode cL_law 576 = .ok (.iconst 0, 1) := by decide +kernel
theorem dL_law_577 : decode cL_law 577 = .ok (.ireturn, 1) := by decide +kernel
theorem dL_law_578 : decode cL_law 578 = .ok (.aload_n 1, 1) := by decide +kernel
theorem dL_law_579 : decode cL_law 579 = .ok (.aload_n 0, 1) := by decide +kernel
theorem dL_law_580 : decode cL_law 580 = .ok (.iload_n 3, 1) := by decide +kernel
theorem dL_law_581 : decode cL_law 581 = .ok (.iconst 1, 1) := by decide +kernel
theorem dL_law_582 : decode cL_law 582 = .ok (.iadd, 1) := by decide +kernel
theorem dL_law_583 : decode cL_law 583 = .ok (.iaload, 1) := by decide +kernel
theorem dL_law_584 : decode cL_law 584 = .ok (.aload_n 0, 1) := by decide +kernel
theorem dL_law_585 : decode cL_law 585 = .ok (.iload_n 3, 1) := by decide +kernel
theorem dL_law_586 : decode cL_law 586 = .ok (.iconst 2, 1) := by decide +kernel
theorem dL_law_587 : decode cL_law 587 = .ok (.iadd, 1) := by decide +kernel
theorem dL_law_588 : decode cL_law 588 = .ok (.iaload, 1) := by decide +kernel
theorem dL_law_589 : decode cL_law 589 = .ok (.aload_n 0, 1) := by decide +kernel
theorem dL_law_590 : decode cL_law 590 = .ok (.iload_n 3, 1) := by decide +kernel
theorem dL_law_591 : decode cL_law 591 = .ok (.iconst 3, 1) := by decide +kernel
theorem dL_law_592 : decode cL_law 592 = .ok (.iadd, 1) := by decide +kernel
theorem dL_law_593 : decode cL_law 593 = .ok (.iaload, 1) := by decide +kernel
theorem dL_law_594 : decode cL_law 594 = .ok (.invokevirtual 64, 3) := by decide +kernel
theorem dL_law_597 : decode cL_law 597 = .ok (.aload_n 2, 1) := by decide +kernel
theorem dL_law_598 : decode cL_law 598 = .ok (.aload_n 0, 1) := by decide +kernel
theorem dL_law_599 : decode cL_law 599 = .ok (.iload_n 3, 1) := by decide +kernel
theorem dL_law_600 : decode cL_law 600 = .ok (.iconst 1, 1) := by decide +kernel
theorem dL_law_601 : decode cL_law 601 = .ok (.iadd, 1) := by decide +kernel
theorem dL_law_602 : decode cL_law 602 = .ok (.iaload, 1) := by decide +kernel
theorem dL_law_603 : decode cL_law 603 = .ok (.aload_n 0, 1) := by decide +kernel
theorem dL_law_604 : decode cL_law 604 = .ok (.iload_n 3, 1) := by decide +kernel
theorem dL_law_605 : decode cL_law 605 = .ok (.iconst 2, 1) := by decide +kernel
theorem dL_law_606 : decode cL_law 606 = .ok (.iadd, 1) := by decide +kernel
theorem dL_law_607 : decode cL_law 607 = .ok (.iaload, 1) := by decide +kernel
theorem dL_law_608 : decode cL_law 608 = .ok (.aload_n 0, 1) := by decide +kernel
theorem dL_law_609 : decode cL_law 609 = .ok (.iload_n 3, 1) := by decide +kernel
theorem dL_law_610 : decode cL_law 610 = .ok (.iconst 3, 1) := by decide +kernel
theorem dL_law_611 : decode cL_law 611 = .ok (.iadd, 1) := by decide +kernel
theorem dL_law_612 : decode cL_law 612 = .ok (.iaload, 1) := by decide +kernel
theorem dL_law_613 : decode cL_law 613 = .ok (.invokevirtual 67, 3) := by decide +kernel
theorem dL_law_616 : decode cL_law 616 = .ok (.if_icmp .eq 685, 3) := by decide +kernel
theorem dL_law_619 : decode cL_law 619 = .ok (.iconst 0, 1) := by decide +kernel
theorem dL_law_620 : decode cL_law 620 = .ok (.ireturn, 1) := by decide +kernel
theorem dL_law_621 : decode cL_law 621 = .ok (.aload_n 1, 1) := by decide +kernel
theorem dL_law_622 : decode cL_law 622 = .ok (.aload_n 0, 1) := by decide +kernel
theorem dL_law_623 : decode cL_law 623 = .ok (.iload_n 3, 1) := by decide +kernel
theorem dL_law_624 : decode cL_law 624 = .ok (.iconst 1, 1) := by decide +kernel
theorem dL_law_625 : decode cL_law 625 = .ok (.iadd, 1) := by decide +kernel
theorem dL_law_626 : decode cL_law 626 = .ok (.iaload, 1) := by decide +kernel
theorem dL_law_627 : decode cL_law 627 = .ok (.aload_n 0, 1) := by decide +kernel
theorem dL_law_628 : decode cL_law 628 = .ok (.iload_n 3, 1) := by decide +kernel
theorem dL_law_629 : decode cL_law 629 = .ok (.iconst 2, 1) := by decide +kernel
theorem dL_law_630 : decode cL_law 630 = .ok (.iadd, 1) := by decide +kernel
theorem dL_law_631 : decode cL_law 631 = .ok (.iaload, 1) := by decide +kernel
theorem dL_law_632 : decode cL_law 632 = .ok (.invokevirtual 68, 3) := by decide +kernel
theorem dL_law_635 : decode cL_law 635 = .ok (.aload_n 2, 1) := by decide +kernel
theorem dL_law_636 : decode cL_law 636 = .ok (.aload_n 0, 1) := by decide +kernel
theorem dL_law_637 : decode cL_law 637 = .ok (.iload_n 3, 1) := by decide +kernel
theorem dL_law_638 : decode cL_law 638 = .ok (.iconst 1, 1) := by decide +kernel
theorem dL_law_639 : decode cL_law 639 = .ok (.iadd, 1) := by decide +kernel
theorem dL_law_640 : decode cL_law 640 = .ok (.iaload, 1) := by decide +kernel
theorem dL_law_641 : decode cL_law 641 = .ok (.aload_n 0, 1) := by decide +kernel
theorem dL_law_642 : decode cL_law 642 = .ok (.iload_n 3, 1) := by decide +kernel
theorem dL_law_643 : decode cL_law 643 = .ok (.iconst 2, 1) := by decide +kernel
theorem dL_law_644 : decode cL_law 644 = .ok (.iadd, 1) := by decide +kernel
theorem dL_law_645 : decode cL_law 645 = .ok (.iaload, 1) := by decide +kernel
theorem dL_law_646 : decode cL_law 646 = .ok (.invokevirtual 71, 3) := by decide +kernel
theorem dL_law_649 : decode cL_law 649 = .ok (.if_icmp .eq 652, 3) := by decide +kernel
theorem dL_law_652 : decode cL_law 652 = .ok (.iconst 0, 1) := by decide +kernel
theorem dL_law_653 : decode cL_law 653 = .ok (.ireturn, 1) := by decide +kernel
theorem dL_law_654 : decode cL_law 654 = .ok (.aload_n 1, 1) := by decide +kernel
theorem dL_law_655 : decode cL_law 655 = .ok (.aload_n 0, 1) := by decide +kernel
theorem dL_law_656 : decode cL_law 656 = .ok (.iload_n 3, 1) := by decide +kernel
theorem dL_law_657 : decode cL_law 657 = .ok (.iconst 1, 1) := by decide +kernel
theorem dL_law_658 : decode cL_law 658 = .ok (.iadd, 1) := by decide +kernel
theorem dL_law_659 : decode cL_law 659 = .ok (.iaload, 1) := by decide +kernel
theorem dL_law_660 : decode cL_law 660 = .ok (.invokevirtual 72, 3) := by decide +kernel
theorem dL_law_663 : decode cL_law 663 = .ok (.aload_n 2, 1) := by decide +kernel
theorem dL_law_664 : decode cL_law 664 = .ok (.aload_n 0, 1) := by decide +kernel
theorem dL_law_665 : decode cL_law 665 = .ok (.iload_n 3, 1) := by decide +kernel
theorem dL_law_666 : decode cL_law 666 = .ok (.iconst 1, 1) := by decide +kernel
theorem dL_law_667 : decode cL_law 667 = .ok (.iadd, 1) := by decide +kernel
theorem dL_law_668 : decode cL_law 668 = .ok (.iaload, 1) := by decide +kernel
theorem dL_law_669 : decode cL_law 669 = .ok (.invokevirtual 75, 3) := by decide +kernel
theorem dL_law_672 : decode cL_law 672 = .ok (.if_icmp .eq 629, 3) := by decide +kernel
theorem dL_law_675 : decode cL_law 675 = .ok (.iconst 0, 1) := by decide +kernel
theorem dL_law_676 : decode cL_law 676 = .ok (.ireturn, 1) := by decide +kernel
theorem dL_law_677 : decode cL_law 677 = .ok (.aload_n 1, 1) := by decide +kernel
theorem dL_law_678 : decode cL_law 678 = .ok (.aload_n 0, 1) := by decide +kernel
theorem dL_law_679 : decode cL_law 679 = .ok (.iload_n 3, 1) := by decide +kernel
theorem dL_law_680 : decode cL_law 680 = .ok (.iconst 1, 1) := by decide +kernel
theorem dL_law_681 : decode cL_law 681 = .ok (.iadd, 1) := by decide +kernel
theorem dL_law_682 : decode cL_law 682 = .ok (.iaload, 1) := by decide +kernel
theorem dL_law_683 : decode cL_law 683 = .ok (.aload_n 0, 1) := by decide +kernel
theorem dL_law_684 : decode cL_law 684 = .ok (.iload_n 3, 1) := by decide +kernel
theorem dL_law_685 : decode cL_law 685 = .ok (.iconst 2, 1) := by decide +kernel
theorem dL_law_686 : decode cL_law 686 = .ok (.iadd, 1) := by decide +kernel
theorem dL_law_687 : decode cL_law 687 = .ok (.iaload, 1) := by decide +kernel
theorem dL_law_688 : decode cL_law 688 = .ok (.invokevirtual 76, 3) := by decide +kernel
theorem dL_law_691 : decode cL_law 691 = .ok (.aload_n 2, 1) := by decide +kernel
theorem dL_law_692 : decode cL_law 692 = .ok (.aload_n 0, 1) := by decide +kernel
theorem dL_law_693 : decode cL_law 693 = .ok (.iload_n 3, 1) := by decide +kernel
theorem dL_law_694 : decode cL_law 694 = .ok (.iconst 1, 1) := by decide +kernel
theorem dL_law_695 : decode cL_law 695 = .ok (.iadd, 1) := by decide +kernel
theorem dL_law_696 : decode cL_law 696 = .ok (.iaload, 1) := by decide +kernel
theorem dL_law_697 : decode cL_law 697 = .ok (.aload_n 0, 1) := by decide +kernel
theorem dL_law_698 : decode cL_law 698 = .ok (.iload_n 3, 1) := by decide +kernel
theorem dL_law_699 : decode cL_law 699 = .ok (.iconst 2, 1) := by decide +kernel
theorem dL_law_700 : decode cL_law 700 = .ok (.iadd, 1) := by decide +kernel
theorem dL_law_701 : decode cL_law 701 = .ok (.iaload, 1) := by decide +kernel
theorem dL_law_702 : decode cL_law 702 = .ok (.invokevirtual 79, 3) := by decide +kernel
theorem dL_law_705 : decode cL_law 705 = .ok (.if_icmp .eq 596, 3) := by decide +kernel
theorem dL_law_708 : decode cL_law 708 = .ok (.iconst 0, 1) := by decide +kernel
theorem dL_law_709 : decode cL_law 709 = .ok (.ireturn, 1) := by decide +kernel
theorem dL_law_710 : decode cL_law 710 = .ok (.aload_n 1, 1) := by decide +kernel
theorem dL_law_711 : decode cL_law 711 = .ok (.aload_n 0, 1) := by decide +kernel
theorem dL_law_712 : decode cL_law 712 = .ok (.iload_n 3, 1) := by decide +kernel
theorem dL_law_713 : decode cL_law 713 = .ok (.iconst 1, 1) := by decide +kernel
theorem dL_law_714 : decode cL_law 714 = .ok (.iadd, 1) := by decide +kernel
theorem dL_law_715 : decode cL_law 715 = .ok (.iaload, 1) := by decide +kernel
theorem dL_law_716 : decode cL_law 716 = .ok (.aload_n 0, 1) := by decide +kernel
theorem dL_law_717 : decode cL_law 717 = .ok (.iload_n 3, 1) := by decide +kernel
theorem dL_law_718 : decode cL_law 718 = .ok (.iconst 2, 1) := by decide +kernel
theorem dL_law_719 : decode cL_law 719 = .ok (.iadd, 1) := by decide +kernel
theorem dL_law_720 : decode cL_law 720 = .ok (.iaload, 1) := by decide +kernel
theorem dL_law_721 : decode cL_law 721 = .ok (.invokevirtual 80, 3) := by decide +kernel
theorem dL_law_724 : decode cL_law 724 = .ok (.aload_n 2, 1) := by decide +kernel
theorem dL_law_725 : decode cL_law 725 = .ok (.aload_n 0, 1) := by decide +kernel
theorem dL_law_726 : decode cL_law 726 = .ok (.iload_n 3, 1) := by decide +kernel
theorem dL_law_727 : decode cL_law 727 = .ok (.iconst 1, 1) := by decide +kernel
theorem dL_law_728 : decode cL_law 728 = .ok (.iadd, 1) := by decide +kernel
theorem dL_law_729 : decode cL_law 729 = .ok (.iaload, 1) := by decide +kernel
theorem dL_law_730 : decode cL_law 730 = .ok (.aload_n 0, 1) := by decide +kernel
theorem dL_law_731 : decode cL_law 731 = .ok (.iload_n 3, 1) := by decide +kernel
theorem dL_law_732 : decode cL_law 732 = .ok (.iconst 2, 1) := by decide +kernel
theorem dL_law_733 : decode cL_law 733 = .ok (.iadd, 1) := by decide +kernel
theorem dL_law_734 : decode cL_law 734 = .ok (.iaload, 1) := by decide +kernel
theorem dL_law_735 : decode cL_law 735 = .ok (.invokevirtual 83, 3) := by decide +kernel
theorem dL_law_738 : decode cL_law 738 = .ok (.if_icmp .eq 563, 3) := by decide +kernel
theorem dL_law_741 : decode cL_law 741 = .ok (.iconst 0, 1) := by decide +kernel
theorem dL_law_742 : decode cL_law 742 = .ok (.ireturn, 1) := by decide +kernel
theorem dL_law_743 : decode cL_law 743 = .ok (.aload_n 1, 1) := by decide +kernel
theorem dL_law_744 : decode cL_law 744 = .ok (.aload_n 0, 1) := by decide +kernel
theorem dL_law_745 : decode cL_law 745 = .ok (.iload_n 3, 1) := by decide +kernel
theorem dL_law_746 : decode cL_law 746 = .ok (.iconst 1, 1) := by decide +kernel
theorem dL_law_747 : decode cL_law 747 = .ok (.iadd, 1) := by decide +kernel
theorem dL_law_748 : decode cL_law 748 = .ok (.iaload, 1) := by decide +kernel
theorem dL_law_749 : decode cL_law 749 = .ok (.aload_n 0, 1) := by decide +kernel
theorem dL_law_750 : decode cL_law 750 = .ok (.iload_n 3, 1) := by decide +kernel
theorem dL_law_751 : decode cL_law 751 = .ok (.iconst 2, 1) := by decide +kernel
theorem dL_law_752 : decode cL_law 752 = .ok (.iadd, 1) := by decide +kernel
theorem dL_law_753 : decode cL_law 753 = .ok (.iaload, 1) := by decide +kernel
theorem dL_law_754 : decode cL_law 754 = .ok (.invokevirtual 84, 3) := by decide +kernel
theorem dL_law_757 : decode cL_law 757 = .ok (.aload_n 2, 1) := by decide +kernel
theorem dL_law_758 : decode cL_law 758 = .ok (.aload_n 0, 1) := by decide +kernel
theorem dL_law_759 : decode cL_law 759 = .ok (.iload_n 3, 1) := by decide +kernel
theorem dL_law_760 : decode cL_law 760 = .ok (.iconst 1, 1) := by decide +kernel
theorem dL_law_761 : decode cL_law 761 = .ok (.iadd, 1) := by decide +kernel
theorem dL_law_762 : decode cL_law 762 = .ok (.iaload, 1) := by decide +kernel
theorem dL_law_763 : decode cL_law 763 = .ok (.aload_n 0, 1) := by decide +kernel
theorem dL_law_764 : decode cL_law 764 = .ok (.iload_n 3, 1) := by decide +kernel
theorem dL_law_765 : decode cL_law 765 = .ok (.iconst 2, 1) := by decide +kernel
theorem dL_law_766 : decode cL_law 766 = .ok (.iadd, 1) := by decide +kernel
theorem dL_law_767 : decode cL_law 767 = .ok (.iaload, 1) := by decide +kernel
theorem dL_law_768 : decode cL_law 768 = .ok (.invokevirtual 87, 3) := by decide +kernel
theorem dL_law_771 : decode cL_law 771 = .ok (.if_icmp .eq 530, 3) := by decide +kernel
theorem dL_law_774 : decode cL_law 774 = .ok (.iconst 0, 1) := by decide +kernel
theorem dL_law_775 : decode cL_law 775 = .ok (.ireturn, 1) := by decide +kernel
theorem dL_law_776 : decode cL_law 776 = .ok (.aload_n 1, 1) := by decide +kernel
theorem dL_law_777 : decode cL_law 777 = .ok (.aload_n 0, 1) := by decide +kernel
theorem dL_law_778 : decode cL_law 778 = .ok (.iload_n 3, 1) := by decide +kernel
theorem dL_law_779 : decode cL_law 779 = .ok (.iconst 1, 1) := by decide +kernel
theorem dL_law_780 : decode cL_law 780 = .ok (.iadd, 1) := by decide +kernel
theorem dL_law_781 : decode cL_law 781 = .ok (.iaload, 1) := by decide +kernel
theorem dL_law_782 : decode cL_law 782 = .ok (.aload_n 0, 1) := by decide +kernel
theorem dL_law_783 : decode cL_law 783 = .ok (.iload_n 3, 1) := by decide +kernel
theorem dL_law_784 : decode cL_law 784 = .ok (.iconst 2, 1) := by decide +kernel
theorem dL_law_785 : decode cL_law 785 = .ok (.iadd, 1) := by decide +kernel
theorem dL_law_786 : decode cL_law 786 = .ok (.iaload, 1) := by decide +kernel
theorem dL_law_787 : decode cL_law 787 = .ok (.invokevirtual 88, 3) := by decide +kernel
theorem dL_law_790 : decode cL_law 790 = .ok (.aload_n 2, 1) := by decide +kernel
theorem dL_law_791 : decode cL_law 791 = .ok (.aload_n 0, 1) := by decide +kernel
theorem dL_law_792 : decode cL_law 792 = .ok (.iload_n 3, 1) := by decide +kernel
theorem dL_law_793 : decode cL_law 793 = .ok (.iconst 1, 1) := by decide +kernel
theorem dL_law_794 : decode cL_law 794 = .ok (.iadd, 1) := by decide +kernel
theorem dL_law_795 : decode cL_law 795 = .ok (.iaload, 1) := by decide +kernel
theorem dL_law_796 : decode cL_law 796 = .ok (.aload_n 0, 1) := by decide +kernel
theorem dL_law_797 : decode cL_law 797 = .ok (.iload_n 3, 1) := by decide +kernel
theorem dL_law_798 : decode cL_law 798 = .ok (.iconst 2, 1) := by decide +kernel
theorem dL_law_799 : decode cL_law 799 = .ok (.iadd, 1) := by decide +kernel
theorem dL_law_800 : decode cL_law 800 = .ok (.iaload, 1) := by decide +kernel
theorem dL_law_801 : decode cL_law 801 = .ok (.invokevirtual 91, 3) := by decide +kernel
theorem dL_law_804 : decode cL_law 804 = .ok (.if_icmp .eq 497, 3) := by decide +kernel
theorem dL_law_807 : decode cL_law 807 = .ok (.iconst 0, 1) := by decide +kernel
theorem dL_law_808 : decode cL_law 808 = .ok (.ireturn, 1) := by decide +kernel
theorem dL_law_809 : decode cL_law 809 = .ok (.aload_n 1, 1) := by decide +kernel
theorem dL_law_810 : decode cL_law 810 = .ok (.aload_n 0, 1) := by decide +kernel
theorem dL_law_811 : decode cL_law 811 = .ok (.iload_n 3, 1) := by decide +kernel
theorem dL_law_812 : decode cL_law 812 = .ok (.iconst 1, 1) := by decide +kernel
theorem dL_law_813 : decode cL_law 813 = .ok (.iadd, 1) := by decide +kernel
theorem dL_law_814 : decode cL_law 814 = .ok (.iaload, 1) := by decide +kernel
theorem dL_law_815 : decode cL_law 815 = .ok (.aload_n 0, 1) := by decide +kernel
theorem dL_law_816 : decode cL_law 816 = .ok (.iload_n 3, 1) := by decide +kernel
theorem dL_law_817 : decode cL_law 817 = .ok (.iconst 2, 1) := by decide +kernel
theorem dL_law_818 : decode cL_law 818 = .ok (.iadd, 1) := by decide +kernel
theorem dL_law_819 : decode cL_law 819 = .ok (.iaload, 1) := by decide +kernel
theorem dL_law_820 : decode cL_law 820 = .ok (.invokevirtual 92, 3) := by decide +kernel
theorem dL_law_823 : decode cL_law 823 = .ok (.aload_n 2, 1) := by decide +kernel
theorem dL_law_824 : decode cL_law 824 = .ok (.aload_n 0, 1) := by decide +kernel
theorem dL_law_825 : decode cL_law 825 = .ok (.iload_n 3, 1) := by decide +kernel
theorem dL_law_826 : decode cL_law 826 = .ok (.iconst 1, 1) := by decide +kernel
theorem dL_law_827 : decode cL_law 827 = .ok (.iadd, 1) := by decide +kernel
theorem dL_law_828 : decode cL_law 828 = .ok (.iaload, 1) := by decide +kernel
theorem dL_law_829 : decode cL_law 829 = .ok (.aload_n 0, 1) := by decide +kernel
theorem dL_law_830 : decode cL_law 830 = .ok (.iload_n 3, 1) := by decide +kernel
theorem dL_law_831 : decode cL_law 831 = .ok (.iconst 2, 1) := by decide +kernel
theorem dL_law_832 : decode cL_law 832 = .ok (.iadd, 1) := by decide +kernel
theorem dL_law_833 : decode cL_law 833 = .ok (.iaload, 1) := by decide +kernel
theorem dL_law_834 : decode cL_law 834 = .ok (.invokevirtual 95, 3) := by decide +kernel
theorem dL_law_837 : decode cL_law 837 = .ok (.if_icmp .eq 464, 3) := by decide +kernel
theorem dL_law_840 : decode cL_law 840 = .ok (.iconst 0, 1) := by decide +kernel
theorem dL_law_841 : decode cL_law 841 = .ok (.ireturn, 1) := by decide +kernel
theorem dL_law_842 : decode cL_law 842 = .ok (.aload_n 1, 1) := by decide +kernel
theorem dL_law_843 : decode cL_law 843 = .ok (.aload_n 0, 1) := by decide +kernel
theorem dL_law_844 : decode cL_law 844 = .ok (.iload_n 3, 1) := by decide +kernel
theorem dL_law_845 : decode cL_law 845 = .ok (.iconst 1, 1) := by decide +kernel
theorem dL_law_846 : decode cL_law 846 = .ok (.iadd, 1) := by decide +kernel
theorem dL_law_847 : decode cL_law 847 = .ok (.iaload, 1) := by decide +kernel
theorem dL_law_848 : decode cL_law 848 = .ok (.invokevirtual 96, 3) := by decide +kernel
theorem dL_law_851 : decode cL_law 851 = .ok (.aload_n 2, 1) := by decide +kernel
theorem dL_law_852 : decode cL_law 852 = .ok (.aload_n 0, 1) := by decide +kernel
theorem dL_law_853 : decode cL_law 853 = .ok (.iload_n 3, 1) := by decide +kernel
theorem dL_law_854 : decode cL_law 854 = .ok (.iconst 1, 1) := by decide +kernel
theorem dL_law_855 : decode cL_law 855 = .ok (.iadd, 1) := by decide +kernel
theorem dL_law_856 : decode cL_law 856 = .ok (.iaload, 1) := by decide +kernel
theorem dL_law_857 : decode cL_law 857 = .ok (.invokevirtual 99, 3) := by decide +kernel
theorem dL_law_860 : decode cL_law 860 = .ok (.if_icmp .eq 441, 3) := by decide +kernel
theorem dL_law_863 : decode cL_law 863 = .ok (.iconst 0, 1) := by decide +kernel
theorem dL_law_864 : decode cL_law 864 = .ok (.ireturn, 1) := by decide +kernel
theorem dL_law_865 : decode cL_law 865 = .ok (.aload_n 1, 1) := by decide +kernel
theorem dL_law_866 : decode cL_law 866 = .ok (.aload_n 0, 1) := by decide +kernel
theorem dL_law_867 : decode cL_law 867 = .ok (.iload_n 3, 1) := by decide +kernel
theorem dL_law_868 : decode cL_law 868 = .ok (.iconst 1, 1) := by decide +kernel
theorem dL_law_869 : decode cL_law 869 = .ok (.iadd, 1) := by decide +kernel
theorem dL_law_870 : decode cL_law 870 = .ok (.iaload, 1) := by decide +kernel
theorem dL_law_871 : decode cL_law 871 = .ok (.invokevirtual 100, 3) := by decide +kernel
theorem dL_law_874 : decode cL_law 874 = .ok (.aload_n 2, 1) := by decide +kernel
theorem dL_law_875 : decode cL_law 875 = .ok (.aload_n 0, 1) := by decide +kernel
theorem dL_law_876 : decode cL_law 876 = .ok (.iload_n 3, 1) := by decide +kernel
theorem dL_law_877 : decode cL_law 877 = .ok (.iconst 1, 1) := by decide +kernel
theorem dL_law_878 : decode cL_law 878 = .ok (.iadd, 1) := by decide +kernel
theorem dL_law_879 : decode cL_law 879 = .ok (.iaload, 1) := by decide +kernel
theorem dL_law_880 : decode cL_law 880 = .ok (.invokevirtual 103, 3) := by decide +kernel
theorem dL_law_883 : decode cL_law 883 = .ok (.if_icmp .eq 418, 3) := by decide +kernel
theorem dL_law_886 : decode cL_law 886 = .ok (.iconst 0, 1) := by decide +kernel
theorem dL_law_887 : decode cL_law 887 = .ok (.ireturn, 1) := by decide +kernel
theorem dL_law_888 : decode cL_law 888 = .ok (.aload_n 1, 1) := by decide +kernel
theorem dL_law_889 : decode cL_law 889 = .ok (.aload_n 0, 1) := by decide +kernel
theorem dL_law_890 : decode cL_law 890 = .ok (.iload_n 3, 1) := by decide +kernel
theorem dL_law_891 : decode cL_law 891 = .ok (.iconst 1, 1) := by decide +kernel
theorem dL_law_892 : decode cL_law 892 = .ok (.iadd, 1) := by decide +kernel
theorem dL_law_893 : decode cL_law 893 = .ok (.iaload, 1) := by decide +kernel
theorem dL_law_894 : decode cL_law 894 = .ok (.aload_n 0, 1) := by decide +kernel
theorem dL_law_895 : decode cL_law 895 = .ok (.iload_n 3, 1) := by decide +kernel
theorem dL_law_896 : decode cL_law 896 = .ok (.iconst 2, 1) := by decide +kernel
theorem dL_law_897 : decode cL_law 897 = .ok (.iadd, 1) := by decide +kernel
theorem dL_law_898 : decode cL_law 898 = .ok (.iaload, 1) := by decide +kernel
theorem dL_law_899 : decode cL_law 899 = .ok (.invokevirtual 104, 3) := by decide +kernel
theorem dL_law_902 : decode cL_law 902 = .ok (.aload_n 2, 1) := by decide +kernel
theorem dL_law_903 : decode cL_law 903 = .ok (.aload_n 0, 1) := by decide +kernel
theorem dL_law_904 : decode cL_law 904 = .ok (.iload_n 3, 1) := by decide +kernel
theorem dL_law_905 : decode cL_law 905 = .ok (.iconst 1, 1) := by decide +kernel
theorem dL_law_906 : decode cL_law 906 = .ok (.iadd, 1) := by decide +kernel
theorem dL_law_907 : decode cL_law 907 = .ok (.iaload, 1) := by decide +kernel
theorem dL_law_908 : decode cL_law 908 = .ok (.aload_n 0, 1) := by decide +kernel
theorem dL_law_909 : decode cL_law 909 = .ok (.iload_n 3, 1) := by decide +kernel
theorem dL_law_910 : decode cL_law 910 = .ok (.iconst 2, 1) := by decide +kernel
theorem dL_law_911 : decode cL_law 911 = .ok (.iadd, 1) := by decide +kernel
theorem dL_law_912 : decode cL_law 912 = .ok (.iaload, 1) := by decide +kernel
theorem dL_law_913 : decode cL_law 913 = .ok (.invokevirtual 107, 3) := by decide +kernel
theorem dL_law_916 : decode cL_law 916 = .ok (.if_icmp .eq 385, 3) := by decide +kernel
theorem dL_law_919 : decode cL_law 919 = .ok (.iconst 0, 1) := by decide +kernel
theorem dL_law_920 : decode cL_law 920 = .ok (.ireturn, 1) := by decide +kernel
theorem dL_law_921 : decode cL_law 921 = .ok (.aload_n 1, 1) := by decide +kernel
theorem dL_law_922 : decode cL_law 922 = .ok (.invokevirtual 108, 3) := by decide +kernel
theorem dL_law_925 : decode cL_law 925 = .ok (.aload_n 2, 1) := by decide +kernel
theorem dL_law_926 : decode cL_law 926 = .ok (.invokevirtual 112, 3) := by decide +kernel
theorem dL_law_929 : decode cL_law 929 = .ok (.if_icmp .eq 372, 3) := by decide +kernel
theorem dL_law_932 : decode cL_law 932 = .ok (.iconst 0, 1) := by decide +kernel
theorem dL_law_933 : decode cL_law 933 = .ok (.ireturn, 1) := by decide +kernel
theorem dL_law_934 : decode cL_law 934 = .ok (.aload_n 1, 1) := by decide +kernel
theorem dL_law_935 : decode cL_law 935 = .ok (.invokevirtual 113, 3) := by decide +kernel
theorem dL_law_938 : decode cL_law 938 = .ok (.aload_n 2, 1) := by decide +kernel
theorem dL_law_939 : decode cL_law 939 = .ok (.invokevirtual 116, 3) := by decide +kernel
theorem dL_law_942 : decode cL_law 942 = .ok (.if_icmp .eq 359, 3) := by decide +kernel
theorem dL_law_945 : decode cL_law 945 = .ok (.iconst 0, 1) := by decide +kernel
theorem dL_law_946 : decode cL_law 946 = .ok (.ireturn, 1) := by decide +kernel
theorem dL_law_947 : decode cL_law 947 = .ok (.aload_n 1, 1) := by decide +kernel
theorem dL_law_948 : decode cL_law 948 = .ok (.aload_n 0, 1) := by decide +kernel
theorem dL_law_949 : decode cL_law 949 = .ok (.iload_n 3, 1) := by decide +kernel
theorem dL_law_950 : decode cL_law 950 = .ok (.iconst 1, 1) := by decide +kernel
theorem dL_law_951 : decode cL_law 951 = .ok (.iadd, 1) := by decide +kernel
theorem dL_law_952 : decode cL_law 952 = .ok (.iaload, 1) := by decide +kernel
theorem dL_law_953 : decode cL_law 953 = .ok (.aload_n 0, 1) := by decide +kernel
theorem dL_law_954 : decode cL_law 954 = .ok (.iload_n 3, 1) := by decide +kernel
theorem dL_law_955 : decode cL_law 955 = .ok (.iconst 2, 1) := by decide +kernel
theorem dL_law_956 : decode cL_law 956 = .ok (.iadd, 1) := by decide +kernel
theorem dL_law_957 : decode cL_law 957 = .ok (.iaload, 1) := by decide +kernel
theorem dL_law_958 : decode cL_law 958 = .ok (.aload_n 0, 1) := by decide +kernel
theorem dL_law_959 : decode cL_law 959 = .ok (.iload_n 3, 1) := by decide +kernel
theorem dL_law_960 : decode cL_law 960 = .ok (.iconst 3, 1) := by decide +kernel
theorem dL_law_961 : decode cL_law 961 = .ok (.iadd, 1) := by decide +kernel
theorem dL_law_962 : decode cL_law 962 = .ok (.iaload, 1) := by decide +kernel
theorem dL_law_963 : decode cL_law 963 = .ok (.invokevirtual 117, 3) := by decide +kernel
theorem dL_law_966 : decode cL_law 966 = .ok (.aload_n 2, 1) := by decide +kernel
theorem dL_law_967 : decode cL_law 967 = .ok (.aload_n 0, 1) := by decide +kernel
theorem dL_law_968 : decode cL_law 968 = .ok (.iload_n 3, 1) := by decide +kernel
theorem dL_law_969 : decode cL_law 969 = .ok (.iconst 1, 1) := by decide +kernel
theorem dL_law_970 : decode cL_law 970 = .ok (.iadd, 1) := by decide +kernel
theorem dL_law_971 : decode cL_law 971 = .ok (.iaload, 1) := by decide +kernel
theorem dL_law_972 : decode cL_law 972 = .ok (.aload_n 0, 1) := by decide +kernel
theorem dL_law_973 : decode cL_law 973 = .ok (.iload_n 3, 1) := by decide +kernel
theorem dL_law_974 : decode cL_law 974 = .ok (.iconst 2, 1) := by decide +kernel
theorem dL_law_975 : decode cL_law 975 = .ok (.iadd, 1) := by decide +kernel
theorem dL_law_976 : decode cL_law 976 = .ok (.iaload, 1) := by decide +kernel
theorem dL_law_977 : decode cL_law 977 = .ok (.aload_n 0, 1) := by decide +kernel
theorem dL_law_978 : decode cL_law 978 = .ok (.iload_n 3, 1) := by decide +kernel
theorem dL_law_979 : decode cL_law 979 = .ok (.iconst 3, 1) := by decide +kernel
theorem dL_law_980 : decode cL_law 980 = .ok (.iadd, 1) := by decide +kernel
theorem dL_law_981 : decode cL_law 981 = .ok (.iaload, 1) := by decide +kernel
theorem dL_law_982 : decode cL_law 982 = .ok (.invokevirtual 120, 3) := by decide +kernel
theorem dL_law_985 : decode cL_law 985 = .ok (.if_icmp .eq 316, 3) := by decide +kernel
theorem dL_law_988 : decode cL_law 988 = .ok (.iconst 0, 1) := by decide +kernel
theorem dL_law_989 : decode cL_law 989 = .ok (.ireturn, 1) := by decide +kernel
theorem dL_law_990 : decode cL_law 990 = .ok (.aload_n 1, 1) := by decide +kernel
theorem dL_law_991 : decode cL_law 991 = .ok (.aload_n 0, 1) := by decide +kernel
theorem dL_law_992 : decode cL_law 992 = .ok (.iload_n 3, 1) := by decide +kernel
theorem dL_law_993 : decode cL_law 993 = .ok (.iconst 1, 1) := by decide +kernel
theorem dL_law_994 : decode cL_law 994 = .ok (.iadd, 1) := by decide +kernel
theorem dL_law_995 : decode cL_law 995 = .ok (.iaload, 1) := by decide +kernel
theorem dL_law_996 : decode cL_law 996 = .ok (.aload_n 0, 1) := by decide +kernel
theorem dL_law_997 : decode cL_law 997 = .ok (.iload_n 3, 1) := by decide +kernel
theorem dL_law_998 : decode cL_law 998 = .ok (.iconst 2, 1) := by decide +kernel
theorem dL_law_999 : decode cL_law 999 = .ok (.iadd, 1) := by decide +kernel
theorem dL_law_1000 : decode cL_law 1000 = .ok (.iaload, 1) := by decide +kernel
theorem dL_law_1001 : decode cL_law 1001 = .ok (.aload_n 0, 1) := by decide +kernel
theorem dL_law_1002 : decode cL_law 1002 = .ok (.iload_n 3, 1) := by decide +kernel
theorem dL_law_1003 : decode cL_law 1003 = .ok (.iconst 3, 1) := by decide +kernel
theorem dL_law_1004 : decode cL_law 1004 = .ok (.iadd, 1) := by decide +kernel
theorem dL_law_1005 : decode cL_law 1005 = .ok (.iaload, 1) := by decide +kernel
theorem dL_law_1006 : decode cL_law 1006 = .ok (.i2l, 1) := by decide +kernel
theorem dL_law_1007 : decode cL_law 1007 = .ok (.bipush 32, 2) := by decide +kernel
theorem dL_law_1009 : decode cL_law 1009 = .ok (.lshl, 1) := by decide +kernel
theorem dL_law_1010 : decode cL_law 1010 = .ok (.aload_n 0, 1) := by decide +kernel
theorem dL_law_1011 : decode cL_law 1011 = .ok (.iload_n 3, 1) := by decide +kernel
theorem dL_law_1012 : decode cL_law 1012 = .ok (.iconst 4, 1) := by decide +kernel
theorem dL_law_1013 : decode cL_law 1013 = .ok (.iadd, 1) := by decide +kernel
theorem dL_law_1014 : decode cL_law 1014 = .ok (.iaload, 1) := by decide +kernel
theorem dL_law_1015 : decode cL_law 1015 = .ok (.i2l, 1) := by decide +kernel
theorem dL_law_1016 : decode cL_law 1016 = .ok (.ldc2_w 121, 3) := by decide +kernel
theorem dL_law_1019 : decode cL_law 1019 = .ok (.land, 1) := by decide +kernel
theorem dL_law_1020 : decode cL_law 1020 = .ok (.lor, 1) := by decide +kernel
theorem dL_law_1021 : decode cL_law 1021 = .ok (.invokevirtual 123, 3) := by decide +kernel
theorem dL_law_1024 : decode cL_law 1024 = .ok (.aload_n 2, 1) := by decide +kernel
theorem dL_law_1025 : decode cL_law 1025 = .ok (.aload_n 0, 1) := by decide +kernel
theorem dL_law_1026 : decode cL_law 1026 = .ok (.iload_n 3, 1) := by decide +kernel
theorem dL_law_1027 : decode cL_law 1027 = .ok (.iconst 1, 1) := by decide +kernel
theorem dL_law_1028 : decode cL_law 1028 = .ok (.iadd, 1) := by decide +kernel
theorem dL_law_1029 : decode cL_law 1029 = .ok (.iaload, 1) := by decide +kernel
theorem dL_law_1030 : decode cL_law 1030 = .ok (.aload_n 0, 1) := by decide +kernel
theorem dL_law_1031 : decode cL_law 1031 = .ok (.iload_n 3, 1) := by decide +kernel
theorem dL_law_1032 : decode cL_law 1032 = .ok (.iconst 2, 1) := by decide +kernel
theorem dL_law_1033 : decode cL_law 1033 = .ok (.iadd, 1) := by decide +kernel
theorem dL_law_1034 : decode cL_law 1034 = .ok (.iaload, 1) := by decide +kernel
theorem dL_law_1035 : decode cL_law 1035 = .ok (.aload_n 0, 1) := by decide +kernel
theorem dL_law_1036 : decode cL_law 1036 = .ok (.iload_n 3, 1) := by decide +kernel
theorem dL_law_1037 : decode cL_law 1037 = .ok (.iconst 3, 1) := by decide +kernel
theorem dL_law_1038 : decode cL_law 1038 = .ok (.iadd, 1) := by decide +kernel
theorem dL_law_1039 : decode cL_law 1039 = .ok (.iaload, 1) := by decide +kernel
theorem dL_law_1040 : decode cL_law 1040 = .ok (.i2l, 1) := by decide +kernel
theorem dL_law_1041 : decode cL_law 1041 = .ok (.bipush 32, 2) := by decide +kernel
theorem dL_law_1043 : decode cL_law 1043 = .ok (.lshl, 1) := by decide +kernel
theorem dL_law_1044 : decode cL_law 1044 = .ok (.aload_n 0, 1) := by decide +kernel
theorem dL_law_1045 : decode cL_law 1045 = .ok (.iload_n 3, 1) := by decide +kernel
theorem dL_law_1046 : decode cL_law 1046 = .ok (.iconst 4, 1) := by decide +kernel
theorem dL_law_1047 : decode cL_law 1047 = .ok (.iadd, 1) := by decide +kernel
theorem dL_law_1048 : decode cL_law 1048 = .ok (.iaload, 1) := by decide +kernel
theorem dL_law_1049 : decode cL_law 1049 = .ok (.i2l, 1) := by decide +kernel
theorem dL_law_1050 : decode cL_law 1050 = .ok (.ldc2_w 121, 3) := by decide +kernel
theorem dL_law_1053 : decode cL_law 1053 = .ok (.land, 1) := by decide +kernel
theorem dL_law_1054 : decode cL_law 1054 = .ok (.lor, 1) := by decide +kernel
theorem dL_law_1055 : decode cL_law 1055 = .ok (.invokevirtual 127, 3) := by decide +kernel
theorem dL_law_1058 : decode cL_law 1058 = .ok (.lcmp, 1) := by decide +kernel
theorem dL_law_1059 : decode cL_law 1059 = .ok (.ifCond .eq 242, 3) := by decide +kernel
theorem dL_law_1062 : decode cL_law 1062 = .ok (.iconst 0, 1) := by decide +kernel
theorem dL_law_1063 : decode cL_law 1063 = .ok (.ireturn, 1) := by decide +kernel
theorem dL_law_1064 : decode cL_law 1064 = .ok (.aload_n 1, 1) := by decide +kernel
theorem dL_law_1065 : decode cL_law 1065 = .ok (.aload_n 0, 1) := by decide +kernel
theorem dL_law_1066 : decode cL_law 1066 = .ok (.iload_n 3, 1) := by decide +kernel
theorem dL_law_1067 : decode cL_law 1067 = .ok (.iconst 1, 1) := by decide +kernel
theorem dL_law_1068 : decode cL_law 1068 = .ok (.iadd, 1) := by decide +kernel
theorem dL_law_1069 : decode cL_law 1069 = .ok (.iaload, 1) := by decide +kernel
theorem dL_law_1070 : decode cL_law 1070 = .ok (.aload_n 0, 1) := by decide +kernel
theorem dL_law_1071 : decode cL_law 1071 = .ok (.iload_n 3, 1) := by decide +kernel
theorem dL_law_1072 : decode cL_law 1072 = .ok (.iconst 2, 1) := by decide +kernel
theorem dL_law_1073 : decode cL_law 1073 = .ok (.iadd, 1) := by decide +kernel
theorem dL_law_1074 : decode cL_law 1074 = .ok (.iaload, 1) := by decide +kernel
theorem dL_law_1075 : decode cL_law 1075 = .ok (.aload_n 0, 1) := by decide +kernel
theorem dL_law_1076 : decode cL_law 1076 = .ok (.iload_n 3, 1) := by decide +kernel
theorem dL_law_1077 : decode cL_law 1077 = .ok (.iconst 3, 1) := by decide +kernel
theorem dL_law_1078 : decode cL_law 1078 = .ok (.iadd, 1) := by decide +kernel
theorem dL_law_1079 : decode cL_law 1079 = .ok (.iaload, 1) := by decide +kernel
theorem dL_law_1080 : decode cL_law 1080 = .ok (.aload_n 0, 1) := by decide +kernel
theorem dL_law_1081 : decode cL_law 1081 = .ok (.iload_n 3, 1) := by decide +kernel
theorem dL_law_1082 : decode cL_law 1082 = .ok (.iconst 4, 1) := by decide +kernel
theorem dL_law_1083 : decode cL_law 1083 = .ok (.iadd, 1) := by decide +kernel
theorem dL_law_1084 : decode cL_law 1084 = .ok (.iaload, 1) := by decide +kernel
theorem dL_law_1085 : decode cL_law 1085 = .ok (.aload_n 0, 1) := by decide +kernel
theorem dL_law_1086 : decode cL_law 1086 = .ok (.iload_n 3, 1) := by decide +kernel
theorem dL_law_1087 : decode cL_law 1087 = .ok (.iconst 5, 1) := by decide +kernel
theorem dL_law_1088 : decode cL_law 1088 = .ok (.iadd, 1) := by decide +kernel
theorem dL_law_1089 : decode cL_law 1089 = .ok (.iaload, 1) := by decide +kernel
theorem dL_law_1090 : decode cL_law 1090 = .ok (.invokevirtual 128, 3) := by decide +kernel
theorem dL_law_1093 : decode cL_law 1093 = .ok (.aload_n 2, 1) := by decide +kernel
theorem dL_law_1094 : decode cL_law 1094 = .ok (.aload_n 0, 1) := by decide +kernel
theorem dL_law_1095 : decode cL_law 1095 = .ok (.iload_n 3, 1) := by decide +kernel
theorem dL_law_1096 : decode cL_law 1096 = .ok (.iconst 1, 1) := by decide +kernel
theorem dL_law_1097 : decode cL_law 1097 = .ok (.iadd, 1) := by decide +kernel
theorem dL_law_1098 : decode cL_law 1098 = .ok (.iaload, 1) := by decide +kernel
theorem dL_law_1099 : decode cL_law 1099 = .ok (.aload_n 0, 1) := by decide +kernel
theorem dL_law_1100 : decode cL_law 1100 = .ok (.iload_n 3, 1) := by decide +kernel
theorem dL_law_1101 : decode cL_law 1101 = .ok (.iconst 2, 1) := by decide +kernel
theorem dL_law_1102 : decode cL_law 1102 = .ok (.iadd, 1) := by decide +kernel
theorem dL_law_1103 : decode cL_law 1103 = .ok (.iaload, 1) := by decide +kernel
theorem dL_law_1104 : decode cL_law 1104 = .ok (.aload_n 0, 1) := by decide +kernel
theorem dL_law_1105 : decode cL_law 1105 = .ok (.iload_n 3, 1) := by decide +kernel
theorem dL_law_1106 : decode cL_law 1106 = .ok (.iconst 3, 1) := by decide +kernel
theorem dL_law_1107 : decode cL_law 1107 = .ok (.iadd, 1) := by decide +kernel
theorem dL_law_1108 : decode cL_law 1108 = .ok (.iaload, 1) := by decide +kernel
theorem dL_law_1109 : decode cL_law 1109 = .ok (.aload_n 0, 1) := by decide +kernel
theorem dL_law_1110 : decode cL_law 1110 = .ok (.iload_n 3, 1) := by decide +kernel
theorem dL_law_1111 : decode cL_law 1111 = .ok (.iconst 4, 1) := by decide +kernel
theorem dL_law_1112 : decode cL_law 1112 = .ok (.iadd, 1) := by decide +kernel
theorem dL_law_1113 : decode cL_law 1113 = .ok (.iaload, 1) := by decide +kernel
theorem dL_law_1114 : decode cL_law 1114 = .ok (.aload_n 0, 1) := by decide +kernel
theorem dL_law_1115 : decode cL_law 1115 = .ok (.iload_n 3, 1) := by decide +kernel
theorem dL_law_1116 : decode cL_law 1116 = .ok (.iconst 5, 1) := by decide +kernel
theorem dL_law_1117 : decode cL_law 1117 = .ok (.iadd, 1) := by decide +kernel
theorem dL_law_1118 : decode cL_law 1118 = .ok (.iaload, 1) := by decide +kernel
theorem dL_law_1119 : decode cL_law 1119 = .ok (.invokevirtual 132, 3) := by decide +kernel
theorem dL_law_1122 : decode cL_law 1122 = .ok (.if_icmp .eq 179, 3) := by decide +kernel
theorem dL_law_1125 : decode cL_law 1125 = .ok (.iconst 0, 1) := by decide +kernel
theorem dL_law_1126 : decode cL_law 1126 = .ok (.ireturn, 1) := by decide +kernel
theorem dL_law_1127 : decode cL_law 1127 = .ok (.aload_n 1, 1) := by decide +kernel
theorem dL_law_1128 : decode cL_law 1128 = .ok (.aload_n 0, 1) := by decide +kernel
theorem dL_law_1129 : decode cL_law 1129 = .ok (.iload_n 3, 1) := by decide +kernel
theorem dL_law_1130 : decode cL_law 1130 = .ok (.iconst 1, 1) := by decide +kernel
theorem dL_law_1131 : decode cL_law 1131 = .ok (.iadd, 1) := by decide +kernel
theorem dL_law_1132 : decode cL_law 1132 = .ok (.iaload, 1) := by decide +kernel
theorem dL_law_1133 : decode cL_law 1133 = .ok (.invokevirtual 133, 3) := by decide +kernel
theorem dL_law_1136 : decode cL_law 1136 = .ok (.aload_n 2, 1) := by decide +kernel
theorem dL_law_1137 : decode cL_law 1137 = .ok (.aload_n 0, 1) := by decide +kernel
theorem dL_law_1138 : decode cL_law 1138 = .ok (.iload_n 3, 1) := by decide +kernel
theorem dL_law_1139 : decode cL_law 1139 = .ok (.iconst 1, 1) := by decide +kernel
theorem dL_law_1140 : decode cL_law 1140 = .ok (.iadd, 1) := by decide +kernel
theorem dL_law_1141 : decode cL_law 1141 = .ok (.iaload, 1) := by decide +kernel
theorem dL_law_1142 : decode cL_law 1142 = .ok (.invokevirtual 136, 3) := by decide +kernel
theorem dL_law_1145 : decode cL_law 1145 = .ok (.if_icmp .eq 156, 3) := by decide +kernel
theorem dL_law_1148 : decode cL_law 1148 = .ok (.iconst 0, 1) := by decide +kernel
theorem dL_law_1149 : decode cL_law 1149 = .ok (.ireturn, 1) := by decide +kernel
theorem dL_law_1150 : decode cL_law 1150 = .ok (.aload_n 1, 1) := by decide +kernel
theorem dL_law_1151 : decode cL_law 1151 = .ok (.aload_n 0, 1) := by decide +kernel
theorem dL_law_1152 : decode cL_law 1152 = .ok (.iload_n 3, 1) := by decide +kernel
theorem dL_law_1153 : decode cL_law 1153 = .ok (.iconst 1, 1) := by decide +kernel
theorem dL_law_1154 : decode cL_law 1154 = .ok (.iadd, 1) := by decide +kernel
theorem dL_law_1155 : decode cL_law 1155 = .ok (.iaload, 1) := by decide +kernel
theorem dL_law_1156 : decode cL_law 1156 = .ok (.aload_n 0, 1) := by decide +kernel
theorem dL_law_1157 : decode cL_law 1157 = .ok (.iload_n 3, 1) := by decide +kernel
theorem dL_law_1158 : decode cL_law 1158 = .ok (.iconst 2, 1) := by decide +kernel
theorem dL_law_1159 : decode cL_law 1159 = .ok (.iadd, 1) := by decide +kernel
theorem dL_law_1160 : decode cL_law 1160 = .ok (.iaload, 1) := by decide +kernel
theorem dL_law_1161 : decode cL_law 1161 = .ok (.invokevirtual 137, 3) := by decide +kernel
theorem dL_law_1164 : decode cL_law 1164 = .ok (.aload_n 2, 1) := by decide +kernel
theorem dL_law_1165 : decode cL_law 1165 = .ok (.aload_n 0, 1) := by decide +kernel
theorem dL_law_1166 : decode cL_law 1166 = .ok (.iload_n 3, 1) := by decide +kernel
theorem dL_law_1167 : decode cL_law 1167 = .ok (.iconst 1, 1) := by decide +kernel
theorem dL_law_1168 : decode cL_law 1168 = .ok (.iadd, 1) := by decide +kernel
theorem dL_law_1169 : decode cL_law 1169 = .ok (.iaload, 1) := by decide +kernel
theorem dL_law_1170 : decode cL_law 1170 = .ok (.aload_n 0, 1) := by decide +kernel
theorem dL_law_1171 : decode cL_law 1171 = .ok (.iload_n 3, 1) := by decide +kernel
theorem dL_law_1172 : decode cL_law 1172 = .ok (.iconst 2, 1) := by decide +kernel
theorem dL_law_1173 : decode cL_law 1173 = .ok (.iadd, 1) := by decide +kernel
theorem dL_law_1174 : decode cL_law 1174 = .ok (.iaload, 1) := by decide +kernel
theorem dL_law_1175 : decode cL_law 1175 = .ok (.invokevirtual 140, 3) := by decide +kernel
theorem dL_law_1178 : decode cL_law 1178 = .ok (.if_icmp .eq 123, 3) := by decide +kernel
theorem dL_law_1181 : decode cL_law 1181 = .ok (.iconst 0, 1) := by decide +kernel
theorem dL_law_1182 : decode cL_law 1182 = .ok (.ireturn, 1) := by decide +kernel
theorem dL_law_1183 : decode cL_law 1183 = .ok (.aload_n 1, 1) := by decide +kernel
theorem dL_law_1184 : decode cL_law 1184 = .ok (.aload_n 0, 1) := by decide +kernel
theorem dL_law_1185 : decode cL_law 1185 = .ok (.iload_n 3, 1) := by decide +kernel
theorem dL_law_1186 : decode cL_law 1186 = .ok (.iconst 1, 1) := by decide +kernel
theorem dL_law_1187 : decode cL_law 1187 = .ok (.iadd, 1) := by decide +kernel
theorem dL_law_1188 : decode cL_law 1188 = .ok (.iaload, 1) := by decide +kernel
theorem dL_law_1189 : decode cL_law 1189 = .ok (.aload_n 0, 1) := by decide +kernel
theorem dL_law_1190 : decode cL_law 1190 = .ok (.iload_n 3, 1) := by decide +kernel
theorem dL_law_1191 : decode cL_law 1191 = .ok (.iconst 2, 1) := by decide +kernel
theorem dL_law_1192 : decode cL_law 1192 = .ok (.iadd, 1) := by decide +kernel
theorem dL_law_1193 : decode cL_law 1193 = .ok (.iaload, 1) := by decide +kernel
theorem dL_law_1194 : decode cL_law 1194 = .ok (.invokevirtual 141, 3) := by decide +kernel
theorem dL_law_1197 : decode cL_law 1197 = .ok (.aload_n 2, 1) := by decide +kernel
theorem dL_law_1198 : decode cL_law 1198 = .ok (.aload_n 0, 1) := by decide +kernel
theorem dL_law_1199 : decode cL_law 1199 = .ok (.iload_n 3, 1) := by decide +kernel
theorem dL_law_1200 : decode cL_law 1200 = .ok (.iconst 1, 1) := by decide +kernel
theorem dL_law_1201 : decode cL_law 1201 = .ok (.iadd, 1) := by decide +kernel
theorem dL_law_1202 : decode cL_law 1202 = .ok (.iaload, 1) := by decide +kernel
theorem dL_law_1203 : decode cL_law 1203 = .ok (.aload_n 0, 1) := by decide +kernel
theorem dL_law_1204 : decode cL_law 1204 = .ok (.iload_n 3, 1) := by decide +kernel
theorem dL_law_1205 : decode cL_law 1205 = .ok (.iconst 2, 1) := by decide +kernel
theorem dL_law_1206 : decode cL_law 1206 = .ok (.iadd, 1) := by decide +kernel
theorem dL_law_1207 : decode cL_law 1207 = .ok (.iaload, 1) := by decide +kernel
theorem dL_law_1208 : decode cL_law 1208 = .ok (.invokevirtual 144, 3) := by decide +kernel
theorem dL_law_1211 : decode cL_law 1211 = .ok (.if_icmp .eq 90, 3) := by decide +kernel
theorem dL_law_1214 : decode cL_law 1214 = .ok (.iconst 0, 1) := by decide +kernel
theorem dL_law_1215 : decode cL_law 1215 = .ok (.ireturn, 1) := by decide +kernel
theorem dL_law_1216 : decode cL_law 1216 = .ok (.aload_n 1, 1) := by decide +kernel
theorem dL_law_1217 : decode cL_law 1217 = .ok (.invokevirtual 145, 3) := by decide +kernel
theorem dL_law_1220 : decode cL_law 1220 = .ok (.aload_n 2, 1) := by decide +kernel
theorem dL_law_1221 : decode cL_law 1221 = .ok (.invokevirtual 148, 3) := by decide +kernel
theorem dL_law_1224 : decode cL_law 1224 = .ok (.if_icmp .eq 77, 3) := by decide +kernel
theorem dL_law_1227 : decode cL_law 1227 = .ok (.iconst 0, 1) := by decide +kernel
theorem dL_law_1228 : decode cL_law 1228 = .ok (.ireturn, 1) := by decide +kernel
theorem dL_law_1229 : decode cL_law 1229 = .ok (.aload_n 1, 1) := by decide +kernel
theorem dL_law_1230 : decode cL_law 1230 = .ok (.invokevirtual 149, 3) := by decide +kernel
theorem dL_law_1233 : decode cL_law 1233 = .ok (.aload_n 2, 1) := by decide +kernel
theorem dL_law_1234 : decode cL_law 1234 = .ok (.invokevirtual 152, 3) := by decide +kernel
theorem dL_law_1237 : decode cL_law 1237 = .ok (.if_icmp .eq 64, 3) := by decide +kernel
theorem dL_law_1240 : decode cL_law 1240 = .ok (.iconst 0, 1) := by decide +kernel
theorem dL_law_1241 : decode cL_law 1241 = .ok (.ireturn, 1) := by decide +kernel
theorem dL_law_1242 : decode cL_law 1242 = .ok (.aload_n 1, 1) := by decide +kernel
theorem dL_law_1243 : decode cL_law 1243 = .ok (.invokevirtual 153, 3) := by decide +kernel
theorem dL_law_1246 : decode cL_law 1246 = .ok (.aload_n 2, 1) := by decide +kernel
theorem dL_law_1247 : decode cL_law 1247 = .ok (.invokevirtual 156, 3) := by decide +kernel
theorem dL_law_1250 : decode cL_law 1250 = .ok (.if_icmp .eq 51, 3) := by decide +kernel
theorem dL_law_1253 : decode cL_law 1253 = .ok (.iconst 0, 1) := by decide +kernel
theorem dL_law_1254 : decode cL_law 1254 = .ok (.ireturn, 1) := by decide +kernel
theorem dL_law_1255 : decode cL_law 1255 = .ok (.aload_n 1, 1) := by decide +kernel
theorem dL_law_1256 : decode cL_law 1256 = .ok (.aload_n 0, 1) := by decide +kernel
theorem dL_law_1257 : decode cL_law 1257 = .ok (.iload_n 3, 1) := by decide +kernel
theorem dL_law_1258 : decode cL_law 1258 = .ok (.iconst 1, 1) := by decide +kernel
theorem dL_law_1259 : decode cL_law 1259 = .ok (.iadd, 1) := by decide +kernel
theorem dL_law_1260 : decode cL_law 1260 = .ok (.iaload, 1) := by decide +kernel
theorem dL_law_1261 : decode cL_law 1261 = .ok (.invokevirtual 157, 3) := by decide +kernel
theorem dL_law_1264 : decode cL_law 1264 = .ok (.aload_n 2, 1) := by decide +kernel
theorem dL_law_1265 : decode cL_law 1265 = .ok (.aload_n 0, 1) := by decide +kernel
theorem dL_law_1266 : decode cL_law 1266 = .ok (.iload_n 3, 1) := by decide +kernel
theorem dL_law_1267 : decode cL_law 1267 = .ok (.iconst 1, 1) := by decide +kernel
theorem dL_law_1268 : decode cL_law 1268 = .ok (.iadd, 1) := by decide +kernel
theorem dL_law_1269 : decode cL_law 1269 = .ok (.iaload, 1) := by decide +kernel
theorem dL_law_1270 : decode cL_law 1270 = .ok (.invokevirtual 160, 3) := by decide +kernel
theorem dL_law_1273 : decode cL_law 1273 = .ok (.if_icmp .eq 28, 3) := by decide +kernel
theorem dL_law_1276 : decode cL_law 1276 = .ok (.iconst 0, 1) := by decide +kernel
theorem dL_law_1277 : decode cL_law 1277 = .ok (.ireturn, 1) := by decide +kernel
theorem dL_law_1278 : decode cL_law 1278 = .ok (.aload_n 1, 1) := by decide +kernel
theorem dL_law_1279 : decode cL_law 1279 = .ok (.aload_n 0, 1) := by decide +kernel
theorem dL_law_1280 : decode cL_law 1280 = .ok (.iload_n 3, 1) := by decide +kernel
theorem dL_law_1281 : decode cL_law 1281 = .ok (.iconst 1, 1) := by decide +kernel
theorem dL_law_1282 : decode cL_law 1282 = .ok (.iadd, 1) := by decide +kernel
theorem dL_law_1283 : decode cL_law 1283 = .ok (.iaload, 1) := by decide +kernel
theorem dL_law_1284 : decode cL_law 1284 = .ok (.invokevirtual 161, 3) := by decide +kernel
theorem dL_law_1287 : decode cL_law 1287 = .ok (.aload_n 2, 1) := by decide +kernel
theorem dL_law_1288 : decode cL_law 1288 = .ok (.aload_n 0, 1) := by decide +kernel
theorem dL_law_1289 : decode cL_law 1289 = .ok (.iload_n 3, 1) := by decide +kernel
theorem dL_law_1290 : decode cL_law 1290 = .ok (.iconst 1, 1) := by decide +kernel
theorem dL_law_1291 : decode cL_law 1291 = .ok (.iadd, 1) := by decide +kernel
theorem dL_law_1292 : decode cL_law 1292 = .ok (.iaload, 1) := by decide +kernel
theorem dL_law_1293 : decode cL_law 1293 = .ok (.invokevirtual 164, 3) := by decide +kernel
theorem dL_law_1296 : decode cL_law 1296 = .ok (.if_icmp .eq 5, 3) := by decide +kernel
theorem dL_law_1299 : decode cL_law 1299 = .ok (.iconst 0, 1) := by decide +kernel
theorem dL_law_1300 : decode cL_law 1300 = .ok (.ireturn, 1) := by decide +kernel
theorem dL_law_1301 : decode cL_law 1301 = .ok (.iinc 3 6, 3) := by decide +kernel
theorem dL_law_1304 : decode cL_law 1304 = .ok (.goto (-1286), 3) := by decide +kernel
theorem dL_law_1307 : decode cL_law 1307 = .ok (.iconst 1, 1) := by decide +kernel
theorem dL_law_1308 : decode cL_law 1308 = .ok (.ireturn, 1) := by decide +kernel
end
section
/-! The one list of words that all methods use, and my own rows over the kit's. -/
def GL : List Cond := lw_tbl.filter goodWord
theorem GL_of {i : Nat} {w : Cond} (h : lw_tbl[i]? = some w) (hg : goodWord w = true) : w ∈ GL := List.mem_filter.mpr ⟨List.mem_of_getElem? h, hg⟩
theorem GL_all {ws : List Cond} (ps : List Nat) (hp : ws = ps.filterMap (fun i => lw_tbl[i]?)) (h : ws.all goodWord = true) : ∀ w ∈ ws, w ∈ GL := by
  intro w hw
  have h1 := List.all_eq_true.mp h w hw
  rw [hp] at hw
  obtain ⟨i, -, hi⟩ := List.mem_filterMap.mp hw
  exact GL_of hi h1
def TB (U : State) : Prop := (∀ w ∈ GL, ∀ a : Array Value, w.before a U = true) ∧ va_Nw (.methodLinkNest RX0 61 yX4_isWithin RX4) U ∧ va_Nw (.methodLinkNest RX3 53 yX4_isWithin RX4) U
theorem TB.moved {s U : State} (hW : s.WarmedH U.vm) (h : TB s) : TB U := ⟨fun w hw a => word_at hW (good_of_word (List.mem_filter.mp hw).2) (h.1 w hw #[]), va_Nw.warmM hW h.2.1, va_Nw.warmM hW h.2.2⟩
/-- classes and slots, the class of int arrays, of long arrays, of the array of sheets -/
abbrev Ev : Type := va_G × (ClassId × ClassId × ClassId)
abbrev tyE (E : Ev) : List (ClassId × FieldType) := [(E.2.1, .int), (E.2.2.1, .long), (E.2.2.2, .object "CollarNames$Sheet")]
def KK (E : Ev) (U : State) : Prop := va_K E.1 vwCl (tyE E) U ∧ TB U
theorem KK.moved {E : Ev} {s U : State} (hW : s.WarmedH U.vm) (h : KK E s) : KK E U := ⟨va_K.moved hW.alike h.1, TB.moved hW h.2⟩
theorem KK.calling {E : Ev} {U : State} (g : JFrame) (mk : MethodId) (a : Array Value) (h : KK E U) : KK E (U.calling g mk a) := KK.moved (s := U) (U := U.calling g mk a) (State.WarmedH.refl U) h
/-- what stands while a method runs -/
def Cx (p : Program) (R : Room) (s : State) (m : MethodId) (args : Array Value) (meth : Method) (c : Code) (cc : ByteArray) (mL : Nat) (own : String) (ret : Option FieldType) (E : Ev) (rm : Room) : Prop :=
  p.tables.exec = Jvm.exec ∧ c.code = cc ∧ c.maxLocals = mL ∧ s.vm.findClass own = some m.cls ∧ meth.sig.returnType = ret ∧ meth.locks = false ∧ KK E s ∧ R = rm
def Wd (E : Ev) (A : Nat → Prop) (H0 : Heap) (ws : va_W) (H : Heap) (locs : List Loc) : Prop := va_P E.1 vwCl ws H ∧ va_S A H0 H locs
def Dj (A : Nat → Prop) (as : List Nat) : Prop := va_D A (as.map (fun a => (a, (Sum.inr (0, []) : va_E))))
theorem Dj.to {A : Nat → Prop} {as : List Nat} {ws : va_W} (h : Dj A as) (e : ws.map (fun q => q.1) = as) : va_D A ws := by
  subst e
  refine ⟨fun i j p q hi hj hpq => ?_, fun k q hk => ?_⟩
  · exact h.1 i j (p.1, .inr (0, [])) (q.1, .inr (0, [])) (by simp [hi]) (by simp [hj]) hpq
  · exact h.2 k (q.1, .inr (0, [])) (by simp [hk])
theorem Dj.of {A : Nat → Prop} {ws : va_W} (h : va_D A ws) : Dj A (ws.map (fun q => q.1)) := by
  refine ⟨fun i j p q hi hj hpq => ?_, fun k q hk => ?_⟩
  · simp only [List.map_map, List.getElem?_map, Option.map_eq_some_iff] at hi hj
    obtain ⟨x, hx, rfl⟩ := hi
    obtain ⟨y, hy, rfl⟩ := hj
    exact h.1 i j x y hx hy hpq
  · simp only [List.map_map, List.getElem?_map, Option.map_eq_some_iff] at hk
    obtain ⟨x, hx, rfl⟩ := hk
    exact h.2 k x hx
/-- contracts: the world w before, w' u behind -/
def PreC (E : Ev) (w : va_W) (sz : Nat) (U : State) : Prop := U.heap.size = sz ∧ va_P E.1 vwCl w U.heap ∧ KK E U ∧ va_D (fun _ => True) w
def PostC (E : Ev) (A : Nat → Prop) {X : Type} (w' : X → va_W) (u : X) (t : State) : Prop := va_P E.1 vwCl (w' u) t.heap ∧ va_D A (w' u)
def MI {X : Type} (l : Launch) (E : Ev) (y : MethodName) (cc : ByteArray) (mL : Nat) (ty : FieldType) (fr lo mc ms : Nat) (av : List Value) (w : va_W) (post : Int32 → X → Prop) (w' : X → va_W) : Prop :=
  ∀ sz, Met l y [.code y cc mL (some ty)] { frames := fr, cells := mc, slots := ms, locals := lo } (va_Pc av (PreC E w sz)) (va_Qi post (PostC E (va_A w sz) w') (va_A w sz)) mc ms (va_A w sz)
def ML {X : Type} (l : Launch) (E : Ev) (y : MethodName) (cc : ByteArray) (mL : Nat) (ty : FieldType) (fr lo mc ms : Nat) (av : List Value) (w : va_W) (post : Int64 → X → Prop) (w' : X → va_W) : Prop :=
  ∀ sz, Met l y [.code y cc mL (some ty)] { frames := fr, cells := mc, slots := ms, locals := lo } (va_Pc av (PreC E w sz)) (va_Ql post (PostC E (va_A w sz) w') (va_A w sz)) mc ms (va_A w sz)
def MV {X : Type} (l : Launch) (E : Ev) (y : MethodName) (cc : ByteArray) (mL : Nat) (fr lo mc ms : Nat) (av : List Value) (w : va_W) (post : X → Prop) (w' : X → va_W) : Prop :=
  ∀ sz, Met l y [.code y cc mL none] { frames := fr, cells := mc, slots := ms, locals := lo } (va_Pc av (PreC E w sz)) (va_Qv post (PostC E (va_A w sz) w') (va_A w sz)) mc ms (va_A w sz)
/-- a method's body -/
theorem body_intro {l : Launch} {E : Ev} {y : MethodName} {cc : ByteArray} {mL : Nat} {ret : Option FieldType} {fr lo mc ms : Nat} {av : List Value} {w : va_W} {sz : Nat} {Qc : Array Value → State → Outcome → State → Prop} {own : String} (hy : plainName y.cls = true) (ho : y.cls = own) (hle : (lg_sl av).length ≤ mL)
    (body : ∀ (p : Program) (e : Env) (R : Room) (s : State) (m : MethodId) (args : Array Value) (below : List Frame) (meth : Method) (c : Code), args = av.toArray → s.heap.size = sz → Cx p R s m args meth c cc mL own ret E { frames := fr, cells := mc, slots := ms, locals := lo } → (own = y.cls → meth.name = y.name) → Dj (va_A w sz) (w.map (fun q => q.1)) → Wd E (va_A w sz) s.heap w s.heap [] → (∀ q, s.heap.size ≤ q → va_A w sz q) → ∀ ls : Array Slot, lv_has ls mL (lv_args 0 av) →
      W p l e R s m args below meth c s.heap [] 0 0 (MQ below Qc args s mc ms (va_A w sz)) (F0 m 0 ls [])) :
    Met l y [.code y cc mL ret] { frames := fr, cells := mc, slots := ms, locals := lo } (va_Pc av (PreC E w sz)) Qc mc ms (va_A w sz) := by
  refine Met.ofW (cc := cc) (maxL := mL) (ret := ret) hy rfl ?_
  intro p e s m args below meth c s₁ B hml hv
  obtain ⟨rfl, hsz, hP, hK, hD0⟩ := hv
  have hl := lv_entry av (n := mL) hle
  rw [lg_entry_eq]
  exact body p e _ s m _ below meth c rfl hsz ⟨B.exec, B.bytes, hml, by rw [← ho]; exact findClass_of_methodNamed B.named, B.returns, B.notSynchronized, hK, rfl⟩ (fun _ => (name_of_methodNamed B.named B.method).1) (Dj.of hD0.self) ⟨hP, va_S.rf⟩ (fun q h => Or.inr (by rw [← hsz]; exact h)) _ hl
theorem MI_intro {X : Type} {l : Launch} {E : Ev} {y : MethodName} {cc : ByteArray} {mL : Nat} {ty : FieldType} {fr lo mc ms : Nat} {av : List Value} {w : va_W} {post : Int32 → X → Prop} {w' : X → va_W} (own : String) (hy : plainName y.cls = true) (ho : y.cls = own) (hle : (lg_sl av).length ≤ mL)
    (body : ∀ (p : Program) (e : Env) (R : Room) (s : State) (m : MethodId) (args : Array Value) (below : List Frame) (meth : Method) (c : Code) (A : Nat → Prop) (Q : State → Prop), Q = MQ below (va_Qi post (PostC E A w') A) args s mc ms A → Cx p R s m args meth c cc mL own (some ty) E { frames := fr, cells := mc, slots := ms, locals := lo } → Dj A (w.map (fun q => q.1)) → Wd E A s.heap w s.heap [] → (∀ q, s.heap.size ≤ q → A q) → ∀ ls : Array Slot, lv_has ls mL (lv_args 0 av) →
      W p l e R s m args below meth c s.heap [] 0 0 Q (F0 m 0 ls [])) : MI l E y cc mL ty fr lo mc ms av w post w' :=
  fun sz => body_intro hy ho hle (fun p e R s m args below meth c _ hsz hC _ hD hW hA ls hl => body p e R s m args below meth c (va_A w sz) _ rfl hC hD hW hA ls hl)
theorem ML_intro {X : Type} {l : Launch} {E : Ev} {y : MethodName} {cc : ByteArray} {mL : Nat} {ty : FieldType} {fr lo mc ms : Nat} {av : List Value} {w : va_W} {post : Int64 → X → Prop} {w' : X → va_W} (own : String) (hy : plainName y.cls = true) (ho : y.cls = own) (hle : (lg_sl av).length ≤ mL)
    (body : ∀ (p : Program) (e : Env) (R : Room) (s : State) (m : MethodId) (args : Array Value) (below : List Frame) (meth : Method) (c : Code) (A : Nat → Prop) (Q : State → Prop), Q = MQ below (va_Ql post (PostC E A w') A) args s mc ms A → Cx p R s m args meth c cc mL own (some ty) E { frames := fr, cells := mc, slots := ms, locals := lo } → Dj A (w.map (fun q => q.1)) → Wd E A s.heap w s.heap [] → (∀ q, s.heap.size ≤ q → A q) → ∀ ls : Array Slot, lv_has ls mL (lv_args 0 av) →
      W p l e R s m args below meth c s.heap [] 0 0 Q (F0 m 0 ls [])) : ML l E y cc mL ty fr lo mc ms av w post w' :=
  fun sz => body_intro hy ho hle (fun p e R s m args below meth c _ hsz hC _ hD hW hA ls hl => body p e R s m args below meth c (va_A w sz) _ rfl hC hD hW hA ls hl)
theorem MV_intro {X : Type} {l : Launch} {E : Ev} {y : MethodName} {cc : ByteArray} {mL : Nat} {fr lo mc ms : Nat} {av : List Value} {w : va_W} {post : X → Prop} {w' : X → va_W} (own : String) (hy : plainName y.cls = true) (ho : y.cls = own) (hle : (lg_sl av).length ≤ mL)
    (body : ∀ (p : Program) (e : Env) (R : Room) (s : State) (m : MethodId) (args : Array Value) (below : List Frame) (meth : Method) (c : Code) (A : Nat → Prop) (Q : State → Prop), Q = MQ below (va_Qv post (PostC E A w') A) args s mc ms A → Cx p R s m args meth c cc mL own none E { frames := fr, cells := mc, slots := ms, locals := lo } → (own = y.cls → meth.name = y.name) → Dj A (w.map (fun q => q.1)) → Wd E A s.heap w s.heap [] → (∀ q, s.heap.size ≤ q → A q) → ∀ ls : Array Slot, lv_has ls mL (lv_args 0 av) →
      W p l e R s m args below meth c s.heap [] 0 0 Q (F0 m 0 ls [])) : MV l E y cc mL fr lo mc ms av w post w' :=
  fun sz => body_intro hy ho hle (fun p e R s m args below meth c _ hsz hC hn hD hW hA ls hl => body p e R s m args below meth c (va_A w sz) _ rfl hC hn hD hW hA ls hl)
end
section
/-- a field's link: class own, entry idx, to field k of class ci -/
def FL (own : String) (idx ci k : Nat) : Prop := ∃ (C : String) (T : u_T) (N : Nat), vwCl[ci]? = some (C, T, N) ∧ (∀ w ∈ u_ws C T N, w ∈ GL) ∧ k < N ∧ Cond.fieldLink own idx (T k).1 (T k).2.1 (T k).2.2.1 ∈ GL
/-- the same, to be written: not final, of type ty -/
def FP (own : String) (idx ci k : Nat) (ty : FieldType) : Prop := ∃ (C : String) (T : u_T) (N : Nat) (ty0 : Nat → FieldType), vwCl[ci]? = some (C, T, N) ∧ (∀ w ∈ u_ws C T N, w ∈ GL) ∧ k < N ∧ Cond.fieldLink own idx (T k).1 (T k).2.1 (T k).2.2.1 ∈ GL ∧ (T k).2.2.2 = false ∧ parseFieldDescriptor (T k).2.2.1 = some ty ∧ (∀ k, k < N → parseFieldDescriptor (T k).2.2.1 = some (ty0 k)) ∧ (∀ a, a < N → ∀ b, b < N → a ≠ b → (T a).2.1 ≠ (T b).2.1)
def wput (ws : va_W) : List Nat → va_W → va_W
  | i :: is, c :: cs => wput (ws.set i c) is cs
  | _, _ => ws
section ROWS
variable {p : Program} {l : Launch} {e : Env} {R : Room} {s : State} {m : MethodId} {args : Array Value} {below : List Frame} {meth : Method} {c : Code} {H : Heap} {locs : List Loc} {cells slots : Nat} {Q : State → Prop}
variable {cc : ByteArray} {mL pc : Nat} {ls : Array Slot} {rest : List Value} {A : Nat → Prop} {a : Nat} {ws ws' : va_W} {H0 : Heap} {E : Ev} {own : String} {ret : Option FieldType} {rm : Room} {as : List Nat}
theorem r_get (hC : Cx p R s m args meth c cc mL own ret E rm) (hW : Wd E A H0 ws H locs) {idx ci k : Nat} (hf : FL own idx ci k) (q0 : Nat) {fs : List Value} (he : ws[q0]? = some (a, .inr (ci, fs))) {v : Value} (hv : fs[k]? = some v) (hdg : decode cc pc = .ok (.getfield idx, 3))
    (kk : W p l e R s m args below meth c H locs cells slots Q (F0 m (pc + 3) ls (v :: rest))) : W p l e R s m args below meth c H locs cells slots Q (F0 m pc ls (.ref a :: rest)) := by
  obtain ⟨hx, hb, hml, hown, hr, hlk, hK, -⟩ := hC
  obtain ⟨C, T, N, hc, hin, hk, hlink⟩ := hf
  exact va_get hx hb (fun w hw => hK.2.1 w hw args) hin hown hK.1 hW.1 q0 he hc k hk (hK.2.1 _ hlink args) (fun _ h => h) hv hdg kk
theorem r_put (hC : Cx p R s m args meth c cc mL own ret E rm) (hD : Dj A as) (hW : Wd E A H0 ws H locs) {idx ci k : Nat} {ty : FieldType} (hf : FP own idx ci k ty) (q0 : Nat) {fs : List Value} (he : ws[q0]? = some (a, .inr (ci, fs))) {v : Value} (hn : narrow ty v = v) (hfit : fits ty v = true) (hl : k < fs.length) (has : ws.map (fun q => q.1) = as) (hset : ws.set q0 (a, .inr (ci, fs.set k v)) = ws') (hdg : decode cc pc = .ok (.putfield idx, 3))
    (kk : ∀ (H1 : Heap) (locs1 : List Loc), Wd E A H0 ws' H1 locs1 → W p l e R s m args below meth c H1 locs1 cells slots Q (F0 m (pc + 3) ls rest)) : W p l e R s m args below meth c H locs cells slots Q (F0 m pc ls (v :: .ref a :: rest)) := by
  obtain ⟨hx, hb, hml, hown, hr, hlk, hK, -⟩ := hC
  obtain ⟨C, T, N, ty0, hc, hin, hk, hlink, hfin, hd, hty, hnm⟩ := hf
  subst hset
  exact va_put hx hb (fun w hw => hK.2.1 w hw args) hin ty0 hty hnm hown hK.1 hW.1 (hD.to has) hW.2 q0 he hc k hk (hK.2.1 _ hlink args) (fun _ h => h) hfin hd hn hfit hl hdg (fun H1 locs1 h1 _ h3 => kk H1 locs1 ⟨h1, h3⟩)
theorem r_iald (hC : Cx p R s m args meth c cc mL own ret E rm) (hW : Wd E A H0 ws H locs) (q0 : Nat) {n : Nat} {f : Nat → Int32} (he : ws[q0]? = some (a, .inl (E.2.1, n, .inl f))) {i : Int32} (j : Nat) (hi : i = nI j) (hj : j < n) (hn : n < 2 ^ 31) (hdg : decode cc pc = .ok (.iaload, 1))
    (kk : W p l e R s m args below meth c H locs cells slots Q (F0 m (pc + 1) ls (.int (f j) :: rest))) : W p l e R s m args below meth c H locs cells slots Q (F0 m pc ls (.int i :: .ref a :: rest)) := by
  obtain ⟨hx, hb, hml, hown, hr, hlk, hK, -⟩ := hC
  subst hi
  refine va_iald hx hb hK.1 hW.1 q0 0 he rfl (vp_in_nI hj hn) hdg ?_
  rw [nI_clamp (by omega)]
  exact kk
theorem r_lald (hC : Cx p R s m args meth c cc mL own ret E rm) (hW : Wd E A H0 ws H locs) (q0 : Nat) {n : Nat} {f : Nat → Int64} (he : ws[q0]? = some (a, .inl (E.2.2.1, n, .inr (.inl f)))) {i : Int32} (j : Nat) (hi : i = nI j) (hj : j < n) (hn : n < 2 ^ 31) (hdg : decode cc pc = .ok (.laload, 1))
    (kk : W p l e R s m args below meth c H locs cells slots Q (F0 m (pc + 1) ls (.long (f j) :: rest))) : W p l e R s m args below meth c H locs cells slots Q (F0 m pc ls (.int i :: .ref a :: rest)) := by
  obtain ⟨hx, hb, hml, hown, hr, hlk, hK, -⟩ := hC
  subst hi
  refine va_lald hx hb hK.1 hW.1 q0 1 he rfl (vp_in_nI hj hn) hdg ?_
  rw [nI_clamp (by omega)]
  exact kk
theorem r_aald (hC : Cx p R s m args meth c cc mL own ret E rm) (hW : Wd E A H0 ws H locs) (q0 : Nat) {n : Nat} {f : Nat → Option Nat} (he : ws[q0]? = some (a, .inl (E.2.2.2, n, .inr (.inr (.inr (.inr f)))))) {i : Int32} (j : Nat) {b : Nat} (hi : i = nI j) (hj : j < n) (hn : n < 2 ^ 31) (hv : f j = some b) (hdg : decode cc pc = .ok (.aaload, 1))
    (kk : W p l e R s m args below meth c H locs cells slots Q (F0 m (pc + 1) ls (.ref b :: rest))) : W p l e R s m args below meth c H locs cells slots Q (F0 m pc ls (.int i :: .ref a :: rest)) := by
  obtain ⟨hx, hb, hml, hown, hr, hlk, hK, -⟩ := hC
  subst hi
  refine va_aldq hx hb hK.1 hW.1 q0 2 he rfl (vp_in_nI hj hn) hdg ?_
  rw [nI_clamp (by omega), hv]
  exact kk
theorem r_iast (hC : Cx p R s m args meth c cc mL own ret E rm) (hD : Dj A as) (hW : Wd E A H0 ws H locs) (q0 : Nat) {n : Nat} {f : Nat → Int32} (he : ws[q0]? = some (a, .inl (E.2.1, n, .inl f))) {i x : Int32} (j : Nat) (hi : i = nI j) (hj : j < n) (hn : n < 2 ^ 31) (has : ws.map (fun q => q.1) = as) (hset : ws.set q0 (a, .inl (E.2.1, n, .inl (upd f j x))) = ws') (hdg : decode cc pc = .ok (.iastore, 1))
    (kk : ∀ (H1 : Heap) (locs1 : List Loc), Wd E A H0 ws' H1 locs1 → W p l e R s m args below meth c H1 locs1 cells slots Q (F0 m (pc + 1) ls rest)) : W p l e R s m args below meth c H locs cells slots Q (F0 m pc ls (.int x :: .int i :: .ref a :: rest)) := by
  obtain ⟨hx, hb, hml, hown, hr, hlk, hK, -⟩ := hC
  subst hi
  subst hset
  refine va_iast hx hb hK.1 hW.1 (hD.to has) hW.2 q0 0 he rfl (vp_in_nI hj hn) hdg (fun H1 locs1 h1 _ h3 => kk H1 locs1 ⟨?_, h3⟩)
  rw [nI_clamp (by omega)] at h1
  exact h1
theorem r_last (hC : Cx p R s m args meth c cc mL own ret E rm) (hD : Dj A as) (hW : Wd E A H0 ws H locs) (q0 : Nat) {n : Nat} {f : Nat → Int64} (he : ws[q0]? = some (a, .inl (E.2.2.1, n, .inr (.inl f)))) {i : Int32} {x : Int64} (j : Nat) (hi : i = nI j) (hj : j < n) (hn : n < 2 ^ 31) (has : ws.map (fun q => q.1) = as) (hset : ws.set q0 (a, .inl (E.2.2.1, n, .inr (.inl (vp_updL f j x)))) = ws') (hdg : decode cc pc = .ok (.lastore, 1))
    (kk : ∀ (H1 : Heap) (locs1 : List Loc), Wd E A H0 ws' H1 locs1 → W p l e R s m args below meth c H1 locs1 cells slots Q (F0 m (pc + 1) ls rest)) : W p l e R s m args below meth c H locs cells slots Q (F0 m pc ls (.long x :: .int i :: .ref a :: rest)) := by
  obtain ⟨hx, hb, hml, hown, hr, hlk, hK, -⟩ := hC
  subst hi
  subst hset
  refine va_last hx hb hK.1 hW.1 (hD.to has) hW.2 q0 1 he rfl (vp_in_nI hj hn) hdg (fun H1 locs1 h1 _ h3 => kk H1 locs1 ⟨?_, h3⟩)
  rw [nI_clamp (by omega)] at h1
  exact h1
theorem r_ldc (hC : Cx p R s m args meth c cc mL own ret E rm) {idx : Nat} {v : Int32} (hw : Cond.constant own idx v ∈ GL) (hdg : decode cc pc = .ok (.ldc idx, 2)) (kk : W p l e R s m args below meth c H locs cells slots Q (F0 m (pc + 2) ls (.int v :: rest))) : W p l e R s m args below meth c H locs cells slots Q (F0 m pc ls rest) := by
  obtain ⟨hx, hb, hml, hown, hr, hlk, hK, -⟩ := hC
  exact lv_ldc hx hb hown (hK.2.1 _ hw args) hdg kk
theorem r_ldcw (hC : Cx p R s m args meth c cc mL own ret E rm) {idx : Nat} {v : Int32} (hw : Cond.constant own idx v ∈ GL) (hdg : decode cc pc = .ok (.ldc_w idx, 3)) (kk : W p l e R s m args below meth c H locs cells slots Q (F0 m (pc + 3) ls (.int v :: rest))) : W p l e R s m args below meth c H locs cells slots Q (F0 m pc ls rest) := by
  obtain ⟨hx, hb, hml, hown, hr, hlk, hK, -⟩ := hC
  exact lv_ldcw hx hb hown (hK.2.1 _ hw args) hdg kk
theorem r_ldc2 (hC : Cx p R s m args meth c cc mL own ret E rm) {idx : Nat} {v : Int64} (hw : Cond.constantLong own idx v ∈ GL) (hdg : decode cc pc = .ok (.ldc2_w idx, 3)) (kk : W p l e R s m args below meth c H locs cells slots Q (F0 m (pc + 3) ls (.long v :: rest))) : W p l e R s m args below meth c H locs cells slots Q (F0 m pc ls rest) := by
  obtain ⟨hx, hb, hml, hown, hr, hlk, hK, -⟩ := hC
  exact lv_ldc2 hx hb hown (hK.2.1 _ hw args) hdg kk
/-- ends -/
theorem r_iret {X : Type} {post : Int32 → X → Prop} {w' : X → va_W} {mc ms : Nat} (hC : Cx p R s m args meth c cc mL own (some .int) E rm) (hQ : Q = MQ below (va_Qi post (PostC E A w') A) args s mc ms A) (hD : Dj A as) (hW : Wd E A s.heap ws H locs) {v : Int32} (u : X) (hp : post v u) (hws : w' u = ws) (has : ws.map (fun q => q.1) = as) (hdg : decode cc pc = .ok (.ireturn, 1)) : W p l e R s m args below meth c H locs mc ms Q (F0 m pc ls [.int v]) := by
  obtain ⟨hx, hb, hml, hown, hr, hlk, hK, -⟩ := hC
  subst hQ
  subst hws
  exact W.iret hx hb hr (fun t ht _ => ⟨⟨v, u, rfl, hp, by rw [ht]; exact hW.1, hD.to has⟩, hW.2.F ht⟩) hW.2.2.2 hdg hlk
theorem r_zret {X : Type} {post : Int32 → X → Prop} {w' : X → va_W} {mc ms : Nat} (hC : Cx p R s m args meth c cc mL own (some .boolean) E rm) (hQ : Q = MQ below (va_Qi post (PostC E A w') A) args s mc ms A) (hD : Dj A as) (hW : Wd E A s.heap ws H locs) {v : Int32} (hv : v = 0 ∨ v = 1) (u : X) (hp : post v u) (hws : w' u = ws) (has : ws.map (fun q => q.1) = as) (hdg : decode cc pc = .ok (.ireturn, 1)) : W p l e R s m args below meth c H locs mc ms Q (F0 m pc ls [.int v]) := by
  obtain ⟨hx, hb, hml, hown, hr, hlk, hK, -⟩ := hC
  subst hQ
  subst hws
  exact W.zret hx hb hr (by rcases hv with rfl | rfl <;> rfl) (fun t ht _ => ⟨⟨v, u, rfl, hp, by rw [ht]; exact hW.1, hD.to has⟩, hW.2.F ht⟩) hW.2.2.2 hdg hlk
theorem r_lret {X : Type} {post : Int64 → X → Prop} {w' : X → va_W} {mc ms : Nat} (hC : Cx p R s m args meth c cc mL own (some .long) E rm) (hQ : Q = MQ below (va_Ql post (PostC E A w') A) args s mc ms A) (hD : Dj A as) (hW : Wd E A s.heap ws H locs) {v : Int64} (u : X) (hp : post v u) (hws : w' u = ws) (has : ws.map (fun q => q.1) = as) (hdg : decode cc pc = .ok (.lreturn, 1)) : W p l e R s m args below meth c H locs mc ms Q (F0 m pc ls [.long v]) := by
  obtain ⟨hx, hb, hml, hown, hr, hlk, hK, -⟩ := hC
  subst hQ
  subst hws
  exact W.lret hx hb hr (fun t ht _ => ⟨⟨v, u, rfl, hp, by rw [ht]; exact hW.1, hD.to has⟩, hW.2.F ht⟩) hW.2.2.2 hdg hlk
theorem r_vret {X : Type} {post : X → Prop} {w' : X → va_W} {mc ms : Nat} (hC : Cx p R s m args meth c cc mL own none E rm) (hQ : Q = MQ below (va_Qv post (PostC E A w') A) args s mc ms A) (hD : Dj A as) (hW : Wd E A s.heap ws H locs) (u : X) (hp : post u) (hws : w' u = ws) (has : ws.map (fun q => q.1) = as) (hdg : decode cc pc = .ok (.return_, 1)) : W p l e R s m args below meth c H locs mc ms Q (F0 m pc ls []) := by
  obtain ⟨hx, hb, hml, hown, hr, hlk, hK, -⟩ := hC
  subst hQ
  subst hws
  exact W.vret hx hb hr (fun t ht _ => ⟨⟨u, rfl, hp, by rw [ht]; exact hW.1, hD.to has⟩, hW.2.F ht⟩) hW.2.2.2 hdg hlk
end ROWS
end
section
theorem GL_good {ws : List Cond} (h : ∀ w ∈ ws, w ∈ GL) : GoodIn GL ws := fun w hw => ⟨h w hw, good_of_word (List.mem_filter.mp (h w hw)).2⟩
theorem PreC_blind {E : Ev} {av : List Value} {w : va_W} {sz : Nat} : FrameBlind (va_Pc av (PreC E w sz)) := fun a U g mk q => ⟨q.1, q.2.1, q.2.2.1, KK.calling g mk a q.2.2.2.1, q.2.2.2.2⟩
theorem wput_get : ∀ (is : List Nat) (cs ws : va_W), is.length = cs.length → ∀ (k : Nat) (q : Nat × va_E), (wput ws is cs)[k]? = some q → (∃ j : Nat, cs[j]? = some q) ∨ (k ∉ is ∧ ws[k]? = some q)
  | [], [], ws, _, k, q, h => Or.inr ⟨by simp, h⟩
  | [], _ :: _, _, hl, _, _, _ => by simp at hl
  | _ :: _, [], _, hl, _, _, _ => by simp at hl
  | i :: is, c :: cs, ws, hl, k, q, h => by
    have hl' : is.length = cs.length := by simpa using hl
    rcases wput_get is cs (ws.set i c) hl' k q h with ⟨j, hj⟩ | ⟨hn, hk⟩
    · exact Or.inl ⟨j + 1, by simpa using hj⟩
    · by_cases hki : k = i
      · subst hki
        rw [List.getElem?_set] at hk
        simp only [if_true] at hk
        split at hk
        · exact Or.inl ⟨0, by simpa using hk⟩
        · cases hk
      · refine Or.inr ⟨by simp [hki, hn], ?_⟩
        rw [List.getElem?_set] at hk
        rw [if_neg (fun e => hki e.symm)] at hk
        exact hk
theorem join_put {A0 : Nat → Prop} {D : va_G} {cl : List vw_C} {ws wc wn : va_W} {H H1 : Heap} (hP : va_P D cl ws H) (hD : va_D A0 ws) (is : List Nat) (hget : is.map (fun i => ws[i]?) = wc.map some) (hlen : is.length = wn.length) (hk : ∀ q : Nat, q < H.size → ¬ va_A wc H.size q → H1[q]? = H[q]?) (hP1 : va_P D cl wn H1) : va_P D cl (wput ws is wn) H1 := by
  intro k q hq
  rcases wput_get is wn ws hlen k q hq with ⟨j, hj⟩ | ⟨hn, hk'⟩
  · exact hP1 j q hj
  · have hlt := (hP k q hk').lt
    refine (hP k q hk').kept (hk q.1 hlt (fun h => ?_))
    rcases h with ⟨k2, e, h⟩ | h
    · have h1 : (wc.map some)[k2]? = some (some (q.1, e)) := by rw [List.getElem?_map, h]; rfl
      rw [← hget, List.getElem?_map] at h1
      cases hi : is[k2]? with
      | none => rw [hi] at h1; cases h1
      | some i =>
        rw [hi] at h1
        have h2 : ws[i]? = some (q.1, e) := Option.some.inj h1
        have := hD.1 k i q (q.1, e) hk' h2 rfl
        subst this
        exact hn (List.mem_of_getElem? hi)
    · omega
/-- a virtual call's words -/
def LkV (own : String) (idx : Nat) (C : String) (y : MethodName) (cc : ByteArray) (mL n : Nat) (ret : Option FieldType) : Prop := (∀ w ∈ wsV own idx C y [.code y cc mL ret], w ∈ GL) ∧ (y.cls = C ∧ y.cls ≠ "java/lang/invoke/MethodHandle" ∧ y.cls ≠ "java/lang/invoke/VarHandle" ∧ (parseMethodDescriptor y.desc).map (fun d => d.parameters.length) = some n)
/-- a static call's words -/
def LkS (own : String) (idx : Nat) (y : MethodName) (cc : ByteArray) (mL n : Nat) (ret : Option FieldType) : Prop := (∀ w ∈ va_wsS own idx y [.code y cc mL ret], w ∈ GL) ∧ (y.cls ≠ "java/lang/invoke/MethodHandle" ∧ y.cls ≠ "java/lang/invoke/VarHandle" ∧ (parseMethodDescriptor y.desc).map (fun d => d.parameters.length) = some n)
section CALLS
variable {p : Program} {l : Launch} {e : Env} {R : Room} {s : State} {m : MethodId} {args : Array Value} {below : List Frame} {meth : Method} {c : Code} {H : Heap} {locs : List Loc} {cells slots : Nat} {Q : State → Prop}
variable {cc cc' : ByteArray} {mL mL' n pc fr lo idx : Nat} {ls : Array Slot} {rest st As : List Value} {A : Nat → Prop} {b ci : Nat} {ws wc wt : va_W} {H0 : Heap} {E : Ev} {own C : String} {ret : Option FieldType} {ty : FieldType} {rm : Room} {as : List Nat} {y : MethodName} {X : Type} {w' : X → va_W} {fs : List Value} {T : u_T} {N : Nat}
theorem free_put (hD : Dj A as) (hW : Wd E A H0 ws H locs) (hA : ∀ q, H0.size ≤ q → A q) (has : ws.map (fun q => q.1) = as) (is : List Nat) (hget : is.map (fun i => ws[i]?) = wc.map some) : ∀ q, va_A wc H.size q → A q := va_free (hD.to has) hW.2 hA is hget
/-- what a virtual call comes to, whatever it answers -/
theorem r_runV {Qc : Array Value → State → Outcome → State → Prop} (hC : Cx p R s m args meth c cc mL own ret E rm) (hD : Dj A as) (hW : Wd E A H0 ws H locs) {ret' : Option FieldType} (lk : LkV own idx C y cc' mL' n ret')
    (hM : Met l y [.code y cc' mL' ret'] { frames := fr, cells := 0, slots := 0, locals := lo } (va_Pc (.ref b :: As) (PreC E ((b, .inr (ci, fs)) :: wt) H.size)) Qc 0 0 (va_A ((b, .inr (ci, fs)) :: wt) H.size)) (hci : vwCl[ci]? = some (C, T, N)) (hr : fr + 1 ≤ rm.frames ∧ 8 + (mL' + 11) + lo ≤ rm.locals ∧ cells ≤ rm.cells ∧ slots ≤ rm.slots)
    (is : List Nat) (hnd : va_nd is = true) (hget : is.map (fun i => ws[i]?) = (((b, .inr (ci, fs)) :: wt) : va_W).map some) (has : ws.map (fun q => q.1) = as) (hl : ls.size = mL) (hn : As.length = n) (hst : st = As.reverse ++ .ref b :: rest) (hrest : (rest.map fun v => v.category).sum ≤ 8) (hdg : decode cc pc = .ok (.invokevirtual idx, 3)) :
    va_Run p l e R s m args below meth c H locs cells slots 0 0 (F0 m pc ls st) rest (Qc (Value.ref b :: As).toArray) (va_A ((b, .inr (ci, fs)) :: wt) H.size) := by
  obtain ⟨hx, hb, hml, hown, -, -, hK, hRm⟩ := hC
  subst hRm
  have hts : ∀ w ∈ GL, w.before args s = true := fun w hw => hK.2.1 w hw args
  have hPc : va_P E.1 vwCl ((b, .inr (ci, fs)) :: wt) H := by
    refine hW.1.sub is ?_
    have h2 := congrArg (fun z => z.filterMap id) hget
    simpa [List.filterMap_map] using h2
  have hDc : va_D A ((b, .inr (ci, fs)) :: wt) := (hD.to has).sub is hnd hget
  exact va_runV (As := As) (rest := rest) ⟨hx, hb, hml, hown, hts⟩ hM (cwV n hts (GL_good lk.1) rfl rfl rfl lk.2 ⟨hr.1, hr.2.1⟩) ⟨PreC_blind, va_recv hK.1 hPc (q0 := 0) hci rfl, fun U hU hWm => ⟨rfl, by rw [hU], by rw [hU]; exact hPc, KK.moved hWm hK, hDc.weaken (fun _ _ _ _ => trivial)⟩⟩ rfl hn hl hst (lv_room hrest) hdg ⟨hr.2.2.1, hr.2.2.2⟩
theorem r_callVi {post : Int32 → X → Prop} (hC : Cx p R s m args meth c cc mL own ret E rm) (hD : Dj A as) (hW : Wd E A H0 ws H locs) (hA : ∀ q, H0.size ≤ q → A q) (lk : LkV own idx C y cc' mL' n (some ty)) (hM : MI l E y cc' mL' ty fr lo 0 0 (.ref b :: As) ((b, .inr (ci, fs)) :: wt) post w') (hci : vwCl[ci]? = some (C, T, N)) (hr : fr + 1 ≤ rm.frames ∧ 8 + (mL' + 11) + lo ≤ rm.locals ∧ cells ≤ rm.cells ∧ slots ≤ rm.slots)
    (is : List Nat) (hnd : va_nd is = true) (hget : is.map (fun i => ws[i]?) = (((b, .inr (ci, fs)) :: wt) : va_W).map some) (has : ws.map (fun q => q.1) = as) (hlen : ∀ u, is.length = (w' u).length) (hl : ls.size = mL) (hn : As.length = n) (hst : st = As.reverse ++ .ref b :: rest) (hrest : (rest.map fun v => v.category).sum ≤ 8) (hdg : decode cc pc = .ok (.invokevirtual idx, 3))
    (kk : ∀ (r : Int32) (u : X) (H1 : Heap) (locs1 : List Loc), post r u → Wd E A H0 (wput ws is (w' u)) H1 locs1 → W p l e R s m args below meth c H1 locs1 cells slots Q (F0 m (pc + 3) ls (.int r :: rest))) : W p l e R s m args below meth c H locs cells slots Q (F0 m pc ls st) := by
  have hF := free_put hD hW hA has is hget
  exact va_calli (r_runV hC hD hW lk (hM H.size) hci hr is hnd hget has hl hn hst hrest hdg) hW.2 (fun q _ h => hF q h) hF (fun r u t H1 locs1 ht _ hp hB _ hk hS => kk r u H1 locs1 hp ⟨join_put hW.1 (hD.to has) is hget (hlen u) hk (by rw [← ht]; exact hB.1), hS⟩)
theorem r_callVl {post : Int64 → X → Prop} (hC : Cx p R s m args meth c cc mL own ret E rm) (hD : Dj A as) (hW : Wd E A H0 ws H locs) (hA : ∀ q, H0.size ≤ q → A q) (lk : LkV own idx C y cc' mL' n (some ty)) (hM : ML l E y cc' mL' ty fr lo 0 0 (.ref b :: As) ((b, .inr (ci, fs)) :: wt) post w') (hci : vwCl[ci]? = some (C, T, N)) (hr : fr + 1 ≤ rm.frames ∧ 8 + (mL' + 11) + lo ≤ rm.locals ∧ cells ≤ rm.cells ∧ slots ≤ rm.slots)
    (is : List Nat) (hnd : va_nd is = true) (hget : is.map (fun i => ws[i]?) = (((b, .inr (ci, fs)) :: wt) : va_W).map some) (has : ws.map (fun q => q.1) = as) (hlen : ∀ u, is.length = (w' u).length) (hl : ls.size = mL) (hn : As.length = n) (hst : st = As.reverse ++ .ref b :: rest) (hrest : (rest.map fun v => v.category).sum ≤ 8) (hdg : decode cc pc = .ok (.invokevirtual idx, 3))
    (kk : ∀ (r : Int64) (u : X) (H1 : Heap) (locs1 : List Loc), post r u → Wd E A H0 (wput ws is (w' u)) H1 locs1 → W p l e R s m args below meth c H1 locs1 cells slots Q (F0 m (pc + 3) ls (.long r :: rest))) : W p l e R s m args below meth c H locs cells slots Q (F0 m pc ls st) := by
  have hF := free_put hD hW hA has is hget
  exact va_calll (r_runV hC hD hW lk (hM H.size) hci hr is hnd hget has hl hn hst hrest hdg) hW.2 (fun q _ h => hF q h) hF (fun r u t H1 locs1 ht _ hp hB _ hk hS => kk r u H1 locs1 hp ⟨join_put hW.1 (hD.to has) is hget (hlen u) hk (by rw [← ht]; exact hB.1), hS⟩)
theorem r_callVv {post : X → Prop} (hC : Cx p R s m args meth c cc mL own ret E rm) (hD : Dj A as) (hW : Wd E A H0 ws H locs) (hA : ∀ q, H0.size ≤ q → A q) (lk : LkV own idx C y cc' mL' n none) (hM : MV l E y cc' mL' fr lo 0 0 (.ref b :: As) ((b, .inr (ci, fs)) :: wt) post w') (hci : vwCl[ci]? = some (C, T, N)) (hr : fr + 1 ≤ rm.frames ∧ 8 + (mL' + 11) + lo ≤ rm.locals ∧ cells ≤ rm.cells ∧ slots ≤ rm.slots)
    (is : List Nat) (hnd : va_nd is = true) (hget : is.map (fun i => ws[i]?) = (((b, .inr (ci, fs)) :: wt) : va_W).map some) (has : ws.map (fun q => q.1) = as) (hlen : ∀ u, is.length = (w' u).length) (hl : ls.size = mL) (hn : As.length = n) (hst : st = As.reverse ++ .ref b :: rest) (hrest : (rest.map fun v => v.category).sum ≤ 8) (hdg : decode cc pc = .ok (.invokevirtual idx, 3))
    (kk : ∀ (u : X) (H1 : Heap) (locs1 : List Loc), post u → Wd E A H0 (wput ws is (w' u)) H1 locs1 → W p l e R s m args below meth c H1 locs1 cells slots Q (F0 m (pc + 3) ls rest)) : W p l e R s m args below meth c H locs cells slots Q (F0 m pc ls st) := by
  have hF := free_put hD hW hA has is hget
  exact va_callv (r_runV hC hD hW lk (hM H.size) hci hr is hnd hget has hl hn hst hrest hdg) hW.2 (fun q _ h => hF q h) hF (fun u t H1 locs1 ht _ hp hB _ hk hS => kk u H1 locs1 hp ⟨join_put hW.1 (hD.to has) is hget (hlen u) hk (by rw [← ht]; exact hB.1), hS⟩)
/-- a static call of a function: no cell is needed -/
theorem r_runS {Qc : Array Value → State → Outcome → State → Prop} (hC : Cx p R s m args meth c cc mL own ret E rm) {ret' : Option FieldType} (lk : LkS own idx y cc' mL' n ret')
    (hM : Met l y [.code y cc' mL' ret'] { frames := fr, cells := 0, slots := 0, locals := lo } (va_Pc As (PreC E [] H.size)) Qc 0 0 (va_A [] H.size)) (hr : fr + 1 ≤ rm.frames ∧ 8 + (mL' + 11) + lo ≤ rm.locals ∧ cells ≤ rm.cells ∧ slots ≤ rm.slots)
    (hl : ls.size = mL) (hn : As.length = n) (hst : st = As.reverse ++ rest) (hrest : (rest.map fun v => v.category).sum ≤ 8) (hdg : decode cc pc = .ok (.invokestatic idx, 3)) :
    va_Run p l e R s m args below meth c H locs cells slots 0 0 (F0 m pc ls st) rest (Qc As.toArray) (va_A [] H.size) := by
  obtain ⟨hx, hb, hml, hown, -, -, hK, hRm⟩ := hC
  subst hRm
  have hts : ∀ w ∈ GL, w.before args s = true := fun w hw => hK.2.1 w hw args
  exact va_runS (As := As) (rest := rest) ⟨hx, hb, hml, hown, hts⟩ hM (va_cwS n hts (GL_good lk.1) rfl rfl rfl lk.2 ⟨hr.1, hr.2.1⟩) ⟨PreC_blind, fun U hU hWm => ⟨rfl, by rw [hU], fun k q h => by simp at h, KK.moved hWm hK, ⟨fun i j p q h => by simp at h, fun k q h => by simp at h⟩⟩⟩ rfl hn hl hst (lv_room hrest) hdg ⟨hr.2.2.1, hr.2.2.2⟩
theorem r_keep {wk : va_W} (hW : Wd E A H0 ws H locs) (hWd : va_D A ws) {H1 : Heap} {locs1 : List Loc} (hk : ∀ q : Nat, q < H.size → ¬ va_A wk H.size q → H1[q]? = H[q]?) (hwk : wk = []) (hS : va_S A H0 H1 locs1) : Wd E A H0 ws H1 locs1 := by
  subst hwk
  refine ⟨hW.1.kept (fun k q hq => ?_), hS⟩
  have hlt := (hW.1 k q hq).lt
  exact hk q.1 hlt (fun h => by
    rcases h with ⟨k2, e, h⟩ | h
    · simp at h
    · omega)
theorem r_callSi {post : Int32 → X → Prop} (hC : Cx p R s m args meth c cc mL own ret E rm) (hD : Dj A as) (hW : Wd E A H0 ws H locs) (hA : ∀ q, H0.size ≤ q → A q) (lk : LkS own idx y cc' mL' n (some ty)) (hM : MI l E y cc' mL' ty fr lo 0 0 As [] post w') (hr : fr + 1 ≤ rm.frames ∧ 8 + (mL' + 11) + lo ≤ rm.locals ∧ cells ≤ rm.cells ∧ slots ≤ rm.slots)
    (has : ws.map (fun q => q.1) = as) (hl : ls.size = mL) (hn : As.length = n) (hst : st = As.reverse ++ rest) (hrest : (rest.map fun v => v.category).sum ≤ 8) (hdg : decode cc pc = .ok (.invokestatic idx, 3))
    (kk : ∀ (r : Int32) (u : X) (H1 : Heap) (locs1 : List Loc), post r u → Wd E A H0 ws H1 locs1 → W p l e R s m args below meth c H1 locs1 cells slots Q (F0 m (pc + 3) ls (.int r :: rest))) : W p l e R s m args below meth c H locs cells slots Q (F0 m pc ls st) := by
  have hF : ∀ q, va_A [] H.size q → A q := free_put (wc := []) hD hW hA has [] rfl
  exact va_calli (r_runS hC lk (hM H.size) hr hl hn hst hrest hdg) hW.2 (fun q _ h => hF q h) hF (fun r u t H1 locs1 ht _ hp hB _ hk hS => kk r u H1 locs1 hp (r_keep hW (hD.to has) hk rfl hS))
theorem r_callSl {post : Int64 → X → Prop} (hC : Cx p R s m args meth c cc mL own ret E rm) (hD : Dj A as) (hW : Wd E A H0 ws H locs) (hA : ∀ q, H0.size ≤ q → A q) (lk : LkS own idx y cc' mL' n (some ty)) (hM : ML l E y cc' mL' ty fr lo 0 0 As [] post w') (hr : fr + 1 ≤ rm.frames ∧ 8 + (mL' + 11) + lo ≤ rm.locals ∧ cells ≤ rm.cells ∧ slots ≤ rm.slots)
    (has : ws.map (fun q => q.1) = as) (hl : ls.size = mL) (hn : As.length = n) (hst : st = As.reverse ++ rest) (hrest : (rest.map fun v => v.category).sum ≤ 8) (hdg : decode cc pc = .ok (.invokestatic idx, 3))
    (kk : ∀ (r : Int64) (u : X) (H1 : Heap) (locs1 : List Loc), post r u → Wd E A H0 ws H1 locs1 → W p l e R s m args below meth c H1 locs1 cells slots Q (F0 m (pc + 3) ls (.long r :: rest))) : W p l e R s m args below meth c H locs cells slots Q (F0 m pc ls st) := by
  have hF : ∀ q, va_A [] H.size q → A q := free_put (wc := []) hD hW hA has [] rfl
  exact va_calll (r_runS hC lk (hM H.size) hr hl hn hst hrest hdg) hW.2 (fun q _ h => hF q h) hF (fun r u t H1 locs1 ht _ hp hB _ hk hS => kk r u H1 locs1 hp (r_keep hW (hD.to has) hk rfl hS))
/-- the private isWithin of the class around, called from a class inside -/
theorem r_callNi {host : String} {post : Int32 → X → Prop} (hC : Cx p R s m args meth c cc mL own ret E rm) (hD : Dj A as) (hW : Wd E A H0 ws H locs) (hA : ∀ q, H0.size ≤ q → A q) (hnw : va_Nw (.methodLinkNest own idx y host) s) (lk : (∀ w ∈ ([.static y, .initialized y.cls, .code y cc' mL' (some ty)] : List Cond), w ∈ GL) ∧ (y.cls ≠ "java/lang/invoke/MethodHandle" ∧ y.cls ≠ "java/lang/invoke/VarHandle" ∧ (parseMethodDescriptor y.desc).map (fun d => d.parameters.length) = some n)) (hM : MI l E y cc' mL' ty fr lo 0 0 As [] post w') (hr : fr + 1 ≤ rm.frames ∧ 8 + (mL' + 11) + lo ≤ rm.locals ∧ cells ≤ rm.cells ∧ slots ≤ rm.slots)
    (has : ws.map (fun q => q.1) = as) (hl : ls.size = mL) (hn : As.length = n) (hst : st = As.reverse ++ rest) (hrest : (rest.map fun v => v.category).sum ≤ 8) (hdg : decode cc pc = .ok (.invokestatic idx, 3))
    (kk : ∀ (r : Int32) (u : X) (H1 : Heap) (locs1 : List Loc), post r u → Wd E A H0 ws H1 locs1 → W p l e R s m args below meth c H1 locs1 cells slots Q (F0 m (pc + 3) ls (.int r :: rest))) : W p l e R s m args below meth c H locs cells slots Q (F0 m pc ls st) := by
  have hF : ∀ q, va_A [] H.size q → A q := free_put (wc := []) hD hW hA has [] rfl
  obtain ⟨hx, hb, hml, hown, -, -, hK, hRm⟩ := hC
  subst hRm
  have hts : ∀ w ∈ GL, w.before args s = true := fun w hw => hK.2.1 w hw args
  refine va_calli (va_runSN (As := As) (rest := rest) ⟨hx, hb, hml, hown, hts⟩ (hM H.size) ⟨va_cnB n hts (GL_good (fun w hw => lk.1 w (List.mem_cons_of_mem _ (List.mem_cons_of_mem _ hw)))) rfl rfl rfl hnw (hts _ (lk.1 _ (by simp))) lk.2 ⟨hr.1, hr.2.1⟩, hts _ (lk.1 _ (by simp)), trivial⟩ ⟨PreC_blind, fun U hU hWm => ⟨rfl, by rw [hU], fun k q h => by simp at h, KK.moved hWm hK, ⟨fun i j p q h => by simp at h, fun k q h => by simp at h⟩⟩⟩ rfl hn hl hst (lv_room hrest) hdg ⟨hr.2.2.1, hr.2.2.2⟩) hW.2 (fun q _ h => hF q h) hF (fun r u t H1 locs1 ht _ hp hB _ hk hS => kk r u H1 locs1 hp (r_keep hW (hD.to has) hk rfl hS))
end CALLS
end
section
theorem inX0 : ∀ w ∈ u_ws RX0 TX0 14, w ∈ GL := GL_all [110, 112, 114, 116, 118, 120, 122, 124, 126, 128, 130, 132, 134, 136] (by decide +kernel) (by decide +kernel)
theorem inX1 : ∀ w ∈ u_ws RX1 TX1 3, w ∈ GL := GL_all [184, 186, 188] (by decide +kernel) (by decide +kernel)
theorem inX2 : ∀ w ∈ u_ws RX2 TX2 3, w ∈ GL := GL_all [204, 206, 208] (by decide +kernel) (by decide +kernel)
theorem inX3 : ∀ w ∈ u_ws RX3 TX3 6, w ∈ GL := GL_all [161, 163, 165, 167, 169, 171] (by decide +kernel) (by decide +kernel)
theorem inX4 : ∀ w ∈ u_ws RX4 TX4 8, w ∈ GL := GL_all [220, 222, 224, 226, 228, 230, 232, 234] (by decide +kernel) (by decide +kernel)
theorem inX5 : ∀ w ∈ u_ws RX5 TX5 19, w ∈ GL := GL_all [712, 714, 716, 718, 720, 722, 724, 726, 728, 730, 732, 734, 736, 738, 740, 742, 744, 746, 748] (by decide +kernel) (by decide +kernel)
theorem flX0_9 : FL RX0 9 0 0 := ⟨RX0, TX0, 14, rfl, inX0, by decide, GL_of (i := 77) (by decide +kernel) rfl⟩
theorem fpX0_9 : FP RX0 9 0 0 .int := ⟨RX0, TX0, 14, tyX0, rfl, inX0, by decide, GL_of (i := 77) (by decide +kernel) rfl, rfl, rfl, tyX0_ok, nmX0⟩
theorem flX4_65 : FL RX4 65 0 0 := ⟨RX0, TX0, 14, rfl, inX0, by decide, GL_of (i := 78) (by decide +kernel) rfl⟩
theorem fpX4_65 : FP RX4 65 0 0 .int := ⟨RX0, TX0, 14, tyX0, rfl, inX0, by decide, GL_of (i := 78) (by decide +kernel) rfl, rfl, rfl, tyX0_ok, nmX0⟩
theorem flX0_15 : FL RX0 15 0 1 := ⟨RX0, TX0, 14, rfl, inX0, by decide, GL_of (i := 79) (by decide +kernel) rfl⟩
theorem fpX0_15 : FP RX0 15 0 1 .int := ⟨RX0, TX0, 14, tyX0, rfl, inX0, by decide, GL_of (i := 79) (by decide +kernel) rfl, rfl, rfl, tyX0_ok, nmX0⟩
theorem flX4_61 : FL RX4 61 0 1 := ⟨RX0, TX0, 14, rfl, inX0, by decide, GL_of (i := 80) (by decide +kernel) rfl⟩
theorem fpX4_61 : FP RX4 61 0 1 .int := ⟨RX0, TX0, 14, tyX0, rfl, inX0, by decide, GL_of (i := 80) (by decide +kernel) rfl, rfl, rfl, tyX0_ok, nmX0⟩
theorem flX1_108 : FL RX1 108 0 1 := ⟨RX0, TX0, 14, rfl, inX0, by decide, GL_of (i := 81) (by decide +kernel) rfl⟩
theorem fpX1_108 : FP RX1 108 0 1 .int := ⟨RX0, TX0, 14, tyX0, rfl, inX0, by decide, GL_of (i := 81) (by decide +kernel) rfl, rfl, rfl, tyX0_ok, nmX0⟩
theorem flX0_18 : FL RX0 18 0 2 := ⟨RX0, TX0, 14, rfl, inX0, by decide, GL_of (i := 82) (by decide +kernel) rfl⟩
theorem fpX0_18 : FP RX0 18 0 2 .int := ⟨RX0, TX0, 14, tyX0, rfl, inX0, by decide, GL_of (i := 82) (by decide +kernel) rfl, rfl, rfl, tyX0_ok, nmX0⟩
theorem flX1_69 : FL RX1 69 0 2 := ⟨RX0, TX0, 14, rfl, inX0, by decide, GL_of (i := 83) (by decide +kernel) rfl⟩
theorem fpX1_69 : FP RX1 69 0 2 .int := ⟨RX0, TX0, 14, tyX0, rfl, inX0, by decide, GL_of (i := 83) (by decide +kernel) rfl, rfl, rfl, tyX0_ok, nmX0⟩
theorem flX4_85 : FL RX4 85 0 2 := ⟨RX0, TX0, 14, rfl, inX0, by decide, GL_of (i := 84) (by decide +kernel) rfl⟩
theorem fpX4_85 : FP RX4 85 0 2 .int := ⟨RX0, TX0, 14, tyX0, rfl, inX0, by decide, GL_of (i := 84) (by decide +kernel) rfl, rfl, rfl, tyX0_ok, nmX0⟩
theorem flX0_21 : FL RX0 21 0 3 := ⟨RX0, TX0, 14, rfl, inX0, by decide, GL_of (i := 85) (by decide +kernel) rfl⟩
theorem flX4_94 : FL RX4 94 0 3 := ⟨RX0, TX0, 14, rfl, inX0, by decide, GL_of (i := 86) (by decide +kernel) rfl⟩
theorem flX0_25 : FL RX0 25 0 4 := ⟨RX0, TX0, 14, rfl, inX0, by decide, GL_of (i := 87) (by decide +kernel) rfl⟩
theorem flX1_84 : FL RX1 84 0 4 := ⟨RX0, TX0, 14, rfl, inX0, by decide, GL_of (i := 88) (by decide +kernel) rfl⟩
theorem flX4_97 : FL RX4 97 0 4 := ⟨RX0, TX0, 14, rfl, inX0, by decide, GL_of (i := 89) (by decide +kernel) rfl⟩
theorem flX0_28 : FL RX0 28 0 5 := ⟨RX0, TX0, 14, rfl, inX0, by decide, GL_of (i := 90) (by decide +kernel) rfl⟩
theorem flX4_100 : FL RX4 100 0 5 := ⟨RX0, TX0, 14, rfl, inX0, by decide, GL_of (i := 91) (by decide +kernel) rfl⟩
theorem flX0_31 : FL RX0 31 0 6 := ⟨RX0, TX0, 14, rfl, inX0, by decide, GL_of (i := 92) (by decide +kernel) rfl⟩
theorem flX4_103 : FL RX4 103 0 6 := ⟨RX0, TX0, 14, rfl, inX0, by decide, GL_of (i := 93) (by decide +kernel) rfl⟩
theorem flX1_111 : FL RX1 111 0 6 := ⟨RX0, TX0, 14, rfl, inX0, by decide, GL_of (i := 94) (by decide +kernel) rfl⟩
theorem flX0_34 : FL RX0 34 0 7 := ⟨RX0, TX0, 14, rfl, inX0, by decide, GL_of (i := 95) (by decide +kernel) rfl⟩
theorem fpX0_34 : FP RX0 34 0 7 .int := ⟨RX0, TX0, 14, tyX0, rfl, inX0, by decide, GL_of (i := 95) (by decide +kernel) rfl, rfl, rfl, tyX0_ok, nmX0⟩
theorem flX1_91 : FL RX1 91 0 7 := ⟨RX0, TX0, 14, rfl, inX0, by decide, GL_of (i := 96) (by decide +kernel) rfl⟩
theorem fpX1_91 : FP RX1 91 0 7 .int := ⟨RX0, TX0, 14, tyX0, rfl, inX0, by decide, GL_of (i := 96) (by decide +kernel) rfl, rfl, rfl, tyX0_ok, nmX0⟩
theorem flX4_129 : FL RX4 129 0 7 := ⟨RX0, TX0, 14, rfl, inX0, by decide, GL_of (i := 97) (by decide +kernel) rfl⟩
theorem fpX4_129 : FP RX4 129 0 7 .int := ⟨RX0, TX0, 14, tyX0, rfl, inX0, by decide, GL_of (i := 97) (by decide +kernel) rfl, rfl, rfl, tyX0_ok, nmX0⟩
theorem flX0_37 : FL RX0 37 0 8 := ⟨RX0, TX0, 14, rfl, inX0, by decide, GL_of (i := 98) (by decide +kernel) rfl⟩
theorem flX4_136 : FL RX4 136 0 8 := ⟨RX0, TX0, 14, rfl, inX0, by decide, GL_of (i := 99) (by decide +kernel) rfl⟩
theorem flX0_40 : FL RX0 40 0 9 := ⟨RX0, TX0, 14, rfl, inX0, by decide, GL_of (i := 100) (by decide +kernel) rfl⟩
theorem flX4_139 : FL RX4 139 0 9 := ⟨RX0, TX0, 14, rfl, inX0, by decide, GL_of (i := 101) (by decide +kernel) rfl⟩
theorem flX0_43 : FL RX0 43 0 10 := ⟨RX0, TX0, 14, rfl, inX0, by decide, GL_of (i := 102) (by decide +kernel) rfl⟩
theorem flX1_100 : FL RX1 100 0 10 := ⟨RX0, TX0, 14, rfl, inX0, by decide, GL_of (i := 103) (by decide +kernel) rfl⟩
theorem flX4_142 : FL RX4 142 0 10 := ⟨RX0, TX0, 14, rfl, inX0, by decide, GL_of (i := 104) (by decide +kernel) rfl⟩
theorem flX0_46 : FL RX0 46 0 11 := ⟨RX0, TX0, 14, rfl, inX0, by decide, GL_of (i := 105) (by decide +kernel) rfl⟩
theorem flX1_105 : FL RX1 105 0 11 := ⟨RX0, TX0, 14, rfl, inX0, by decide, GL_of (i := 106) (by decide +kernel) rfl⟩
theorem flX4_145 : FL RX4 145 0 11 := ⟨RX0, TX0, 14, rfl, inX0, by decide, GL_of (i := 107) (by decide +kernel) rfl⟩
theorem flX0_49 : FL RX0 49 0 12 := ⟨RX0, TX0, 14, rfl, inX0, by decide, GL_of (i := 108) (by decide +kernel) rfl⟩
theorem flX0_52 : FL RX0 52 0 13 := ⟨RX0, TX0, 14, rfl, inX0, by decide, GL_of (i := 109) (by decide +kernel) rfl⟩
theorem flX3_9 : FL RX3 9 3 0 := ⟨RX3, TX3, 6, rfl, inX3, by decide, GL_of (i := 150) (by decide +kernel) rfl⟩
theorem flX3_15 : FL RX3 15 3 1 := ⟨RX3, TX3, 6, rfl, inX3, by decide, GL_of (i := 151) (by decide +kernel) rfl⟩
theorem fpX3_15 : FP RX3 15 3 1 .int := ⟨RX3, TX3, 6, tyX3, rfl, inX3, by decide, GL_of (i := 151) (by decide +kernel) rfl, rfl, rfl, tyX3_ok, nmX3⟩
theorem flX1_28 : FL RX1 28 3 1 := ⟨RX3, TX3, 6, rfl, inX3, by decide, GL_of (i := 152) (by decide +kernel) rfl⟩
theorem fpX1_28 : FP RX1 28 3 1 .int := ⟨RX3, TX3, 6, tyX3, rfl, inX3, by decide, GL_of (i := 152) (by decide +kernel) rfl, rfl, rfl, tyX3_ok, nmX3⟩
theorem flX4_173 : FL RX4 173 3 1 := ⟨RX3, TX3, 6, rfl, inX3, by decide, GL_of (i := 153) (by decide +kernel) rfl⟩
theorem fpX4_173 : FP RX4 173 3 1 .int := ⟨RX3, TX3, 6, tyX3, rfl, inX3, by decide, GL_of (i := 153) (by decide +kernel) rfl, rfl, rfl, tyX3_ok, nmX3⟩
theorem flX1_38 : FL RX1 38 3 2 := ⟨RX3, TX3, 6, rfl, inX3, by decide, GL_of (i := 154) (by decide +kernel) rfl⟩
theorem fpX1_38 : FP RX1 38 3 2 .int := ⟨RX3, TX3, 6, tyX3, rfl, inX3, by decide, GL_of (i := 154) (by decide +kernel) rfl, rfl, rfl, tyX3_ok, nmX3⟩
theorem flX3_22 : FL RX3 22 3 2 := ⟨RX3, TX3, 6, rfl, inX3, by decide, GL_of (i := 155) (by decide +kernel) rfl⟩
theorem fpX3_22 : FP RX3 22 3 2 .int := ⟨RX3, TX3, 6, tyX3, rfl, inX3, by decide, GL_of (i := 155) (by decide +kernel) rfl, rfl, rfl, tyX3_ok, nmX3⟩
theorem flX3_25 : FL RX3 25 3 3 := ⟨RX3, TX3, 6, rfl, inX3, by decide, GL_of (i := 156) (by decide +kernel) rfl⟩
theorem fpX3_25 : FP RX3 25 3 3 .int := ⟨RX3, TX3, 6, tyX3, rfl, inX3, by decide, GL_of (i := 156) (by decide +kernel) rfl, rfl, rfl, tyX3_ok, nmX3⟩
theorem flX4_186 : FL RX4 186 3 3 := ⟨RX3, TX3, 6, rfl, inX3, by decide, GL_of (i := 157) (by decide +kernel) rfl⟩
theorem fpX4_186 : FP RX4 186 3 3 .int := ⟨RX3, TX3, 6, tyX3, rfl, inX3, by decide, GL_of (i := 157) (by decide +kernel) rfl, rfl, rfl, tyX3_ok, nmX3⟩
theorem flX3_28 : FL RX3 28 3 4 := ⟨RX3, TX3, 6, rfl, inX3, by decide, GL_of (i := 158) (by decide +kernel) rfl⟩
theorem fpX3_28 : FP RX3 28 3 4 .int := ⟨RX3, TX3, 6, tyX3, rfl, inX3, by decide, GL_of (i := 158) (by decide +kernel) rfl, rfl, rfl, tyX3_ok, nmX3⟩
theorem flX3_31 : FL RX3 31 3 5 := ⟨RX3, TX3, 6, rfl, inX3, by decide, GL_of (i := 159) (by decide +kernel) rfl⟩
theorem fpX3_31 : FP RX3 31 3 5 .int := ⟨RX3, TX3, 6, tyX3, rfl, inX3, by decide, GL_of (i := 159) (by decide +kernel) rfl, rfl, rfl, tyX3_ok, nmX3⟩
theorem flX1_88 : FL RX1 88 3 5 := ⟨RX3, TX3, 6, rfl, inX3, by decide, GL_of (i := 160) (by decide +kernel) rfl⟩
theorem fpX1_88 : FP RX1 88 3 5 .int := ⟨RX3, TX3, 6, tyX3, rfl, inX3, by decide, GL_of (i := 160) (by decide +kernel) rfl, rfl, rfl, tyX3_ok, nmX3⟩
theorem flX1_9 : FL RX1 9 1 0 := ⟨RX1, TX1, 3, rfl, inX1, by decide, GL_of (i := 180) (by decide +kernel) rfl⟩
theorem flX1_15 : FL RX1 15 1 1 := ⟨RX1, TX1, 3, rfl, inX1, by decide, GL_of (i := 181) (by decide +kernel) rfl⟩
theorem flX1_19 : FL RX1 19 1 2 := ⟨RX1, TX1, 3, rfl, inX1, by decide, GL_of (i := 182) (by decide +kernel) rfl⟩
theorem fpX1_19 : FP RX1 19 1 2 .int := ⟨RX1, TX1, 3, tyX1, rfl, inX1, by decide, GL_of (i := 182) (by decide +kernel) rfl, rfl, rfl, tyX1_ok, nmX1⟩
theorem flX4_193 : FL RX4 193 1 2 := ⟨RX1, TX1, 3, rfl, inX1, by decide, GL_of (i := 183) (by decide +kernel) rfl⟩
theorem fpX4_193 : FP RX4 193 1 2 .int := ⟨RX1, TX1, 3, tyX1, rfl, inX1, by decide, GL_of (i := 183) (by decide +kernel) rfl, rfl, rfl, tyX1_ok, nmX1⟩
theorem flX2_9 : FL RX2 9 2 0 := ⟨RX2, TX2, 3, rfl, inX2, by decide, GL_of (i := 198) (by decide +kernel) rfl⟩
theorem flX4_207 : FL RX4 207 2 0 := ⟨RX2, TX2, 3, rfl, inX2, by decide, GL_of (i := 199) (by decide +kernel) rfl⟩
theorem flX2_15 : FL RX2 15 2 1 := ⟨RX2, TX2, 3, rfl, inX2, by decide, GL_of (i := 200) (by decide +kernel) rfl⟩
theorem fpX2_15 : FP RX2 15 2 1 .int := ⟨RX2, TX2, 3, tyX2, rfl, inX2, by decide, GL_of (i := 200) (by decide +kernel) rfl, rfl, rfl, tyX2_ok, nmX2⟩
theorem flX4_218 : FL RX4 218 2 1 := ⟨RX2, TX2, 3, rfl, inX2, by decide, GL_of (i := 201) (by decide +kernel) rfl⟩
theorem fpX4_218 : FP RX4 218 2 1 .int := ⟨RX2, TX2, 3, tyX2, rfl, inX2, by decide, GL_of (i := 201) (by decide +kernel) rfl, rfl, rfl, tyX2_ok, nmX2⟩
theorem flX2_19 : FL RX2 19 2 2 := ⟨RX2, TX2, 3, rfl, inX2, by decide, GL_of (i := 202) (by decide +kernel) rfl⟩
theorem fpX2_19 : FP RX2 19 2 2 .int := ⟨RX2, TX2, 3, tyX2, rfl, inX2, by decide, GL_of (i := 202) (by decide +kernel) rfl, rfl, rfl, tyX2_ok, nmX2⟩
theorem flX4_203 : FL RX4 203 2 2 := ⟨RX2, TX2, 3, rfl, inX2, by decide, GL_of (i := 203) (by decide +kernel) rfl⟩
theorem fpX4_203 : FP RX4 203 2 2 .int := ⟨RX2, TX2, 3, tyX2, rfl, inX2, by decide, GL_of (i := 203) (by decide +kernel) rfl, rfl, rfl, tyX2_ok, nmX2⟩
theorem flX4_10 : FL RX4 10 4 0 := ⟨RX4, TX4, 8, rfl, inX4, by decide, GL_of (i := 212) (by decide +kernel) rfl⟩
theorem flX4_16 : FL RX4 16 4 1 := ⟨RX4, TX4, 8, rfl, inX4, by decide, GL_of (i := 213) (by decide +kernel) rfl⟩
theorem flX4_19 : FL RX4 19 4 2 := ⟨RX4, TX4, 8, rfl, inX4, by decide, GL_of (i := 214) (by decide +kernel) rfl⟩
theorem flX4_22 : FL RX4 22 4 3 := ⟨RX4, TX4, 8, rfl, inX4, by decide, GL_of (i := 215) (by decide +kernel) rfl⟩
theorem fpX4_22 : FP RX4 22 4 3 .boolean := ⟨RX4, TX4, 8, tyX4, rfl, inX4, by decide, GL_of (i := 215) (by decide +kernel) rfl, rfl, rfl, tyX4_ok, nmX4⟩
theorem flX4_29 : FL RX4 29 4 4 := ⟨RX4, TX4, 8, rfl, inX4, by decide, GL_of (i := 216) (by decide +kernel) rfl⟩
theorem flX4_38 : FL RX4 38 4 5 := ⟨RX4, TX4, 8, rfl, inX4, by decide, GL_of (i := 217) (by decide +kernel) rfl⟩
theorem flX4_44 : FL RX4 44 4 6 := ⟨RX4, TX4, 8, rfl, inX4, by decide, GL_of (i := 218) (by decide +kernel) rfl⟩
theorem flX4_49 : FL RX4 49 4 7 := ⟨RX4, TX4, 8, rfl, inX4, by decide, GL_of (i := 219) (by decide +kernel) rfl⟩
theorem flX5_7 : FL RX5 7 5 0 := ⟨RX5, TX5, 19, rfl, inX5, by decide, GL_of (i := 693) (by decide +kernel) rfl⟩
theorem flX5_13 : FL RX5 13 5 1 := ⟨RX5, TX5, 19, rfl, inX5, by decide, GL_of (i := 694) (by decide +kernel) rfl⟩
theorem flX5_16 : FL RX5 16 5 2 := ⟨RX5, TX5, 19, rfl, inX5, by decide, GL_of (i := 695) (by decide +kernel) rfl⟩
theorem flX5_19 : FL RX5 19 5 3 := ⟨RX5, TX5, 19, rfl, inX5, by decide, GL_of (i := 696) (by decide +kernel) rfl⟩
theorem flX5_22 : FL RX5 22 5 4 := ⟨RX5, TX5, 19, rfl, inX5, by decide, GL_of (i := 697) (by decide +kernel) rfl⟩
theorem flX5_167 : FL RX5 167 5 5 := ⟨RX5, TX5, 19, rfl, inX5, by decide, GL_of (i := 698) (by decide +kernel) rfl⟩
theorem fpX5_167 : FP RX5 167 5 5 .int := ⟨RX5, TX5, 19, tyX5, rfl, inX5, by decide, GL_of (i := 698) (by decide +kernel) rfl, rfl, rfl, tyX5_ok, nmX5⟩
theorem flX5_186 : FL RX5 186 5 6 := ⟨RX5, TX5, 19, rfl, inX5, by decide, GL_of (i := 699) (by decide +kernel) rfl⟩
theorem fpX5_186 : FP RX5 186 5 6 .int := ⟨RX5, TX5, 19, tyX5, rfl, inX5, by decide, GL_of (i := 699) (by decide +kernel) rfl, rfl, rfl, tyX5_ok, nmX5⟩
theorem flX5_174 : FL RX5 174 5 7 := ⟨RX5, TX5, 19, rfl, inX5, by decide, GL_of (i := 700) (by decide +kernel) rfl⟩
theorem fpX5_174 : FP RX5 174 5 7 .int := ⟨RX5, TX5, 19, tyX5, rfl, inX5, by decide, GL_of (i := 700) (by decide +kernel) rfl, rfl, rfl, tyX5_ok, nmX5⟩
theorem flX5_171 : FL RX5 171 5 8 := ⟨RX5, TX5, 19, rfl, inX5, by decide, GL_of (i := 701) (by decide +kernel) rfl⟩
theorem fpX5_171 : FP RX5 171 5 8 .int := ⟨RX5, TX5, 19, tyX5, rfl, inX5, by decide, GL_of (i := 701) (by decide +kernel) rfl, rfl, rfl, tyX5_ok, nmX5⟩
theorem flX5_189 : FL RX5 189 5 9 := ⟨RX5, TX5, 19, rfl, inX5, by decide, GL_of (i := 702) (by decide +kernel) rfl⟩
theorem fpX5_189 : FP RX5 189 5 9 .long := ⟨RX5, TX5, 19, tyX5, rfl, inX5, by decide, GL_of (i := 702) (by decide +kernel) rfl, rfl, rfl, tyX5_ok, nmX5⟩
theorem flX5_193 : FL RX5 193 5 10 := ⟨RX5, TX5, 19, rfl, inX5, by decide, GL_of (i := 703) (by decide +kernel) rfl⟩
theorem fpX5_193 : FP RX5 193 5 10 .int := ⟨RX5, TX5, 19, tyX5, rfl, inX5, by decide, GL_of (i := 703) (by decide +kernel) rfl, rfl, rfl, tyX5_ok, nmX5⟩
theorem flX5_224 : FL RX5 224 5 11 := ⟨RX5, TX5, 19, rfl, inX5, by decide, GL_of (i := 704) (by decide +kernel) rfl⟩
theorem fpX5_224 : FP RX5 224 5 11 .boolean := ⟨RX5, TX5, 19, tyX5, rfl, inX5, by decide, GL_of (i := 704) (by decide +kernel) rfl, rfl, rfl, tyX5_ok, nmX5⟩
theorem flX5_25 : FL RX5 25 5 12 := ⟨RX5, TX5, 19, rfl, inX5, by decide, GL_of (i := 705) (by decide +kernel) rfl⟩
theorem flX5_28 : FL RX5 28 5 13 := ⟨RX5, TX5, 19, rfl, inX5, by decide, GL_of (i := 706) (by decide +kernel) rfl⟩
theorem flX5_31 : FL RX5 31 5 14 := ⟨RX5, TX5, 19, rfl, inX5, by decide, GL_of (i := 707) (by decide +kernel) rfl⟩
theorem flX5_35 : FL RX5 35 5 15 := ⟨RX5, TX5, 19, rfl, inX5, by decide, GL_of (i := 708) (by decide +kernel) rfl⟩
theorem flX5_38 : FL RX5 38 5 16 := ⟨RX5, TX5, 19, rfl, inX5, by decide, GL_of (i := 709) (by decide +kernel) rfl⟩
theorem flX5_41 : FL RX5 41 5 17 := ⟨RX5, TX5, 19, rfl, inX5, by decide, GL_of (i := 710) (by decide +kernel) rfl⟩
theorem flX5_282 : FL RX5 282 5 18 := ⟨RX5, TX5, 19, rfl, inX5, by decide, GL_of (i := 711) (by decide +kernel) rfl⟩
theorem fpX5_282 : FP RX5 282 5 18 .boolean := ⟨RX5, TX5, 19, tyX5, rfl, inX5, by decide, GL_of (i := 711) (by decide +kernel) rfl, rfl, rfl, tyX5_ok, nmX5⟩
theorem lkX3_19 : LkV RX3 19 RX3 yX3_rewind cX3_rewind 1 0 none := ⟨GL_all [146, 147, 148, 52, 149] (by decide +kernel) (by decide +kernel), by decide +kernel⟩
theorem lkL_13 : LkV RL 13 RX4 yX4_heat cX4_heat 3 1 (some .int) := ⟨GL_all [237, 238, 239, 50, 240] (by decide +kernel) (by decide +kernel), by decide +kernel⟩
theorem lkX4_53 : LkS RX4 53 yX4_isWithin cX4_isWithin 3 3 (some .boolean) := ⟨GL_all [241, 242, 50, 243] (by decide +kernel) (by decide +kernel), by decide +kernel⟩
theorem lkX4_57 : LkV RX4 57 RX4 yX4_finding cX4_finding 2 1 (some .int) := ⟨GL_all [244, 246, 0, 50, 247] (by decide +kernel) (by decide +kernel), by decide +kernel⟩
theorem lkL_18 : LkV RL 18 RX4 yX4_now cX4_now 2 1 (some .int) := ⟨GL_all [249, 250, 251, 50, 252] (by decide +kernel) (by decide +kernel), by decide +kernel⟩
theorem lkX4_68 : LkV RX4 68 RX0 yX0_setHeldBy cX0_setHeldBy 4 1 (some .int) := ⟨GL_all [253, 254, 255, 51, 256] (by decide +kernel) (by decide +kernel), by decide +kernel⟩
theorem lkX4_71 : LkV RX4 71 RX0 yX0_setOfRight cX0_setOfRight 3 0 (some .int) := ⟨GL_all [257, 258, 259, 51, 260] (by decide +kernel) (by decide +kernel), by decide +kernel⟩
theorem lkX0_65 : LkV RX0 65 RX0 yX0_isRight cX0_isRight 2 1 (some .boolean) := ⟨GL_all [261, 262, 263, 51, 264] (by decide +kernel) (by decide +kernel), by decide +kernel⟩
theorem lkX4_75 : LkV RX4 75 RX0 yX0_setOfLiving cX0_setOfLiving 3 0 (some .int) := ⟨GL_all [265, 266, 267, 51, 268] (by decide +kernel) (by decide +kernel), by decide +kernel⟩
theorem lkX4_78 : LkV RX4 78 RX0 yX0_sumOfContents cX0_sumOfContents 3 0 (some .int) := ⟨GL_all [269, 270, 271, 51, 272] (by decide +kernel) (by decide +kernel), by decide +kernel⟩
theorem lkL_22 : LkV RL 22 RX4 yX4_person cX4_person 2 1 (some .int) := ⟨GL_all [273, 274, 275, 50, 276] (by decide +kernel) (by decide +kernel), by decide +kernel⟩
theorem lkX4_81 : LkS RX4 81 yX4_isKind cX4_isKind 1 1 (some .boolean) := ⟨GL_all [277, 278, 50, 279] (by decide +kernel) (by decide +kernel), by decide +kernel⟩
theorem lkX4_88 : LkV RX4 88 RX0 yX0_addPerson cX0_addPerson 3 1 (some .int) := ⟨GL_all [280, 281, 282, 51, 283] (by decide +kernel) (by decide +kernel), by decide +kernel⟩
theorem lkL_26 : LkV RL 26 RX4 yX4_of cX4_of 3 2 (some .int) := ⟨GL_all [284, 285, 286, 50, 287] (by decide +kernel) (by decide +kernel), by decide +kernel⟩
theorem lkX4_91 : LkV RX4 91 RX0 yX0_hasPerson cX0_hasPerson 2 1 (some .boolean) := ⟨GL_all [288, 289, 290, 51, 291] (by decide +kernel) (by decide +kernel), by decide +kernel⟩
theorem lkX4_106 : LkV RX4 106 RX0 yX0_tally cX0_tally 2 0 none := ⟨GL_all [293, 294, 295, 51, 296] (by decide +kernel) (by decide +kernel), by decide +kernel⟩
theorem lkX0_79 : LkV RX0 79 RX0 yX0_tallyOne cX0_tallyOne 3 1 none := ⟨GL_all [297, 298, 299, 51, 300] (by decide +kernel) (by decide +kernel), by decide +kernel⟩
theorem lkX4_109 : LkV RX4 109 RX0 yX0_minds cX0_minds 4 1 (some .int) := ⟨GL_all [301, 302, 303, 51, 304] (by decide +kernel) (by decide +kernel), by decide +kernel⟩
theorem lkL_31 : LkV RL 31 RX4 yX4_set cX4_set 4 3 (some .int) := ⟨GL_all [305, 306, 307, 50, 308] (by decide +kernel) (by decide +kernel), by decide +kernel⟩
theorem lkX4_112 : LkV RX4 112 RX4 yX4_putChecked cX4_putChecked 7 5 (some .int) := ⟨GL_all [309, 311, 1, 50, 312] (by decide +kernel) (by decide +kernel), by decide +kernel⟩
theorem lkL_36 : LkV RL 36 RX4 yX4_would cX4_would 5 3 (some .int) := ⟨GL_all [313, 314, 315, 50, 316] (by decide +kernel) (by decide +kernel), by decide +kernel⟩
theorem lkX4_116 : LkV RX4 116 RX0 yX0_hasGarment cX0_hasGarment 2 1 (some .boolean) := ⟨GL_all [317, 318, 319, 51, 320] (by decide +kernel) (by decide +kernel), by decide +kernel⟩
theorem lkX4_119 : LkV RX4 119 RX0 yX0_givesBack cX0_givesBack 3 2 (some .boolean) := ⟨GL_all [321, 322, 323, 51, 324] (by decide +kernel) (by decide +kernel), by decide +kernel⟩
theorem lkX4_123 : LkV RX4 123 RX0 yX0_claims cX0_claims 5 2 (some .boolean) := ⟨GL_all [325, 326, 327, 51, 328] (by decide +kernel) (by decide +kernel), by decide +kernel⟩
theorem lkL_40 : LkV RL 40 RX4 yX4_turn cX4_turn 3 2 (some .int) := ⟨GL_all [329, 330, 331, 50, 332] (by decide +kernel) (by decide +kernel), by decide +kernel⟩
theorem lkL_44 : LkV RL 44 RX4 yX4_as cX4_as 3 2 (some .int) := ⟨GL_all [333, 334, 335, 50, 336] (by decide +kernel) (by decide +kernel), by decide +kernel⟩
theorem lkX4_126 : LkS RX4 126 yX4_isUnder cX4_isUnder 2 2 (some .boolean) := ⟨GL_all [337, 338, 50, 339] (by decide +kernel) (by decide +kernel), by decide +kernel⟩
theorem lkX4_240 : LkS RX4 240 yX4_kindAbove cX4_kindAbove 1 1 (some .int) := ⟨GL_all [340, 341, 50, 342] (by decide +kernel) (by decide +kernel), by decide +kernel⟩
theorem lkL_48 : LkV RL 48 RX4 yX4_garment cX4_garment 3 2 (some .int) := ⟨GL_all [343, 344, 345, 50, 346] (by decide +kernel) (by decide +kernel), by decide +kernel⟩
theorem lkX4_132 : LkV RX4 132 RX0 yX0_addGarment cX0_addGarment 4 2 (some .int) := ⟨GL_all [347, 348, 349, 51, 350] (by decide +kernel) (by decide +kernel), by decide +kernel⟩
theorem lkL_52 : LkV RL 52 RX4 yX4_garmentOf cX4_garmentOf 3 2 (some .int) := ⟨GL_all [351, 352, 353, 50, 354] (by decide +kernel) (by decide +kernel), by decide +kernel⟩
theorem lkX4_148 : LkV RX4 148 RX0 yX0_readsFor cX0_readsFor 3 1 (some .int) := ⟨GL_all [355, 356, 357, 51, 358] (by decide +kernel) (by decide +kernel), by decide +kernel⟩
theorem lkX0_75 : LkV RX0 75 RX0 yX0_leastOfBand cX0_leastOfBand 3 1 (some .int) := ⟨GL_all [359, 360, 361, 51, 362] (by decide +kernel) (by decide +kernel), by decide +kernel⟩
theorem lkX4_151 : LkV RX4 151 RX0 yX0_fades cX0_fades 2 1 (some .int) := ⟨GL_all [363, 364, 365, 51, 366] (by decide +kernel) (by decide +kernel), by decide +kernel⟩
theorem lkX0_69 : LkS RX0 69 yJ9_max_7cf53 cJ9_max_7cf53 2 2 (some .int) := ⟨GL_all [367, 368, 56, 369] (by decide +kernel) (by decide +kernel), by decide +kernel⟩
theorem lkL_56 : LkV RL 56 RX4 yX4_sew cX4_sew 4 3 (some .int) := ⟨GL_all [370, 371, 372, 50, 373] (by decide +kernel) (by decide +kernel), by decide +kernel⟩
theorem lkL_60 : LkV RL 60 RX4 yX4_weeks cX4_weeks 2 1 (some .int) := ⟨GL_all [374, 375, 376, 50, 377] (by decide +kernel) (by decide +kernel), by decide +kernel⟩
theorem lkX4_155 : LkV RX4 155 RX0 yX0_goWeeks cX0_goWeeks 3 1 none := ⟨GL_all [379, 380, 381, 51, 382] (by decide +kernel) (by decide +kernel), by decide +kernel⟩
theorem lkX0_83 : LkV RX0 83 RX0 yX0_bringWash cX0_bringWash 3 0 none := ⟨GL_all [383, 384, 385, 51, 386] (by decide +kernel) (by decide +kernel), by decide +kernel⟩
theorem lkX0_98 : LkV RX0 98 RX0 yX0_fades cX0_fades 2 1 (some .int) := ⟨GL_all [387, 364, 365, 51, 366] (by decide +kernel) (by decide +kernel), by decide +kernel⟩
theorem lkX0_101 : LkV RX0 101 RX0 yX0_givesBack cX0_givesBack 3 2 (some .boolean) := ⟨GL_all [388, 322, 323, 51, 324] (by decide +kernel) (by decide +kernel), by decide +kernel⟩
theorem lkX0_105 : LkV RX0 105 RX0 yX0_readsFor cX0_readsFor 3 1 (some .int) := ⟨GL_all [389, 356, 357, 51, 358] (by decide +kernel) (by decide +kernel), by decide +kernel⟩
theorem lkX0_86 : LkV RX0 86 RX0 yX0_tally cX0_tally 2 0 none := ⟨GL_all [390, 294, 295, 51, 296] (by decide +kernel) (by decide +kernel), by decide +kernel⟩
theorem lkX0_89 : LkV RX0 89 RX0 yX0_layTable cX0_layTable 2 0 none := ⟨GL_all [391, 392, 393, 51, 394] (by decide +kernel) (by decide +kernel), by decide +kernel⟩
theorem lkX0_108 : LkV RX0 108 RX0 yX0_leastClaimant cX0_leastClaimant 3 1 (some .int) := ⟨GL_all [395, 396, 397, 51, 398] (by decide +kernel) (by decide +kernel), by decide +kernel⟩
theorem lkX0_111 : LkV RX0 111 RX0 yX0_claims cX0_claims 5 2 (some .boolean) := ⟨GL_all [399, 326, 327, 51, 328] (by decide +kernel) (by decide +kernel), by decide +kernel⟩
theorem lkX0_92 : LkV RX0 92 RX0 yX0_addContents cX0_addContents 3 0 none := ⟨GL_all [400, 401, 402, 51, 403] (by decide +kernel) (by decide +kernel), by decide +kernel⟩
theorem lkX0_114 : LkV RX0 114 RX0 yX0_minds cX0_minds 4 1 (some .int) := ⟨GL_all [404, 302, 303, 51, 304] (by decide +kernel) (by decide +kernel), by decide +kernel⟩
theorem lkX0_117 : LkS RX0 117 yJ9_min_7cf53 cJ9_min_7cf53 2 2 (some .int) := ⟨GL_all [405, 406, 56, 407] (by decide +kernel) (by decide +kernel), by decide +kernel⟩
theorem lkL_64 : LkV RL 64 RX4 yX4_on cX4_on 4 3 (some .int) := ⟨GL_all [408, 409, 410, 50, 411] (by decide +kernel) (by decide +kernel), by decide +kernel⟩
theorem lkX4_159 : LkV RX4 159 RX4 yX4_startTrial cX4_startTrial 1 0 none := ⟨GL_all [412, 414, 2, 50, 415] (by decide +kernel) (by decide +kernel), by decide +kernel⟩
theorem lkX4_189 : LkV RX4 189 RX0 yX0_become cX0_become 2 1 none := ⟨GL_all [416, 417, 418, 51, 419] (by decide +kernel) (by decide +kernel), by decide +kernel⟩
theorem lkL_68 : LkV RL 68 RX4 yX4_then cX4_then 3 2 (some .int) := ⟨GL_all [423, 424, 425, 50, 426] (by decide +kernel) (by decide +kernel), by decide +kernel⟩
theorem lkL_72 : LkV RL 72 RX4 yX4_lost cX4_lost 3 1 (some .int) := ⟨GL_all [427, 428, 429, 50, 430] (by decide +kernel) (by decide +kernel), by decide +kernel⟩
theorem lkX4_162 : LkV RX4 162 RX0 yX0_isRight cX0_isRight 2 1 (some .boolean) := ⟨GL_all [431, 262, 263, 51, 264] (by decide +kernel) (by decide +kernel), by decide +kernel⟩
theorem lkL_76 : LkV RL 76 RX4 yX4_comes cX4_comes 4 2 (some .int) := ⟨GL_all [432, 433, 434, 50, 435] (by decide +kernel) (by decide +kernel), by decide +kernel⟩
theorem lkL_80 : LkV RL 80 RX4 yX4_mark cX4_mark 7 2 (some .int) := ⟨GL_all [436, 437, 438, 50, 439] (by decide +kernel) (by decide +kernel), by decide +kernel⟩
theorem lkX4_165 : LkV RX4 165 RX0 yX0_countRightWeeks cX0_countRightWeeks 5 2 (some .int) := ⟨GL_all [440, 441, 442, 51, 443] (by decide +kernel) (by decide +kernel), by decide +kernel⟩
theorem lkX0_95 : LkV RX0 95 RX0 yX0_goWeeks cX0_goWeeks 3 1 none := ⟨GL_all [444, 380, 381, 51, 382] (by decide +kernel) (by decide +kernel), by decide +kernel⟩
theorem lkL_84 : LkV RL 84 RX4 yX4_kind cX4_kind 7 2 (some .int) := ⟨GL_all [445, 446, 447, 50, 448] (by decide +kernel) (by decide +kernel), by decide +kernel⟩
theorem lkX4_168 : LkS RX4 168 yJ6_bitCount_0f7a4 cJ6_bitCount_0f7a4 1 1 (some .int) := ⟨GL_all [449, 450, 58, 451] (by decide +kernel) (by decide +kernel), by decide +kernel⟩
theorem lkL_88 : LkV RL 88 RX4 yX4_warmest cX4_warmest 4 2 (some .int) := ⟨GL_all [455, 456, 457, 50, 458] (by decide +kernel) (by decide +kernel), by decide +kernel⟩
theorem lkL_92 : LkV RL 92 RX4 yX4_plain cX4_plain 4 2 (some .int) := ⟨GL_all [459, 460, 461, 50, 462] (by decide +kernel) (by decide +kernel), by decide +kernel⟩
theorem lkL_96 : LkV RL 96 RX4 yX4_teach cX4_teach 6 1 (some .int) := ⟨GL_all [463, 464, 465, 50, 466] (by decide +kernel) (by decide +kernel), by decide +kernel⟩
theorem lkL_100 : LkV RL 100 RX4 yX4_best cX4_best 4 1 (some .int) := ⟨GL_all [467, 468, 469, 50, 470] (by decide +kernel) (by decide +kernel), by decide +kernel⟩
theorem lkL_104 : LkV RL 104 RX4 yX4_feed cX4_feed 4 2 (some .int) := ⟨GL_all [471, 472, 473, 50, 474] (by decide +kernel) (by decide +kernel), by decide +kernel⟩
theorem lkX4_176 : LkV RX4 176 RX3 yX3_append cX3_append 2 1 none := ⟨GL_all [475, 476, 477, 52, 478] (by decide +kernel) (by decide +kernel), by decide +kernel⟩
theorem lkL_108 : LkV RL 108 RX4 yX4_wipe cX4_wipe 2 0 (some .int) := ⟨GL_all [479, 480, 481, 50, 482] (by decide +kernel) (by decide +kernel), by decide +kernel⟩
theorem lkX4_179 : LkV RX4 179 RX3 yX3_clear cX3_clear 1 0 none := ⟨GL_all [483, 484, 485, 52, 486] (by decide +kernel) (by decide +kernel), by decide +kernel⟩
theorem lkL_113 : LkV RL 113 RX4 yX4_home cX4_home 3 0 (some .int) := ⟨GL_all [487, 488, 489, 50, 490] (by decide +kernel) (by decide +kernel), by decide +kernel⟩
theorem lkX4_182 : LkV RX4 182 RX1 yX1_takeItems cX1_takeItems 2 0 (some .boolean) := ⟨GL_all [491, 492, 493, 53, 494] (by decide +kernel) (by decide +kernel), by decide +kernel⟩
theorem lkX1_23 : LkV RX1 23 RX3 yX3_rewind cX3_rewind 1 0 none := ⟨GL_all [495, 147, 148, 52, 149] (by decide +kernel) (by decide +kernel), by decide +kernel⟩
theorem lkX1_31 : LkV RX1 31 RX3 yX3_step cX3_step 2 0 none := ⟨GL_all [496, 497, 498, 52, 499] (by decide +kernel) (by decide +kernel), by decide +kernel⟩
theorem lkX3_34 : LkS RX3 34 yX3_tokenOf cX3_tokenOf 1 1 (some .int) := ⟨GL_all [500, 501, 52, 502] (by decide +kernel) (by decide +kernel), by decide +kernel⟩
theorem lkX3_38 : LkS RX3 38 yJ9_min_7cf53 cJ9_min_7cf53 2 2 (some .int) := ⟨GL_all [503, 406, 56, 407] (by decide +kernel) (by decide +kernel), by decide +kernel⟩
theorem lkX1_34 : LkV RX1 34 RX1 yX1_takeItem cX1_takeItem 3 0 (some .boolean) := ⟨GL_all [504, 505, 506, 53, 507] (by decide +kernel) (by decide +kernel), by decide +kernel⟩
theorem lkX1_41 : LkV RX1 41 RX1 yX1_kindAtTape cX1_kindAtTape 1 0 (some .int) := ⟨GL_all [508, 509, 510, 53, 511] (by decide +kernel) (by decide +kernel), by decide +kernel⟩
theorem lkX1_57 : LkV RX1 57 RX3 yX3_isAtWord cX3_isAtWord 3 1 (some .boolean) := ⟨GL_all [513, 514, 515, 52, 516] (by decide +kernel) (by decide +kernel), by decide +kernel⟩
theorem lkX3_44 : LkV RX3 44 RJ0 yJ0_length_8abf5 cJ0_length_8abf5 1 0 (some .int) := ⟨GL_all [517, 518, 519, 59, 520] (by decide +kernel) (by decide +kernel), by decide +kernel⟩
theorem lkX3_49 : LkV RX3 49 RJ0 yJ0_charAt_5068e cJ0_charAt_5068e 2 1 (some .char) := ⟨GL_all [527, 528, 529, 59, 530] (by decide +kernel) (by decide +kernel), by decide +kernel⟩
theorem lkX1_45 : LkV RX1 45 RX1 yX1_takePerson cX1_takePerson 3 1 (some .boolean) := ⟨GL_all [570, 571, 572, 53, 573] (by decide +kernel) (by decide +kernel), by decide +kernel⟩
theorem lkX1_74 : LkV RX1 74 RX0 yX0_addPerson cX0_addPerson 3 1 (some .int) := ⟨GL_all [574, 281, 282, 51, 283] (by decide +kernel) (by decide +kernel), by decide +kernel⟩
theorem lkX1_80 : LkV RX1 80 RX1 yX1_takeNumber cX1_takeNumber 3 2 (some .boolean) := ⟨GL_all [576, 577, 578, 53, 579] (by decide +kernel) (by decide +kernel), by decide +kernel⟩
theorem lkX1_114 : LkV RX1 114 RX3 yX3_isAtNumber cX3_isAtNumber 3 2 (some .boolean) := ⟨GL_all [580, 581, 582, 52, 583] (by decide +kernel) (by decide +kernel), by decide +kernel⟩
theorem lkX1_49 : LkV RX1 49 RX1 yX1_markAtTape cX1_markAtTape 1 0 (some .int) := ⟨GL_all [585, 586, 587, 53, 588] (by decide +kernel) (by decide +kernel), by decide +kernel⟩
theorem lkX1_52 : LkV RX1 52 RX1 yX1_takeGarment cX1_takeGarment 3 1 (some .boolean) := ⟨GL_all [592, 593, 594, 53, 595] (by decide +kernel) (by decide +kernel), by decide +kernel⟩
theorem lkX1_94 : LkV RX1 94 RX0 yX0_addGarment cX0_addGarment 4 2 (some .int) := ⟨GL_all [596, 348, 349, 51, 350] (by decide +kernel) (by decide +kernel), by decide +kernel⟩
theorem lkX1_61 : LkV RX1 61 RX1 yX1_takeHeat cX1_takeHeat 1 0 (some .boolean) := ⟨GL_all [600, 601, 602, 53, 603] (by decide +kernel) (by decide +kernel), by decide +kernel⟩
theorem lkX1_66 : LkV RX1 66 RX1 yX1_takeDeath cX1_takeDeath 1 0 (some .boolean) := ⟨GL_all [605, 606, 607, 53, 608] (by decide +kernel) (by decide +kernel), by decide +kernel⟩
theorem lkL_117 : LkV RL 117 RX4 yX4_sheet cX4_sheet 4 3 (some .int) := ⟨GL_all [610, 611, 612, 50, 613] (by decide +kernel) (by decide +kernel), by decide +kernel⟩
theorem lkX4_196 : LkS RX4 196 yX4_isSheet cX4_isSheet 1 1 (some .boolean) := ⟨GL_all [614, 615, 50, 616] (by decide +kernel) (by decide +kernel), by decide +kernel⟩
theorem lkX4_199 : LkV RX4 199 RX2 yX2_begin cX2_begin 4 2 none := ⟨GL_all [617, 618, 619, 54, 620] (by decide +kernel) (by decide +kernel), by decide +kernel⟩
theorem lkL_123 : LkV RL 123 RX4 yX4_write cX4_write 8 3 (some .long) := ⟨GL_all [621, 622, 623, 50, 624] (by decide +kernel) (by decide +kernel), by decide +kernel⟩
theorem lkX4_204 : LkV RX4 204 RX4 yX4_findingOfSheet cX4_findingOfSheet 2 1 (some .int) := ⟨GL_all [625, 627, 3, 50, 628] (by decide +kernel) (by decide +kernel), by decide +kernel⟩
theorem lkX4_215 : LkV RX4 215 RX2 yX2_isMissing cX2_isMissing 1 0 (some .boolean) := ⟨GL_all [629, 630, 631, 54, 632] (by decide +kernel) (by decide +kernel), by decide +kernel⟩
theorem lkX4_211 : LkV RX4 211 RX2 yX2_put cX2_put 4 2 none := ⟨GL_all [633, 634, 635, 54, 636] (by decide +kernel) (by decide +kernel), by decide +kernel⟩
theorem lkL_128 : LkV RL 128 RX4 yX4_copy cX4_copy 8 5 (some .int) := ⟨GL_all [637, 638, 639, 50, 640] (by decide +kernel) (by decide +kernel), by decide +kernel⟩
theorem lkX4_221 : LkV RX4 221 RX2 yX2_hasRun cX2_hasRun 3 2 (some .boolean) := ⟨GL_all [641, 642, 643, 54, 644] (by decide +kernel) (by decide +kernel), by decide +kernel⟩
theorem lkL_133 : LkV RL 133 RX4 yX4_lays cX4_lays 7 1 (some .int) := ⟨GL_all [646, 647, 648, 50, 649] (by decide +kernel) (by decide +kernel), by decide +kernel⟩
theorem lkL_137 : LkV RL 137 RX4 yX4_book cX4_book 5 2 (some .int) := ⟨GL_all [651, 652, 653, 50, 654] (by decide +kernel) (by decide +kernel), by decide +kernel⟩
theorem lkL_141 : LkV RL 141 RX4 yX4_read cX4_read 7 2 (some .int) := ⟨GL_all [655, 656, 657, 50, 658] (by decide +kernel) (by decide +kernel), by decide +kernel⟩
theorem lkX4_232 : LkV RX4 232 RX4 yX4_goesAsBooked cX4_goesAsBooked 4 2 (some .boolean) := ⟨GL_all [659, 661, 4, 50, 662] (by decide +kernel) (by decide +kernel), by decide +kernel⟩
theorem lkL_145 : LkV RL 145 RX4 yX4_image cX4_image 1 0 (some .int) := ⟨GL_all [663, 664, 665, 50, 666] (by decide +kernel) (by decide +kernel), by decide +kernel⟩
theorem lkL_149 : LkV RL 149 RX4 yX4_undo cX4_undo 1 0 (some .int) := ⟨GL_all [667, 668, 669, 50, 670] (by decide +kernel) (by decide +kernel), by decide +kernel⟩
theorem lkL_153 : LkV RL 153 RX4 yX4_tear cX4_tear 2 0 (some .int) := ⟨GL_all [671, 672, 673, 50, 674] (by decide +kernel) (by decide +kernel), by decide +kernel⟩
theorem lkL_157 : LkV RL 157 RX4 yX4_count cX4_count 2 1 (some .int) := ⟨GL_all [675, 676, 677, 50, 678] (by decide +kernel) (by decide +kernel), by decide +kernel⟩
theorem lkX4_236 : LkV RX4 236 RX0 yX0_sumOfNames cX0_sumOfNames 3 0 (some .int) := ⟨GL_all [679, 680, 681, 51, 682] (by decide +kernel) (by decide +kernel), by decide +kernel⟩
theorem lkL_161 : LkV RL 161 RX4 yX4_status cX4_status 4 1 (some .int) := ⟨GL_all [683, 684, 685, 50, 686] (by decide +kernel) (by decide +kernel), by decide +kernel⟩
theorem lkL_17 : LkV RL 17 RX5 yX5_heat cX5_heat 2 1 (some .int) := ⟨GL_all [751, 752, 753, 55, 754] (by decide +kernel) (by decide +kernel), by decide +kernel⟩
theorem lkX5_45 : LkS RX5 45 yX5_in cX5_in 3 3 (some .boolean) := ⟨GL_all [755, 756, 55, 757] (by decide +kernel) (by decide +kernel), by decide +kernel⟩
theorem lkX5_70 : LkV RX5 70 RX5 yX5_becomes cX5_becomes 4 2 (some .int) := ⟨GL_all [758, 760, 5, 55, 761] (by decide +kernel) (by decide +kernel), by decide +kernel⟩
theorem lkX5_73 : LkV RX5 73 RX5 yX5_finds cX5_finds 2 1 (some .int) := ⟨GL_all [763, 765, 6, 55, 766] (by decide +kernel) (by decide +kernel), by decide +kernel⟩
theorem lkL_21 : LkV RL 21 RX5 yX5_now cX5_now 2 1 (some .int) := ⟨GL_all [767, 768, 769, 55, 770] (by decide +kernel) (by decide +kernel), by decide +kernel⟩
theorem lkX5_60 : LkV RX5 60 RX5 yX5_withWhom cX5_withWhom 4 1 (some .int) := ⟨GL_all [771, 773, 7, 55, 774] (by decide +kernel) (by decide +kernel), by decide +kernel⟩
theorem lkX5_49 : LkV RX5 49 RX5 yX5_worn cX5_worn 3 2 (some .int) := ⟨GL_all [775, 777, 8, 55, 778] (by decide +kernel) (by decide +kernel), by decide +kernel⟩
theorem lkX5_76 : LkV RX5 76 RX5 yX5_rights cX5_rights 3 0 (some .int) := ⟨GL_all [779, 781, 9, 55, 782] (by decide +kernel) (by decide +kernel), by decide +kernel⟩
theorem lkX5_53 : LkV RX5 53 RX5 yX5_isRight cX5_isRight 2 1 (some .boolean) := ⟨GL_all [783, 785, 10, 55, 786] (by decide +kernel) (by decide +kernel), by decide +kernel⟩
theorem lkX5_80 : LkV RX5 80 RX5 yX5_living cX5_living 3 0 (some .int) := ⟨GL_all [787, 789, 11, 55, 790] (by decide +kernel) (by decide +kernel), by decide +kernel⟩
theorem lkX5_57 : LkV RX5 57 RX5 yX5_its cX5_its 3 2 (some .int) := ⟨GL_all [791, 793, 12, 55, 794] (by decide +kernel) (by decide +kernel), by decide +kernel⟩
theorem lkX5_83 : LkV RX5 83 RX5 yX5_contentOfAll cX5_contentOfAll 3 0 (some .int) := ⟨GL_all [795, 797, 13, 55, 798] (by decide +kernel) (by decide +kernel), by decide +kernel⟩
theorem lkL_25 : LkV RL 25 RX5 yX5_person cX5_person 2 1 (some .int) := ⟨GL_all [799, 800, 801, 55, 802] (by decide +kernel) (by decide +kernel), by decide +kernel⟩
theorem lkX5_90 : LkS RX5 90 yX5_isKind cX5_isKind 1 1 (some .boolean) := ⟨GL_all [803, 804, 55, 805] (by decide +kernel) (by decide +kernel), by decide +kernel⟩
theorem lkX5_94 : LkV RX5 94 RX5 yX5_adds cX5_adds 4 2 none := ⟨GL_all [807, 809, 14, 55, 810] (by decide +kernel) (by decide +kernel), by decide +kernel⟩
theorem lkX5_86 : LkV RX5 86 RX5 yX5_puts cX5_puts 4 3 none := ⟨GL_all [811, 813, 15, 55, 814] (by decide +kernel) (by decide +kernel), by decide +kernel⟩
theorem lkL_30 : LkV RL 30 RX5 yX5_of cX5_of 3 2 (some .int) := ⟨GL_all [815, 816, 817, 55, 818] (by decide +kernel) (by decide +kernel), by decide +kernel⟩
theorem lkX5_98 : LkV RX5 98 RX5 yX5_isOne cX5_isOne 2 1 (some .boolean) := ⟨GL_all [819, 821, 16, 55, 822] (by decide +kernel) (by decide +kernel), by decide +kernel⟩
theorem lkX5_101 : LkV RX5 101 RX5 yX5_minds cX5_minds 5 1 (some .int) := ⟨GL_all [823, 825, 17, 55, 826] (by decide +kernel) (by decide +kernel), by decide +kernel⟩
theorem lkX5_64 : LkV RX5 64 RX5 yX5_ownedBy cX5_ownedBy 4 1 (some .int) := ⟨GL_all [827, 829, 18, 55, 830] (by decide +kernel) (by decide +kernel), by decide +kernel⟩
theorem lkX5_67 : LkS RX5 67 yX5_bits cX5_bits 3 1 (some .int) := ⟨GL_all [831, 832, 55, 833] (by decide +kernel) (by decide +kernel), by decide +kernel⟩
theorem lkL_35 : LkV RL 35 RX5 yX5_set cX5_set 4 3 (some .int) := ⟨GL_all [834, 835, 836, 55, 837] (by decide +kernel) (by decide +kernel), by decide +kernel⟩
theorem lkX5_104 : LkS RX5 104 yX5_isPart cX5_isPart 2 2 (some .boolean) := ⟨GL_all [838, 839, 55, 840] (by decide +kernel) (by decide +kernel), by decide +kernel⟩
theorem lkL_39 : LkV RL 39 RX5 yX5_would cX5_would 5 3 (some .int) := ⟨GL_all [841, 842, 843, 55, 844] (by decide +kernel) (by decide +kernel), by decide +kernel⟩
theorem lkX5_108 : LkV RX5 108 RX5 yX5_isGarment cX5_isGarment 2 1 (some .boolean) := ⟨GL_all [845, 847, 19, 55, 848] (by decide +kernel) (by decide +kernel), by decide +kernel⟩
theorem lkX5_111 : LkV RX5 111 RX5 yX5_isGiving cX5_isGiving 4 2 (some .boolean) := ⟨GL_all [849, 851, 20, 55, 852] (by decide +kernel) (by decide +kernel), by decide +kernel⟩
theorem lkX5_114 : LkV RX5 114 RX5 yX5_isClaiming cX5_isClaiming 5 2 (some .boolean) := ⟨GL_all [853, 855, 21, 55, 856] (by decide +kernel) (by decide +kernel), by decide +kernel⟩
theorem lkL_43 : LkV RL 43 RX5 yX5_turn cX5_turn 3 2 (some .int) := ⟨GL_all [857, 858, 859, 55, 860] (by decide +kernel) (by decide +kernel), by decide +kernel⟩
theorem lkL_47 : LkV RL 47 RX5 yX5_as cX5_as 5 2 (some .int) := ⟨GL_all [861, 862, 863, 55, 864] (by decide +kernel) (by decide +kernel), by decide +kernel⟩
theorem lkL_51 : LkV RL 51 RX5 yX5_garment cX5_garment 3 2 (some .int) := ⟨GL_all [866, 867, 868, 55, 869] (by decide +kernel) (by decide +kernel), by decide +kernel⟩
theorem lkX5_121 : LkV RX5 121 RX5 yX5_addsGarment cX5_addsGarment 6 4 none := ⟨GL_all [870, 872, 22, 55, 873] (by decide +kernel) (by decide +kernel), by decide +kernel⟩
theorem lkX5_118 : LkV RX5 118 RX5 yX5_sews cX5_sews 4 3 none := ⟨GL_all [874, 876, 23, 55, 877] (by decide +kernel) (by decide +kernel), by decide +kernel⟩
theorem lkL_55 : LkV RL 55 RX5 yX5_garmentOf cX5_garmentOf 3 2 (some .int) := ⟨GL_all [878, 879, 880, 55, 881] (by decide +kernel) (by decide +kernel), by decide +kernel⟩
theorem lkX5_125 : LkV RX5 125 RX5 yX5_reads cX5_reads 6 1 (some .int) := ⟨GL_all [882, 884, 24, 55, 885] (by decide +kernel) (by decide +kernel), by decide +kernel⟩
theorem lkX5_128 : LkV RX5 128 RX5 yX5_fades cX5_fades 3 1 (some .int) := ⟨GL_all [886, 888, 25, 55, 889] (by decide +kernel) (by decide +kernel), by decide +kernel⟩
theorem lkL_59 : LkV RL 59 RX5 yX5_sew cX5_sew 4 3 (some .int) := ⟨GL_all [890, 891, 892, 55, 893] (by decide +kernel) (by decide +kernel), by decide +kernel⟩
theorem lkX5_131 : LkV RX5 131 RX5 yX5_isSewing cX5_isSewing 3 2 (some .boolean) := ⟨GL_all [894, 896, 26, 55, 897] (by decide +kernel) (by decide +kernel), by decide +kernel⟩
theorem lkL_63 : LkV RL 63 RX5 yX5_weeks cX5_weeks 2 1 (some .int) := ⟨GL_all [898, 899, 900, 55, 901] (by decide +kernel) (by decide +kernel), by decide +kernel⟩
theorem lkX5_150 : LkV RX5 150 RX5 yX5_passes cX5_passes 3 1 none := ⟨GL_all [904, 906, 27, 55, 907] (by decide +kernel) (by decide +kernel), by decide +kernel⟩
theorem lkX5_145 : LkV RX5 145 RX5 yX5_oneWeek cX5_oneWeek 2 0 none := ⟨GL_all [908, 910, 28, 55, 911] (by decide +kernel) (by decide +kernel), by decide +kernel⟩
theorem lkX5_138 : LkV RX5 138 RX5 yX5_washes cX5_washes 3 1 none := ⟨GL_all [912, 914, 29, 55, 915] (by decide +kernel) (by decide +kernel), by decide +kernel⟩
theorem lkX5_134 : LkS RX5 134 yX5_held cX5_held 3 3 (some .int) := ⟨GL_all [916, 917, 55, 918] (by decide +kernel) (by decide +kernel), by decide +kernel⟩
theorem lkX5_142 : LkV RX5 142 RX5 yX5_lies cX5_lies 4 1 none := ⟨GL_all [919, 921, 30, 55, 922] (by decide +kernel) (by decide +kernel), by decide +kernel⟩
theorem lkL_67 : LkV RL 67 RX5 yX5_on cX5_on 4 3 (some .int) := ⟨GL_all [923, 924, 925, 55, 926] (by decide +kernel) (by decide +kernel), by decide +kernel⟩
theorem lkX5_153 : LkV RX5 153 RX5 yX5_moveAll cX5_moveAll 4 2 none := ⟨GL_all [927, 929, 31, 55, 930] (by decide +kernel) (by decide +kernel), by decide +kernel⟩
theorem lkX5_157 : LkV RX5 157 RX5 yX5_behind cX5_behind 4 2 (some .int) := ⟨GL_all [931, 933, 32, 55, 934] (by decide +kernel) (by decide +kernel), by decide +kernel⟩
theorem lkL_71 : LkV RL 71 RX5 yX5_then cX5_then 3 2 (some .int) := ⟨GL_all [935, 936, 937, 55, 938] (by decide +kernel) (by decide +kernel), by decide +kernel⟩
theorem lkL_75 : LkV RL 75 RX5 yX5_lost cX5_lost 3 1 (some .int) := ⟨GL_all [939, 940, 941, 55, 942] (by decide +kernel) (by decide +kernel), by decide +kernel⟩
theorem lkL_79 : LkV RL 79 RX5 yX5_comes cX5_comes 4 2 (some .int) := ⟨GL_all [944, 945, 946, 55, 947] (by decide +kernel) (by decide +kernel), by decide +kernel⟩
theorem lkL_83 : LkV RL 83 RX5 yX5_mark cX5_mark 7 2 (some .int) := ⟨GL_all [948, 949, 950, 55, 951] (by decide +kernel) (by decide +kernel), by decide +kernel⟩
theorem lkX5_161 : LkV RX5 161 RX5 yX5_rightIn cX5_rightIn 5 2 (some .int) := ⟨GL_all [952, 954, 33, 55, 955] (by decide +kernel) (by decide +kernel), by decide +kernel⟩
theorem lkL_87 : LkV RL 87 RX5 yX5_kind cX5_kind 7 2 (some .int) := ⟨GL_all [956, 957, 958, 55, 959] (by decide +kernel) (by decide +kernel), by decide +kernel⟩
theorem lkL_91 : LkV RL 91 RX5 yX5_warmest cX5_warmest 5 2 (some .int) := ⟨GL_all [960, 961, 962, 55, 963] (by decide +kernel) (by decide +kernel), by decide +kernel⟩
theorem lkX5_164 : LkV RX5 164 RX5 yX5_isRightBehind cX5_isRightBehind 4 2 (some .boolean) := ⟨GL_all [964, 966, 34, 55, 967] (by decide +kernel) (by decide +kernel), by decide +kernel⟩
theorem lkL_95 : LkV RL 95 RX5 yX5_plain cX5_plain 5 2 (some .int) := ⟨GL_all [968, 969, 970, 55, 971] (by decide +kernel) (by decide +kernel), by decide +kernel⟩
theorem lkL_99 : LkV RL 99 RX5 yX5_teach cX5_teach 6 1 (some .int) := ⟨GL_all [972, 973, 974, 55, 975] (by decide +kernel) (by decide +kernel), by decide +kernel⟩
theorem lkL_103 : LkV RL 103 RX5 yX5_best cX5_best 4 1 (some .int) := ⟨GL_all [976, 977, 978, 55, 979] (by decide +kernel) (by decide +kernel), by decide +kernel⟩
theorem lkL_107 : LkV RL 107 RX5 yX5_feed cX5_feed 4 2 (some .int) := ⟨GL_all [980, 981, 982, 55, 983] (by decide +kernel) (by decide +kernel), by decide +kernel⟩
theorem lkL_112 : LkV RL 112 RX5 yX5_wipe cX5_wipe 2 0 (some .int) := ⟨GL_all [984, 985, 986, 55, 987] (by decide +kernel) (by decide +kernel), by decide +kernel⟩
theorem lkL_116 : LkV RL 116 RX5 yX5_home cX5_home 3 0 (some .int) := ⟨GL_all [988, 989, 990, 55, 991] (by decide +kernel) (by decide +kernel), by decide +kernel⟩
theorem lkX5_228 : LkV RX5 228 RX5 yX5_advance cX5_advance 2 0 none := ⟨GL_all [992, 994, 35, 55, 995] (by decide +kernel) (by decide +kernel), by decide +kernel⟩
theorem lkX5_177 : LkV RX5 177 RX5 yX5_byteAt cX5_byteAt 2 1 (some .int) := ⟨GL_all [996, 998, 36, 55, 999] (by decide +kernel) (by decide +kernel), by decide +kernel⟩
theorem lkX5_180 : LkS RX5 180 yX5_isLetter cX5_isLetter 1 1 (some .boolean) := ⟨GL_all [1000, 1001, 55, 1002] (by decide +kernel) (by decide +kernel), by decide +kernel⟩
theorem lkX5_183 : LkS RX5 183 yX5_isDigit cX5_isDigit 1 1 (some .boolean) := ⟨GL_all [1003, 1004, 55, 1005] (by decide +kernel) (by decide +kernel), by decide +kernel⟩
theorem lkX5_260 : LkV RX5 260 RX5 yX5_wantItem cX5_wantItem 2 0 none := ⟨GL_all [1009, 1011, 37, 55, 1012] (by decide +kernel) (by decide +kernel), by decide +kernel⟩
theorem lkX5_244 : LkV RX5 244 RX5 yX5_kindHere cX5_kindHere 1 0 (some .int) := ⟨GL_all [1013, 1015, 38, 55, 1016] (by decide +kernel) (by decide +kernel), by decide +kernel⟩
theorem lkX5_204 : LkV RX5 204 RX5 yX5_isWord cX5_isWord 3 1 (some .boolean) := ⟨GL_all [1018, 1020, 39, 55, 1021] (by decide +kernel) (by decide +kernel), by decide +kernel⟩
theorem lkX5_247 : LkV RX5 247 RX5 yX5_wantOne cX5_wantOne 3 1 none := ⟨GL_all [1027, 1029, 40, 55, 1030] (by decide +kernel) (by decide +kernel), by decide +kernel⟩
theorem lkX5_236 : LkV RX5 236 RX5 yX5_mayWant cX5_mayWant 6 4 (some .int) := ⟨GL_all [1032, 1034, 41, 55, 1035] (by decide +kernel) (by decide +kernel), by decide +kernel⟩
theorem lkX5_231 : LkV RX5 231 RX5 yX5_wantNumber cX5_wantNumber 4 2 (some .int) := ⟨GL_all [1036, 1038, 42, 55, 1039] (by decide +kernel) (by decide +kernel), by decide +kernel⟩
theorem lkX5_250 : LkV RX5 250 RX5 yX5_markHere cX5_markHere 1 0 (some .int) := ⟨GL_all [1040, 1042, 43, 55, 1043] (by decide +kernel) (by decide +kernel), by decide +kernel⟩
theorem lkX5_253 : LkV RX5 253 RX5 yX5_wantGarment cX5_wantGarment 5 1 none := ⟨GL_all [1047, 1049, 44, 55, 1050] (by decide +kernel) (by decide +kernel), by decide +kernel⟩
theorem lkL_120 : LkV RL 120 RX5 yX5_sheet cX5_sheet 5 3 (some .int) := ⟨GL_all [1055, 1056, 1057, 55, 1058] (by decide +kernel) (by decide +kernel), by decide +kernel⟩
theorem lkX5_263 : LkS RX5 263 yX5_isSheet cX5_isSheet 1 1 (some .boolean) := ⟨GL_all [1059, 1060, 55, 1061] (by decide +kernel) (by decide +kernel), by decide +kernel⟩
theorem lkL_127 : LkV RL 127 RX5 yX5_write cX5_write 7 3 (some .long) := ⟨GL_all [1063, 1064, 1065, 55, 1066] (by decide +kernel) (by decide +kernel), by decide +kernel⟩
theorem lkX5_268 : LkS RX5 268 yX5_narrow cX5_narrow 3 2 (some .long) := ⟨GL_all [1068, 1069, 55, 1070] (by decide +kernel) (by decide +kernel), by decide +kernel⟩
theorem lkL_132 : LkV RL 132 RX5 yX5_copy cX5_copy 7 5 (some .int) := ⟨GL_all [1071, 1072, 1073, 55, 1074] (by decide +kernel) (by decide +kernel), by decide +kernel⟩
theorem lkX5_272 : LkV RX5 272 RX5 yX5_isPart_ cX5_isPart_ 4 3 (some .boolean) := ⟨GL_all [1075, 1077, 45, 55, 1078] (by decide +kernel) (by decide +kernel), by decide +kernel⟩
theorem lkL_136 : LkV RL 136 RX5 yX5_lays cX5_lays 7 1 (some .int) := ⟨GL_all [1079, 1080, 1081, 55, 1082] (by decide +kernel) (by decide +kernel), by decide +kernel⟩
theorem lkX5_274 : LkV RX5 274 RX5 yX5_badSheet cX5_badSheet 2 1 (some .int) := ⟨GL_all [1083, 1085, 46, 55, 1086] (by decide +kernel) (by decide +kernel), by decide +kernel⟩
theorem lkL_140 : LkV RL 140 RX5 yX5_book cX5_book 5 2 (some .int) := ⟨GL_all [1088, 1089, 1090, 55, 1091] (by decide +kernel) (by decide +kernel), by decide +kernel⟩
theorem lkL_144 : LkV RL 144 RX5 yX5_read cX5_read 6 2 (some .int) := ⟨GL_all [1092, 1093, 1094, 55, 1095] (by decide +kernel) (by decide +kernel), by decide +kernel⟩
theorem lkX5_279 : LkV RX5 279 RX5 yX5_isSo cX5_isSo 5 2 (some .boolean) := ⟨GL_all [1096, 1098, 47, 55, 1099] (by decide +kernel) (by decide +kernel), by decide +kernel⟩
theorem lkL_148 : LkV RL 148 RX5 yX5_image cX5_image 1 0 (some .int) := ⟨GL_all [1100, 1101, 1102, 55, 1103] (by decide +kernel) (by decide +kernel), by decide +kernel⟩
theorem lkL_152 : LkV RL 152 RX5 yX5_undo cX5_undo 1 0 (some .int) := ⟨GL_all [1104, 1105, 1106, 55, 1107] (by decide +kernel) (by decide +kernel), by decide +kernel⟩
theorem lkL_156 : LkV RL 156 RX5 yX5_tear cX5_tear 2 0 (some .int) := ⟨GL_all [1108, 1109, 1110, 55, 1111] (by decide +kernel) (by decide +kernel), by decide +kernel⟩
theorem lkL_160 : LkV RL 160 RX5 yX5_count cX5_count 2 1 (some .int) := ⟨GL_all [1112, 1113, 1114, 55, 1115] (by decide +kernel) (by decide +kernel), by decide +kernel⟩
theorem lkX5_285 : LkV RX5 285 RX5 yX5_names cX5_names 3 0 (some .int) := ⟨GL_all [1116, 1118, 48, 55, 1119] (by decide +kernel) (by decide +kernel), by decide +kernel⟩
theorem lkL_164 : LkV RL 164 RX5 yX5_status cX5_status 4 1 (some .int) := ⟨GL_all [1120, 1121, 1122, 55, 1123] (by decide +kernel) (by decide +kernel), by decide +kernel⟩
theorem ctX4_239 : Cond.constant RX4 239 (-1000000001) ∈ GL := GL_of (i := 248) (by decide +kernel) rfl
theorem ctX4_154 : Cond.constant RX4 154 (99999) ∈ GL := GL_of (i := 378) (by decide +kernel) rfl
theorem ctJ6_265 : Cond.constant RJ6 265 (1431655765) ∈ GL := GL_of (i := 452) (by decide +kernel) rfl
theorem ctJ6_266 : Cond.constant RJ6 266 (858993459) ∈ GL := GL_of (i := 453) (by decide +kernel) rfl
theorem ctJ6_267 : Cond.constant RJ6 267 (252645135) ∈ GL := GL_of (i := 454) (by decide +kernel) rfl
theorem ctX5_44 : Cond.constant RX5 44 (-1000000001) ∈ GL := GL_of (i := 762) (by decide +kernel) rfl
theorem ctX5_93 : Cond.constant RX5 93 (-1000000002) ∈ GL := GL_of (i := 806) (by decide +kernel) rfl
theorem ctX5_117 : Cond.constant RX5 117 (-1000000003) ∈ GL := GL_of (i := 865) (by decide +kernel) rfl
theorem ctX5_148 : Cond.constant RX5 148 (99999) ∈ GL := GL_of (i := 902) (by decide +kernel) rfl
theorem ctX5_149 : Cond.constant RX5 149 (-1000000005) ∈ GL := GL_of (i := 903) (by decide +kernel) rfl
theorem ctX5_160 : Cond.constant RX5 160 (-1000000004) ∈ GL := GL_of (i := 943) (by decide +kernel) rfl
theorem ctX5_266 : Cond.constant RX5 266 (-1000000007) ∈ GL := GL_of (i := 1062) (by decide +kernel) rfl
theorem ctX5_267 : Cond.constant RX5 267 (-1000000006) ∈ GL := GL_of (i := 1067) (by decide +kernel) rfl
theorem clX4_230 : Cond.constantLong RX4 230 (99) ∈ GL := GL_of (i := 650) (by decide +kernel) rfl
theorem clX5_196 : Cond.constantLong RX5 196 (27) ∈ GL := GL_of (i := 1006) (by decide +kernel) rfl
theorem clX5_198 : Cond.constantLong RX5 198 (96) ∈ GL := GL_of (i := 1007) (by decide +kernel) rfl
theorem clX5_200 : Cond.constantLong RX5 200 (-1) ∈ GL := GL_of (i := 1008) (by decide +kernel) rfl
theorem clX5_202 : Cond.constantLong RX5 202 (4137608) ∈ GL := GL_of (i := 1017) (by decide +kernel) rfl
theorem clX5_208 : Cond.constantLong RX5 208 (191597391) ∈ GL := GL_of (i := 1022) (by decide +kernel) rfl
theorem clX5_210 : Cond.constantLong RX5 210 (11717060) ∈ GL := GL_of (i := 1023) (by decide +kernel) rfl
theorem clX5_212 : Cond.constantLong RX5 212 (82410) ∈ GL := GL_of (i := 1024) (by decide +kernel) rfl
theorem clX5_214 : Cond.constantLong RX5 214 (42534052632) ∈ GL := GL_of (i := 1025) (by decide +kernel) rfl
theorem clX5_216 : Cond.constantLong RX5 216 (187216925) ∈ GL := GL_of (i := 1026) (by decide +kernel) rfl
theorem clX5_234 : Cond.constantLong RX5 234 (40477) ∈ GL := GL_of (i := 1031) (by decide +kernel) rfl
theorem clX5_218 : Cond.constantLong RX5 218 (378257) ∈ GL := GL_of (i := 1044) (by decide +kernel) rfl
theorem clX5_220 : Cond.constantLong RX5 220 (139011691) ∈ GL := GL_of (i := 1045) (by decide +kernel) rfl
theorem clX5_222 : Cond.constantLong RX5 222 (11813) ∈ GL := GL_of (i := 1046) (by decide +kernel) rfl
theorem clX5_240 : Cond.constantLong RX5 240 (276647) ∈ GL := GL_of (i := 1051) (by decide +kernel) rfl
theorem clX5_242 : Cond.constantLong RX5 242 (161152) ∈ GL := GL_of (i := 1052) (by decide +kernel) rfl
theorem clX5_256 : Cond.constantLong RX5 256 (161156) ∈ GL := GL_of (i := 1053) (by decide +kernel) rfl
theorem clX5_258 : Cond.constantLong RX5 258 (85447) ∈ GL := GL_of (i := 1054) (by decide +kernel) rfl
theorem clX5_277 : Cond.constantLong RX5 277 (99) ∈ GL := GL_of (i := 1087) (by decide +kernel) rfl
theorem clL_121 : Cond.constantLong RL 121 (4294967295) ∈ GL := GL_of (i := 1124) (by decide +kernel) rfl
theorem lkN_isWithin : (∀ w ∈ ([.static yX4_isWithin, .initialized yX4_isWithin.cls, .code yX4_isWithin cX4_isWithin 3 (some .boolean)] : List Cond), w ∈ GL) ∧ (yX4_isWithin.cls ≠ "java/lang/invoke/MethodHandle" ∧ yX4_isWithin.cls ≠ "java/lang/invoke/VarHandle" ∧ (parseMethodDescriptor yX4_isWithin.desc).map (fun d => d.parameters.length) = some 3) := ⟨GL_all [242, 50, 243] (by decide +kernel) (by decide +kernel), by decide +kernel⟩
end
section
section NROWS
variable {p : Program} {l : Launch} {e : Env} {R : Room} {s : State} {m : MethodId} {args : Array Value} {below : List Frame} {meth : Method} {c : Code} {H : Heap} {locs : List Loc} {cells slots : Nat} {Q : State → Prop}
variable {cc : ByteArray} {pc : Nat} {ls : Array Slot} {rest : List Value}
theorem n_iadd (hx : p.tables.exec = Jvm.exec) (hb : c.code = cc) {x y v : Int32} (hdg : decode cc pc = .ok (.iadd, 1)) (hv : x + y = v) (k : W p l e R s m args below meth c H locs cells slots Q (F0 m (pc + 1) ls (.int v :: rest))) : W p l e R s m args below meth c H locs cells slots Q (F0 m pc ls (.int y :: .int x :: rest)) := by
  subst hv; exact lv_iadd hx hb hdg k
theorem n_isub (hx : p.tables.exec = Jvm.exec) (hb : c.code = cc) {x y v : Int32} (hdg : decode cc pc = .ok (.isub, 1)) (hv : x - y = v) (k : W p l e R s m args below meth c H locs cells slots Q (F0 m (pc + 1) ls (.int v :: rest))) : W p l e R s m args below meth c H locs cells slots Q (F0 m pc ls (.int y :: .int x :: rest)) := by
  subst hv; exact lv_isub hx hb hdg k
theorem n_imul (hx : p.tables.exec = Jvm.exec) (hb : c.code = cc) {x y v : Int32} (hdg : decode cc pc = .ok (.imul, 1)) (hv : x * y = v) (k : W p l e R s m args below meth c H locs cells slots Q (F0 m (pc + 1) ls (.int v :: rest))) : W p l e R s m args below meth c H locs cells slots Q (F0 m pc ls (.int y :: .int x :: rest)) := by
  subst hv; exact lv_imul hx hb hdg k
theorem n_iand (hx : p.tables.exec = Jvm.exec) (hb : c.code = cc) {x y v : Int32} (hdg : decode cc pc = .ok (.iand, 1)) (hv : x &&& y = v) (k : W p l e R s m args below meth c H locs cells slots Q (F0 m (pc + 1) ls (.int v :: rest))) : W p l e R s m args below meth c H locs cells slots Q (F0 m pc ls (.int y :: .int x :: rest)) := by
  subst hv; exact lv_iand hx hb hdg k
theorem n_ior (hx : p.tables.exec = Jvm.exec) (hb : c.code = cc) {x y v : Int32} (hdg : decode cc pc = .ok (.ior, 1)) (hv : x ||| y = v) (k : W p l e R s m args below meth c H locs cells slots Q (F0 m (pc + 1) ls (.int v :: rest))) : W p l e R s m args below meth c H locs cells slots Q (F0 m pc ls (.int y :: .int x :: rest)) := by
  subst hv; exact lv_ior hx hb hdg k
theorem n_ishl (hx : p.tables.exec = Jvm.exec) (hb : c.code = cc) {x y v : Int32} (hdg : decode cc pc = .ok (.ishl, 1)) (hv : x <<< (y &&& 31) = v) (k : W p l e R s m args below meth c H locs cells slots Q (F0 m (pc + 1) ls (.int v :: rest))) : W p l e R s m args below meth c H locs cells slots Q (F0 m pc ls (.int y :: .int x :: rest)) := by
  subst hv; exact lv_ishl hx hb hdg k
theorem n_ishr (hx : p.tables.exec = Jvm.exec) (hb : c.code = cc) {x y v : Int32} (hdg : decode cc pc = .ok (.ishr, 1)) (hv : x >>> (y &&& 31) = v) (k : W p l e R s m args below meth c H locs cells slots Q (F0 m (pc + 1) ls (.int v :: rest))) : W p l e R s m args below meth c H locs cells slots Q (F0 m pc ls (.int y :: .int x :: rest)) := by
  subst hv; exact lv_ishr hx hb hdg k
theorem n_idiv (hx : p.tables.exec = Jvm.exec) (hb : c.code = cc) {x y v : Int32} (hdg : decode cc pc = .ok (.idiv, 1)) (hne : ¬ y = 0) (hv : x / y = v) (k : W p l e R s m args below meth c H locs cells slots Q (F0 m (pc + 1) ls (.int v :: rest))) : W p l e R s m args below meth c H locs cells slots Q (F0 m pc ls (.int y :: .int x :: rest)) := by
  subst hv; exact lv_idiv hx hb hdg hne k
theorem n_irem (hx : p.tables.exec = Jvm.exec) (hb : c.code = cc) {x y v : Int32} (hdg : decode cc pc = .ok (.irem, 1)) (hne : ¬ y = 0) (hv : x - x / y * y = v) (k : W p l e R s m args below meth c H locs cells slots Q (F0 m (pc + 1) ls (.int v :: rest))) : W p l e R s m args below meth c H locs cells slots Q (F0 m pc ls (.int y :: .int x :: rest)) := by
  subst hv; exact lv_irem hx hb hdg hne k
theorem n_top {x y : Int32} (h : x = y) (k : W p l e R s m args below meth c H locs cells slots Q (F0 m pc ls (.int y :: rest))) : W p l e R s m args below meth c H locs cells slots Q (F0 m pc ls (.int x :: rest)) := by
  subst h; exact k
theorem n_topl {x y : Int64} (h : x = y) (k : W p l e R s m args below meth c H locs cells slots Q (F0 m pc ls (.long y :: rest))) : W p l e R s m args below meth c H locs cells slots Q (F0 m pc ls (.long x :: rest)) := by
  subst h; exact k
end NROWS
/-- a boolean's answer -/
def bz (P : Prop) (r : Int32) : Prop := (r = 0 ∧ ¬ P) ∨ (r = 1 ∧ P)
theorem bz_t {P : Prop} (h : P) : bz P 1 := Or.inr ⟨rfl, h⟩
theorem bz_f {P : Prop} (h : ¬ P) : bz P 0 := Or.inl ⟨rfl, h⟩
theorem bz_01 {P : Prop} {r : Int32} (h : bz P r) : r = 0 ∨ r = 1 := h.elim (fun q => Or.inl q.1) (fun q => Or.inr q.1)
theorem bz_iff {P P' : Prop} {r : Int32} (e : P ↔ P') (h : bz P r) : bz P' r := h.elim (fun q => Or.inl ⟨q.1, fun z => q.2 (e.mpr z)⟩) (fun q => Or.inr ⟨q.1, e.mp q.2⟩)
/-- a home: rows 0 (week, heat, people, garments), 1 kinds, 2 bands, 3 contents, 4 gone, 5 owners, 6 marks, 7 names, 8 with whom -/
abbrev HS : Type := Nat → Nat → Int32
def st (S : HS) (f i : Nat) (v : Int32) : HS := fun f' => if f' = f then upd (S f) i v else S f'
theorem st_eq (S : HS) (f i : Nat) (v : Int32) : st S f i v f = upd (S f) i v := by simp [st]
theorem st_ne (S : HS) {f f' : Nat} (i : Nat) (v : Int32) (h : f' ≠ f) : st S f i v f' = S f' := by simp [st, h]
theorem upd_at (f : Nat → Int32) (k : Nat) (x : Int32) : upd f k x k = x := by simp [upd]
theorem upd_ne (f : Nat → Int32) {k j : Nat} (x : Int32) (h : j ≠ k) : upd f k x j = f j := by simp [upd, h]
/-- the reference's row of a home -/
def enc (S : HS) : Nat → Int32 := fun k => if k < 4 then S 0 k else if k < 28 then S (1 + (k - 4) % 4) ((k - 4) / 4) else S (5 + (k - 28) % 4) ((k - 28) / 4)
theorem enc_0 (S : HS) {k : Nat} (h : k < 4) : enc S k = S 0 k := by simp [enc, h]
theorem enc_p (S : HS) {p j : Nat} (hp : p < 6) (hj : j < 4) : enc S (4 + 4 * p + j) = S (1 + j) p := by
  have h1 : ¬ 4 + 4 * p + j < 4 := by omega
  have h2 : 4 + 4 * p + j < 28 := by omega
  have h3 : (4 + 4 * p + j - 4) % 4 = j := by omega
  have h4 : (4 + 4 * p + j - 4) / 4 = p := by omega
  simp only [enc, h1, h2, h3, h4, if_false, if_true]
theorem enc_g (S : HS) {g j : Nat} (hj : j < 4) : enc S (28 + 4 * g + j) = S (5 + j) g := by
  have h1 : ¬ 28 + 4 * g + j < 4 := by omega
  have h2 : ¬ 28 + 4 * g + j < 28 := by omega
  have h3 : (28 + 4 * g + j - 28) % 4 = j := by omega
  have h4 : (28 + 4 * g + j - 28) / 4 = g := by omega
  simp only [enc, h1, h2, h3, h4, if_false]
theorem enc_at (S : HS) {k f i : Nat} (h : (k < 4 ∧ f = 0 ∧ i = k) ∨ (4 ≤ k ∧ k < 28 ∧ f = 1 + (k - 4) % 4 ∧ i = (k - 4) / 4) ∨ (28 ≤ k ∧ f = 5 + (k - 28) % 4 ∧ i = (k - 28) / 4)) (v : Int32) : upd (enc S) k v = enc (st S f i v) := by
  funext j
  by_cases hjk : j = k
  · subst hjk
    rw [upd_at]
    rcases h with ⟨h1, rfl, rfl⟩ | ⟨h1, h2, rfl, rfl⟩ | ⟨h1, rfl, rfl⟩
    · rw [enc_0 _ h1, st_eq, upd_at]
    · have : ¬ j < 4 := by omega
      simp only [enc, this, h2, if_false, if_true, st_eq, upd_at]
    · have h2 : ¬ j < 4 := by omega
      have h3 : ¬ j < 28 := by omega
      simp only [enc, h2, h3, if_false, st_eq, upd_at]
  · rw [upd_ne _ _ hjk]
    by_cases h4 : j < 4
    · rw [enc_0 _ h4, enc_0 _ h4]
      by_cases hf : f = 0
      · subst hf
        rw [st_eq, upd_ne]
        omega
      · rw [st_ne _ _ _ (fun q => hf q.symm)]
    · by_cases h28 : j < 28
      · simp only [enc, h4, h28, if_false, if_true]
        by_cases hf : f = 1 + (j - 4) % 4
        · subst hf
          rw [st_eq, upd_ne]
          omega
        · rw [st_ne _ _ _ (fun q => hf q.symm)]
      · simp only [enc, h4, h28, if_false]
        by_cases hf : f = 5 + (j - 28) % 4
        · subst hf
          rw [st_eq, upd_ne]
          omega
        · rw [st_ne _ _ _ (fun q => hf q.symm)]
theorem upd_p (S : HS) {p j : Nat} (hp : p < 6) (hj : j < 4) (v : Int32) : upd (enc S) (4 + 4 * p + j) v = enc (st S (1 + j) p v) := enc_at S (by omega) v
theorem upd_g (S : HS) {g j : Nat} (hj : j < 4) (v : Int32) : upd (enc S) (28 + 4 * g + j) v = enc (st S (5 + j) g v) := enc_at S (by omega) v
theorem upd_0 (S : HS) {k : Nat} (hk : k < 4) (v : Int32) : upd (enc S) k v = enc (st S 0 k v) := enc_at S (by omega) v
/-- cells of the two sides -/
abbrev HW (E : Ev) (h : Nat → Nat) (S T : HS) : va_W := [(h 0, .inr (0, [.int (S 0 0), .int (S 0 1), .int (S 0 2), .ref (h 1), .ref (h 2), .ref (h 3), .ref (h 4), .int (S 0 3), .ref (h 5), .ref (h 6), .ref (h 7), .ref (h 8), .ref (h 9), .ref (h 10)])), (h 1, .inl (E.2.1, 6, .inl (S 1))), (h 2, .inl (E.2.1, 6, .inl (S 2))), (h 3, .inl (E.2.1, 6, .inl (S 3))), (h 4, .inl (E.2.1, 6, .inl (S 4))), (h 5, .inl (E.2.1, 10, .inl (S 5))), (h 6, .inl (E.2.1, 10, .inl (S 6))), (h 7, .inl (E.2.1, 10, .inl (S 7))), (h 8, .inl (E.2.1, 10, .inl (S 8))), (h 9, .inl (E.2.1, 6, .inl (T 0))), (h 10, .inl (E.2.1, 6, .inl (T 1)))]
abbrev MO (a : Nat) (fs : List Value) : va_W := [(a, .inr (5, fs))]
abbrev IA (E : Ev) (a n : Nat) (f : Nat → Int32) : va_W := [(a, .inl (E.2.1, n, .inl f))]
abbrev LA (E : Ev) (a n : Nat) (f : Nat → Int64) : va_W := [(a, .inl (E.2.2.1, n, .inr (.inl f)))]
abbrev MR (E : Ev) (a b : Nat) (fs : List Value) (S : HS) : va_W := [(a, .inr (5, fs)), (b, .inl (E.2.1, 68, .inl (enc S)))]
end
section
theorem nI_inc (a n : Nat) : nI a + Int32.ofInt n = nI (a + n) := by
  rw [← nI_add]
  congr 1
theorem nI_dec (q : Nat) : nI q + Int32.ofInt (-1) = nI q - 1 := by
  rw [Int32.sub_eq_add_neg]
  congr 1
theorem sw_ne {x k : Int32} {z : Int} (hk : k.toInt = z) (h : ¬ x = k) : x.toInt ≠ z := fun q => h (Int32.toInt_inj.mp (q.trans hk.symm))
theorem cmp_eq {x y : Int64} (h : lg_cmp x y = 0) : x = y := by
  unfold lg_cmp at h
  split at h
  · exact absurd h (by decide)
  · split at h
    · assumption
    · exact absurd h (by decide)
theorem cmp_self (x : Int64) : lg_cmp x x = 0 := by
  unfold lg_cmp
  rw [if_neg (fun h => by exact absurd h (Int64.lt_irrefl)), if_pos rfl]
theorem cmp_eqn {x y : Int64} (h : ¬ lg_cmp x y = 0) : ¬ x = y := fun q => h (by rw [q]; exact cmp_self y)
theorem cmp_ne {x y : Int64} (h : ¬ lg_cmp x y = 0) : ¬ x = y := cmp_eqn h
theorem cmp_nen {x y : Int64} (h : lg_cmp x y = 0) : x = y := cmp_eq h
theorem cmp_ge {x y : Int64} (h : 0 ≤ lg_cmp x y) : y ≤ x := (lg_cmp_ge x y).mp h
theorem cmp_gen {x y : Int64} (h : ¬ 0 ≤ lg_cmp x y) : ¬ y ≤ x := fun q => h ((lg_cmp_ge x y).mpr q)
theorem cmp_lt {x y : Int64} (h : lg_cmp x y < 0) : x < y := by
  have h1 : ¬ 0 ≤ lg_cmp x y := fun q => by
    rw [Int32.le_iff_toInt_le] at q
    rw [Int32.lt_iff_toInt_lt] at h
    omega
  have h2 := cmp_gen h1
  rw [Int64.lt_iff_toInt_lt]
  rw [Int64.le_iff_toInt_le] at h2
  omega
theorem cmp_ltn {x y : Int64} (h : ¬ lg_cmp x y < 0) : ¬ x < y := fun q => by
  have h1 : 0 ≤ lg_cmp x y := by
    rw [Int32.lt_iff_toInt_lt] at h
    rw [Int32.le_iff_toInt_le]
    omega
  have h2 := cmp_ge h1
  rw [Int64.lt_iff_toInt_lt] at q
  rw [Int64.le_iff_toInt_le] at h2
  omega
theorem cmp_gt {x y : Int64} (h : 0 < lg_cmp x y) : y < x := by
  unfold lg_cmp at h
  split at h
  · assumption
  · split at h
    · exact absurd h (by decide)
    · exact absurd h (by decide)
theorem cmp_gtn {x y : Int64} (h : ¬ 0 < lg_cmp x y) : ¬ y < x := fun q => h (by
  unfold lg_cmp
  rw [if_pos q]
  decide)
theorem nar_z {v : Int32} (h : v = 0 ∨ v = 1) : narrow .boolean (.int v) = .int v := by rcases h with rfl | rfl <;> rfl
theorem fit_z {v : Int32} (h : v = 0 ∨ v = 1) : fits .boolean (.int v) = true := by rcases h with rfl | rfl <;> rfl
section MATHS
variable {p : Program} {l : Launch} {e : Env} {R : Room} {s : State} {m : MethodId} {args : Array Value} {below : List Frame} {meth : Method} {c : Code} {H : Heap} {locs : List Loc} {cells slots : Nat} {Q : State → Prop}
variable {cc : ByteArray} {mL pc idx : Nat} {ls : Array Slot} {rest : List Value} {E : Ev} {own : String} {ret : Option FieldType} {rm : Room}
theorem r_mmax (hC : Cx p R s m args meth c cc mL own ret E rm) (lk : LkS own idx yJ9_max_7cf53 cJ9_max_7cf53 2 2 (some .int)) (hl : ls.size = mL) (h1 : 1 ≤ rm.frames) (h2 : 21 ≤ rm.locals) (h3 : cells ≤ rm.cells) (h4 : slots ≤ rm.slots) (hrest : (rest.map fun v => v.category).sum ≤ 8) {x y : Int32} (hdg : decode cc pc = .ok (.invokestatic idx, 3))
    (kk : W p l e R s m args below meth c H locs cells slots Q (F0 m (pc + 3) ls (.int (if x < y then y else x) :: rest))) : W p l e R s m args below meth c H locs cells slots Q (F0 m pc ls (.int y :: .int x :: rest)) := by
  obtain ⟨hx, hb, hml, hown, hr, hlk, hK, hRm⟩ := hC
  subst hRm
  have hts : ∀ w ∈ GL, w.before args s = true := fun w hw => hK.2.1 w hw args
  have g := lk.1
  exact va_mmax hx hb (by rw [hml, hl]) hown (hts _ (g _ (List.mem_of_getElem? (i := 0) rfl))) (hts _ (g _ (List.mem_of_getElem? (i := 1) rfl))) (hts _ (g _ (List.mem_of_getElem? (i := 2) rfl))) (hts _ (g _ (List.mem_of_getElem? (i := 3) rfl))) h1 (by omega) h3 h4 hdg kk
theorem r_mmin (hC : Cx p R s m args meth c cc mL own ret E rm) (lk : LkS own idx yJ9_min_7cf53 cJ9_min_7cf53 2 2 (some .int)) (hl : ls.size = mL) (h1 : 1 ≤ rm.frames) (h2 : 21 ≤ rm.locals) (h3 : cells ≤ rm.cells) (h4 : slots ≤ rm.slots) (hrest : (rest.map fun v => v.category).sum ≤ 8) {x y : Int32} (hdg : decode cc pc = .ok (.invokestatic idx, 3))
    (kk : W p l e R s m args below meth c H locs cells slots Q (F0 m (pc + 3) ls (.int (if y < x then y else x) :: rest))) : W p l e R s m args below meth c H locs cells slots Q (F0 m pc ls (.int y :: .int x :: rest)) := by
  obtain ⟨hx, hb, hml, hown, hr, hlk, hK, hRm⟩ := hC
  subst hRm
  have hts : ∀ w ∈ GL, w.before args s = true := fun w hw => hK.2.1 w hw args
  have g := lk.1
  exact va_mmin hx hb (by rw [hml, hl]) hown (hts _ (g _ (List.mem_of_getElem? (i := 0) rfl))) (hts _ (g _ (List.mem_of_getElem? (i := 1) rfl))) (hts _ (g _ (List.mem_of_getElem? (i := 2) rfl))) (hts _ (g _ (List.mem_of_getElem? (i := 3) rfl))) h1 (by omega) h3 h4 hdg kk
end MATHS
end
section
/-! what a home does, as functions of its rows -/
def nm (S : HS) (g : Nat) : Nat := (S 7 g).toNatClampNeg
def ow (S : HS) (g : Nat) : Nat := (S 5 g).toNatClampNeg
def ho (S : HS) (g : Nat) : Nat := (S 8 g).toNatClampNeg
def ht (S : HS) : Nat := (S 0 1).toNatClampNeg
def GV (S : HS) (P g : Nat) : Prop := (∃ o, o < P ∧ S 5 g = nI o) ∧ (S 6 g = 0 ∨ S 6 g = 1 ∨ S 6 g = 2) ∧ (∃ n, n ≤ 99 ∧ S 7 g = nI n) ∧ (S 8 g = -1 ∨ ∃ q, q < P ∧ S 8 g = nI q)
def HV (S : HS) (P G : Nat) : Prop := S 0 2 = nI P ∧ P ≤ 6 ∧ S 0 3 = nI G ∧ G ≤ 10 ∧ (∃ n, 20 ≤ n ∧ n ≤ 90 ∧ S 0 1 = nI n) ∧ ∀ g, g < G → GV S P g
theorem nI_c (n : Nat) (h : n < 2 ^ 31) {x : Int32} (e : x = nI n) : x = nI x.toNatClampNeg ∧ x.toNatClampNeg = n := by
  subst e
  rw [nI_clamp h]
  exact ⟨rfl, rfl⟩
theorem GV.nm {S : HS} {P g : Nat} (h : GV S P g) : S 7 g = nI (nm S g) ∧ nm S g ≤ 99 := by
  obtain ⟨-, -, ⟨n, h1, h2⟩, -⟩ := h
  obtain ⟨q1, q2⟩ := nI_c n (by omega) h2
  exact ⟨q1, by show (S 7 g).toNatClampNeg ≤ 99; omega⟩
theorem GV.ow {S : HS} {P g : Nat} (h : GV S P g) (hP : P ≤ 6) : S 5 g = nI (ow S g) ∧ ow S g < P := by
  obtain ⟨⟨n, h1, h2⟩, -⟩ := h
  obtain ⟨q1, q2⟩ := nI_c n (by omega) h2
  exact ⟨q1, by show (S 5 g).toNatClampNeg < P; omega⟩
theorem GV.ho {S : HS} {P g : Nat} (h : GV S P g) (hP : P ≤ 6) : S 8 g = -1 ∨ (S 8 g = nI (ho S g) ∧ ho S g < P) := by
  obtain ⟨-, -, -, h | ⟨n, h1, h2⟩⟩ := h
  · exact Or.inl h
  · obtain ⟨q1, q2⟩ := nI_c n (by omega) h2
    exact Or.inr ⟨q1, by show (S 8 g).toNatClampNeg < P; omega⟩
theorem HV.ht {S : HS} {P G : Nat} (h : HV S P G) : S 0 1 = nI (ht S) ∧ 20 ≤ ht S ∧ ht S ≤ 90 := by
  obtain ⟨-, -, -, -, ⟨n, h1, h2, h3⟩, -⟩ := h
  obtain ⟨q1, q2⟩ := nI_c n (by omega) h3
  exact ⟨q1, by show 20 ≤ (S 0 1).toNatClampNeg; omega, by show (S 0 1).toNatClampNeg ≤ 90; omega⟩
def fdn (S : HS) (g : Nat) : Nat := if S 6 g = 1 then 9 + (ht S - 50) / 10 else if S 6 g = 2 then ht S / 6 else 1
def lsI (c : Nat → Bool) : Nat → Int32
  | 0 => -1
  | n + 1 => if lsI c n = -1 then (if c n then nI n else -1) else lsI c n
theorem nI_m1 {n : Nat} (h : n < 2 ^ 31) : ¬ nI n = -1 := by
  intro q
  have h1 := congrArg Int32.toInt q
  rw [nI_toInt h] at h1
  have h2 : (-1 : Int32).toInt = -1 := by decide
  omega
theorem lsI_none {c : Nat → Bool} : ∀ {n : Nat}, (∀ j, j < n → c j = false) → lsI c n = -1
  | 0, _ => rfl
  | n + 1, h => by
    rw [lsI, if_pos (lsI_none (fun j hj => h j (by omega))), h n (by omega)]
    rfl
theorem lsI_hit {c : Nat → Bool} {i : Nat} (hi : c i = true) (h : ∀ j, j < i → c j = false) : ∀ {n : Nat}, i < n → n < 2 ^ 31 → lsI c n = nI i
  | 0, q, _ => absurd q (Nat.not_lt_zero i)
  | n + 1, q, hn => by
    rw [lsI]
    rcases Nat.lt_or_ge i n with q2 | q2
    · rw [lsI_hit hi h q2 (by omega), if_neg (nI_m1 (by omega))]
    · have e : i = n := by omega
      subst e
      rw [if_pos (lsI_none h), hi]
      rfl
theorem lsI_cases (c : Nat → Bool) {n : Nat} (hn : n < 2 ^ 31) : lsI c n = -1 ∨ ∃ j, j < n ∧ lsI c n = nI j := by
  induction n with
  | zero => exact Or.inl rfl
  | succ n ih =>
    rw [lsI]
    split
    · split
      · exact Or.inr ⟨n, by omega, rfl⟩
      · exact Or.inl rfl
    · rcases ih (by omega) with q | ⟨j, h1, h2⟩
      · exact absurd q (by assumption)
      · exact Or.inr ⟨j, by omega, h2⟩
/-- the least of q .. n - 1, found from above -/
def LSq (c : Nat → Bool) (q n : Nat) (x : Int32) : Prop := (x = -1 ∧ ∀ j, q ≤ j → j < n → c j = false) ∨ ∃ j, q ≤ j ∧ j < n ∧ x = nI j ∧ c j = true ∧ ∀ i, q ≤ i → i < j → c i = false
theorem LSq_init (c : Nat → Bool) (n : Nat) : LSq c n n (-1) := Or.inl ⟨rfl, fun j h1 h2 => by omega⟩
theorem LSq_t {c : Nat → Bool} {q n : Nat} (h : c q = true) (hq : q < n) : LSq c q n (nI q) := Or.inr ⟨q, Nat.le_refl q, hq, rfl, h, fun i h1 h2 => by omega⟩
theorem LSq_f {c : Nat → Bool} {q n : Nat} {x : Int32} (h : c q = false) (hx : LSq c (q + 1) n x) : LSq c q n x := by
  rcases hx with ⟨h1, h2⟩ | ⟨j, h1, h2, h3, h4, h5⟩
  · exact Or.inl ⟨h1, fun j a b => (Nat.eq_or_lt_of_le a).elim (fun e => by rw [← e]; exact h) (fun e => h2 j e b)⟩
  · exact Or.inr ⟨j, by omega, h2, h3, h4, fun i a b => (Nat.eq_or_lt_of_le a).elim (fun e => by rw [← e]; exact h) (fun e => h5 i e b)⟩
theorem LSq_0 {c : Nat → Bool} {n : Nat} {x : Int32} (hn : n < 2 ^ 31) (h : LSq c 0 n x) : x = lsI c n := by
  rcases h with ⟨h1, h2⟩ | ⟨j, h1, h2, h3, h4, h5⟩
  · rw [h1, lsI_none (fun j hj => h2 j (Nat.zero_le j) hj)]
  · rw [h3, lsI_hit h4 (fun i hi => h5 i (Nat.zero_le i) hi) h2 hn]
def bnd (S : HS) (g i : Nat) : Bool := decide (S 2 i = S 2 (ow S g) ∧ S 4 i = 0)
def rdI (S : HS) (P g : Nat) : Int32 := if 60 ≤ nm S g ∧ S 4 (ow S g) = 0 then nI (ow S g) else if 20 ≤ nm S g then lsI (bnd S g) P else -1
def giv (S : HS) (i g : Nat) : Prop := if S 1 i = 1 ∨ S 1 i = 4 then True else if S 1 i = 2 ∨ S 1 i = 5 then False else if S 1 i = 3 then 80 ≤ nm S g else 60 ≤ nm S g
def ct (c : Nat → Bool) : Nat → Nat
  | 0 => 0
  | n + 1 => ct c n + (if c n then 1 else 0)
theorem ct_le (c : Nat → Bool) : ∀ n, ct c n ≤ n
  | 0 => Nat.le_refl 0
  | n + 1 => by
    have h := ct_le c n
    rw [ct]
    split <;> omega
theorem ct_cong {c d : Nat → Bool} : ∀ {n : Nat}, (∀ k, k < n → c k = d k) → ct c n = ct d n
  | 0, _ => rfl
  | n + 1, h => by rw [ct, ct, ct_cong (fun k hk => h k (by omega)), h n (by omega)]
theorem ct_split (c d : Nat → Bool) : ∀ n, ct c n = ct (fun g => c g && d g) n + ct (fun g => c g && !d g) n
  | 0 => rfl
  | n + 1 => by
    rw [ct, ct, ct, ct_split c d n]
    cases c n <;> cases d n <;> simp <;> omega
theorem ct_zero {c : Nat → Bool} : ∀ {n : Nat}, ct c n = 0 ↔ ∀ k, k < n → c k = false
  | 0 => ⟨fun _ k hk => absurd hk (Nat.not_lt_zero k), fun _ => rfl⟩
  | n + 1 => by
    rw [ct]
    constructor
    · intro h k hk
      rcases Nat.lt_or_ge k n with q | q
      · exact ct_zero.mp (by omega) k q
      · have e : k = n := by omega
        subst e
        cases hc : c k
        · rfl
        · rw [hc] at h; simp at h
    · intro h
      rw [ct_zero.mpr (fun k hk => h k (by omega)), h n (by omega)]
      rfl
def own1 (S : HS) (i g : Nat) : Bool := decide (S 8 g = nI i) && decide (S 5 g = nI i)
def oth1 (S : HS) (i g : Nat) : Bool := decide (S 8 g = nI i) && !decide (S 5 g = nI i)
def wth (S : HS) (x : Int32) (g : Nat) : Bool := decide (S 8 g = x)
def owd (S : HS) (x : Int32) (g : Nat) : Bool := decide (S 5 g = x)
def rgt (S : HS) (g : Nat) : Bool := decide (S 8 g = S 5 g)
def liv (S : HS) (i : Nat) : Bool := decide (S 4 i = 0)
def cOwn (S : HS) (i n : Nat) : Nat := ct (own1 S i) n
def cOth (S : HS) (i n : Nat) : Nat := ct (oth1 S i) n
theorem ct_wth (S : HS) (i n : Nat) : ct (wth S (nI i)) n = cOwn S i n + cOth S i n := ct_split (wth S (nI i)) (owd S (nI i)) n
def clm (S : HS) (i g G : Nat) : Prop := if S 1 i = 1 ∨ S 1 i = 4 then S 5 g = nI i else if S 1 i = 2 then cOwn S i G + cOth S i G = 0 else if S 1 i = 5 then cOwn S i G + cOth S i G = 0 ∨ 50 ≤ nm S g else S 5 g = nI i ∧ 1 ≤ nm S g
def mnd (S : HS) (i G : Nat) : Int32 := if S 1 i = 1 then 2 * nI (cOwn S i G) - 3 * nI (cOth S i G) else if S 1 i = 2 then nI (cOwn S i G) + nI (cOth S i G) else if S 1 i = 3 then nI (cOwn S i G) - nI (cOth S i G) + 1 else if S 1 i = 4 then 2 * nI (cOwn S i G) - 3 * nI (cOth S i G) + (if cOth S i G = 0 then 2 else 0) else if S 1 i = 5 then nI (cOwn S i G) + 2 * nI (cOth S i G) else nI (cOwn S i G) - nI (cOth S i G)
/-- sets by bits -/
def mset (c : Nat → Bool) : Nat → Nat
  | 0 => 0
  | n + 1 => mset c n + (if c n then 2 ^ n else 0)
theorem mset_lt (c : Nat → Bool) : ∀ n, mset c n < 2 ^ n
  | 0 => by simp [mset]
  | n + 1 => by
    have h := mset_lt c n
    rw [mset, Nat.pow_succ]
    split <;> omega
theorem mset_cong {c d : Nat → Bool} : ∀ {n : Nat}, (∀ k, k < n → c k = d k) → mset c n = mset d n
  | 0, _ => rfl
  | n + 1, h => by rw [mset, mset, mset_cong (fun k hk => h k (by omega)), h n (by omega)]
theorem mset_bit (c : Nat → Bool) : ∀ n i, (mset c n).testBit i = (decide (i < n) && c i)
  | 0, i => by simp [mset]
  | n + 1, i => by
    have h := mset_lt c n
    have ih := mset_bit c n
    rw [mset]
    cases hc : c n
    · rw [if_neg (by decide), Nat.add_zero, ih i]
      by_cases hi : i < n
      · simp [hi, Nat.lt_succ_of_lt hi]
      · by_cases e : i = n
        · subst e; simp [hc]
        · have : ¬ i < n + 1 := by omega
          simp [hi, this]
    · rw [if_pos rfl, Nat.add_comm]
      rcases Nat.lt_trichotomy i n with q | q | q
      · rw [Nat.testBit_two_pow_add_gt q, ih i]
        simp [q, Nat.lt_succ_of_lt q]
      · subst q
        rw [Nat.testBit_two_pow_add_eq, ih i]
        simp [hc]
      · rw [Nat.testBit_lt_two_pow]
        · have : ¬ i < n + 1 := by omega
          simp [this]
        · have h1 : 2 ^ (n + 1) ≤ 2 ^ i := Nat.pow_le_pow_right (by decide) (by omega)
          rw [Nat.pow_succ] at h1
          omega
theorem nI_and (a b : Nat) : nI a &&& nI b = nI (a &&& b) := by
  apply Int32.toBitVec_inj.1
  show BitVec.ofNat 32 a &&& BitVec.ofNat 32 b = BitVec.ofNat 32 (a &&& b)
  apply BitVec.eq_of_getLsbD_eq
  intro i hi
  simp [hi]
theorem nI_or (a b : Nat) : nI a ||| nI b = nI (a ||| b) := by
  apply Int32.toBitVec_inj.1
  show BitVec.ofNat 32 a ||| BitVec.ofNat 32 b = BitVec.ofNat 32 (a ||| b)
  apply BitVec.eq_of_getLsbD_eq
  intro i hi
  simp [hi]
theorem mset_or (c : Nat → Bool) (n : Nat) : mset c n ||| 2 ^ n = mset c n + 2 ^ n := by
  have h := Nat.two_pow_add_eq_or_of_lt (mset_lt c n) 1
  rw [Nat.mul_one] at h
  rw [Nat.or_comm, ← h, Nat.add_comm]
theorem nI_sh : ∀ g, g < 10 → (1 : Int32) <<< (nI g &&& 31) = nI (2 ^ g) := by decide
theorem mset_put {c : Nat → Bool} {n : Nat} (h : c n = true) (hn : n < 10) : nI (mset c n) ||| ((1 : Int32) <<< (nI n &&& 31)) = nI (mset c (n + 1)) := by
  rw [nI_sh n hn, nI_or, mset_or, mset, if_pos h]
theorem mset_no {c : Nat → Bool} {n : Nat} (h : c n = false) : mset c (n + 1) = mset c n := by rw [mset, h]; rfl
theorem mset_no0 {c : Nat → Bool} {n : Nat} (h : c n = false) : nI (mset c n) ||| (0 : Int32) = nI (mset c (n + 1)) := by
  rw [mset_no h, show (0 : Int32) = nI 0 from rfl, nI_or, Nat.or_zero]
theorem mset_and (c d : Nat → Bool) (n : Nat) : mset c n &&& mset d n = mset (fun g => c g && d g) n := by
  apply Nat.eq_of_testBit_eq
  intro i
  rw [Nat.testBit_and, mset_bit, mset_bit, mset_bit]
  cases decide (i < n) <;> simp
/-- how many bits of the lowest ten -/
def pcN (k : Nat) : Nat := ct (fun i => k.testBit i) 10
theorem ct_cut (c : Nat → Bool) (n : Nat) : ∀ m, ct (fun i => decide (i < n) && c i) (n + m) = ct c n
  | 0 => ct_cong (fun k hk => by rw [decide_eq_true (show k < n from hk), Bool.true_and])
  | m + 1 => by
    rw [← Nat.add_assoc, ct, ct_cut c n m, decide_eq_false (show ¬ n + m < n by omega)]
    rfl
theorem pcN_mset (c : Nat → Bool) {n : Nat} (hn : n ≤ 10) : pcN (mset c n) = ct c n := by
  have h := ct_cut c n (10 - n)
  rw [show n + (10 - n) = 10 by omega] at h
  rw [← h]
  exact ct_cong (fun k _ => mset_bit c n k)
theorem mset_lt10 (c : Nat → Bool) {n : Nat} (hn : n ≤ 10) : mset c n < 1024 := Nat.lt_of_lt_of_le (mset_lt c n) (show 2 ^ n ≤ 2 ^ 10 from Nat.pow_le_pow_right (by decide) hn)
theorem mset_zero {c : Nat → Bool} {n : Nat} : mset c n = 0 ↔ ct c n = 0 := by
  rw [ct_zero]
  constructor
  · intro h k hk
    have h1 := mset_bit c n k
    rw [h, Nat.zero_testBit] at h1
    simpa [hk] using h1.symm
  · intro h
    apply Nat.eq_of_testBit_eq
    intro i
    rw [mset_bit, Nat.zero_testBit]
    by_cases hi : i < n
    · simp [hi, h i hi]
    · simp [hi]
theorem pc_step : ∀ k, k < 1024 → 0 < k → (k &&& (k - 1)) < k ∧ pcN k = pcN (k &&& (k - 1)) + 1 := by decide +kernel
theorem pc_0 : pcN 0 = 0 := by decide
/-- sums -/
def smI (f : Nat → Int32) : Nat → Int32
  | 0 => 0
  | n + 1 => smI f n + f n
/-- a week -/
def hld (x : Int32) : Int32 := if x < -999 then -999 else if 999 < x then 999 else x
theorem giv_dec (S : HS) (i g : Nat) : giv S i g ∨ ¬ giv S i g := Classical.em _
noncomputable def giB (S : HS) (i g : Nat) : Bool := @decide (giv S i g) (Classical.propDecidable _)
noncomputable def clB (S : HS) (i g G : Nat) : Bool := @decide (clm S i g G) (Classical.propDecidable _)
theorem giB_t {S : HS} {i g : Nat} : giB S i g = true ↔ giv S i g := by unfold giB; simp
theorem giB_f {S : HS} {i g : Nat} : giB S i g = false ↔ ¬ giv S i g := by unfold giB; simp
theorem clB_t {S : HS} {i g G : Nat} : clB S i g G = true ↔ clm S i g G := by unfold clB; simp
theorem clB_f {S : HS} {i g G : Nat} : clB S i g G = false ↔ ¬ clm S i g G := by unfold clB; simp
def fade (S : HS) (g : Nat) : HS := st S 7 g (nI (nm S g - fdn S g))
noncomputable def w1 (S : HS) (P g : Nat) : HS := if S 8 g = -1 then S else if S 8 g = S 5 g ∨ S 4 (ho S g) = 1 ∨ giB (fade S g) (ho S g) g = true then st (fade S g) 8 g (rdI (fade S g) P g) else fade S g
noncomputable def wN (S : HS) (P : Nat) : Nat → HS
  | 0 => S
  | n + 1 => w1 (wN S P n) P n
noncomputable def cls (S : HS) (g G i : Nat) : Bool := liv S i && clB S i g G
noncomputable def y1 (S : HS) (P G g : Nat) : HS := if S 8 g = -1 then st S 8 g (lsI (cls S g G) P) else S
noncomputable def yN (S : HS) (P G : Nat) : Nat → HS
  | 0 => S
  | n + 1 => y1 (yN S P G n) P G n
def k1 (S : HS) (G i : Nat) : HS := if S 4 i = 0 then st S 3 i (hld (S 3 i + mnd S i G)) else S
def kN (S : HS) (G : Nat) : Nat → HS
  | 0 => S
  | n + 1 => k1 (kN S G n) G n
noncomputable def yT (S : HS) (P G : Nat) : HS := if S 0 0 - S 0 0 / 2 * 2 = 1 then yN S P G G else S
noncomputable def wk (S : HS) (P G : Nat) : HS := let Z := kN (yT (wN S P G) P G) G P; st Z 0 0 (Z 0 0 + 1)
noncomputable def wks (S : HS) (P G : Nat) : Nat → HS
  | 0 => S
  | n + 1 => wk (wks S P G n) P G
end
section
theorem HV.p {S : HS} {P G : Nat} (h : HV S P G) : S 0 2 = nI P := h.1
theorem HV.p6 {S : HS} {P G : Nat} (h : HV S P G) : P ≤ 6 := h.2.1
theorem HV.g {S : HS} {P G : Nat} (h : HV S P G) : S 0 3 = nI G := h.2.2.1
theorem HV.g10 {S : HS} {P G : Nat} (h : HV S P G) : G ≤ 10 := h.2.2.2.1
theorem HV.gv {S : HS} {P G g : Nat} (h : HV S P G) (hg : g < G) : GV S P g := h.2.2.2.2.2 g hg
theorem HV.nmv {S : HS} {P G g : Nat} (h : HV S P G) (hg : g < G) : S 7 g = nI (nm S g) := (h.gv hg).nm.1
theorem HV.nm99 {S : HS} {P G g : Nat} (h : HV S P G) (hg : g < G) : nm S g ≤ 99 := (h.gv hg).nm.2
theorem HV_of {S Z : HS} {P G : Nat} (h : HV S P G) (e1 : Z 0 1 = S 0 1) (e2 : Z 0 2 = S 0 2) (e3 : Z 0 3 = S 0 3) (hg : ∀ g, g < G → GV Z P g) : HV Z P G := ⟨e2.trans h.1, h.2.1, e3.trans h.2.2.1, h.2.2.2.1, by rw [e1]; exact h.2.2.2.2.1, hg⟩
theorem HV_same {S Z : HS} {P G : Nat} (h : HV S P G) (e1 : Z 0 1 = S 0 1) (e2 : Z 0 2 = S 0 2) (e3 : Z 0 3 = S 0 3) (e5 : Z 5 = S 5) (e6 : Z 6 = S 6) (e7 : Z 7 = S 7) (e8 : Z 8 = S 8) : HV Z P G := HV_of h e1 e2 e3 (fun g hg => by unfold GV; rw [e5, e6, e7, e8]; exact h.gv hg)
theorem HV_7 {S : HS} {P G g n : Nat} (h : HV S P G) (hn : n ≤ 99) : HV (st S 7 g (nI n)) P G := by
  refine HV_of h rfl rfl rfl (fun k hk => ?_)
  obtain ⟨h1, h2, h3, h4⟩ := h.gv hk
  refine ⟨h1, h2, ?_, h4⟩
  show ∃ n', n' ≤ 99 ∧ upd (S 7) g (nI n) k = nI n'
  by_cases e : k = g
  · subst e; exact ⟨n, hn, upd_at _ _ _⟩
  · rw [upd_ne _ _ e]; exact h3
theorem HV_8 {S : HS} {P G g : Nat} {x : Int32} (h : HV S P G) (hx : x = -1 ∨ ∃ q, q < P ∧ x = nI q) : HV (st S 8 g x) P G := by
  refine HV_of h rfl rfl rfl (fun k hk => ?_)
  obtain ⟨h1, h2, h3, h4⟩ := h.gv hk
  refine ⟨h1, h2, h3, ?_⟩
  show upd (S 8) g x k = -1 ∨ ∃ q, q < P ∧ upd (S 8) g x k = nI q
  by_cases e : k = g
  · subst e; rw [upd_at]; exact hx
  · rw [upd_ne _ _ e]; exact h4
theorem HV_6 {S : HS} {P G g : Nat} {x : Int32} (h : HV S P G) (hx : x = 0 ∨ x = 1 ∨ x = 2) : HV (st S 6 g x) P G := by
  refine HV_of h rfl rfl rfl (fun k hk => ?_)
  obtain ⟨h1, h2, h3, h4⟩ := h.gv hk
  refine ⟨h1, ?_, h3, h4⟩
  show upd (S 6) g x k = 0 ∨ upd (S 6) g x k = 1 ∨ upd (S 6) g x k = 2
  by_cases e : k = g
  · subst e; rw [upd_at]; exact hx
  · rw [upd_ne _ _ e]; exact h2
theorem HV_5 {S : HS} {P G g o : Nat} (h : HV S P G) (ho : o < P) : HV (st S 5 g (nI o)) P G := by
  refine HV_of h rfl rfl rfl (fun k hk => ?_)
  obtain ⟨h1, h2, h3, h4⟩ := h.gv hk
  refine ⟨?_, h2, h3, h4⟩
  show ∃ n', n' < P ∧ upd (S 5) g (nI o) k = nI n'
  by_cases e : k = g
  · subst e; exact ⟨o, ho, upd_at _ _ _⟩
  · rw [upd_ne _ _ e]; exact h1
theorem HV_1 {S : HS} {P G : Nat} (f i : Nat) (x : Int32) (h : HV S P G) (h1 : 1 ≤ f) (h4 : f ≤ 4) : HV (st S f i x) P G :=
  HV_same h (by rw [st_ne _ _ _ (by omega)]) (by rw [st_ne _ _ _ (by omega)]) (by rw [st_ne _ _ _ (by omega)]) (st_ne _ _ _ (by omega)) (st_ne _ _ _ (by omega)) (st_ne _ _ _ (by omega)) (st_ne _ _ _ (by omega))
theorem HV_00 {S : HS} {P G : Nat} {x : Int32} (h : HV S P G) : HV (st S 0 0 x) P G := HV_same h rfl rfl rfl rfl rfl rfl rfl
theorem HV_01 {S : HS} {P G n : Nat} (h : HV S P G) (h1 : 20 ≤ n) (h2 : n ≤ 90) : HV (st S 0 1 (nI n)) P G := ⟨h.1, h.2.1, h.2.2.1, h.2.2.2.1, ⟨n, h1, h2, rfl⟩, h.2.2.2.2.2⟩
theorem rdI_cases {S : HS} {P G g : Nat} (h : HV S P G) (hg : g < G) : rdI S P g = -1 ∨ ∃ q, q < P ∧ rdI S P g = nI q := by
  unfold rdI
  have hp := h.p6
  split
  · exact Or.inr ⟨ow S g, ((h.gv hg).ow hp).2, rfl⟩
  · split
    · exact lsI_cases _ (by omega)
    · exact Or.inl rfl
theorem HV_fade {S : HS} {P G g : Nat} (h : HV S P G) (hg : g < G) : HV (fade S g) P G := HV_7 h (by have := (h.gv hg).nm.2; omega)
theorem HV_w1 {S : HS} {P G g : Nat} (h : HV S P G) (hg : g < G) : HV (w1 S P g) P G := by
  unfold w1
  split
  · exact h
  · split
    · exact HV_8 (HV_fade h hg) (rdI_cases (HV_fade h hg) hg)
    · exact HV_fade h hg
theorem HV_wN {S : HS} {P G : Nat} (h : HV S P G) : ∀ n, n ≤ G → HV (wN S P n) P G
  | 0, _ => h
  | n + 1, hn => HV_w1 (HV_wN h n (by omega)) (by omega)
theorem HV_y1 {S : HS} {P G g : Nat} (h : HV S P G) : HV (y1 S P G g) P G := by
  unfold y1
  split
  · exact HV_8 h (lsI_cases _ (by have := h.p6; omega))
  · exact h
theorem HV_yN {S : HS} {P G : Nat} (h : HV S P G) : ∀ n, HV (yN S P G n) P G
  | 0 => h
  | n + 1 => HV_y1 (HV_yN h n)
theorem HV_k1 {S : HS} {P G i : Nat} (h : HV S P G) : HV (k1 S G i) P G := by
  unfold k1
  split
  · exact HV_1 3 i _ h (by decide) (by decide)
  · exact h
theorem HV_kN {S : HS} {P G : Nat} (h : HV S P G) : ∀ n, HV (kN S G n) P G
  | 0 => h
  | n + 1 => HV_k1 (HV_kN h n)
theorem HV_yT {S : HS} {P G : Nat} (h : HV S P G) : HV (yT S P G) P G := by
  unfold yT
  split
  · exact HV_yN h G
  · exact h
theorem HV_wk {S : HS} {P G : Nat} (h : HV S P G) : HV (wk S P G) P G := HV_00 (HV_kN (HV_yT (HV_wN h G (Nat.le_refl G))) P)
theorem HV_wks {S : HS} {P G : Nat} (h : HV S P G) : ∀ n, HV (wks S P G n) P G
  | 0 => h
  | n + 1 => HV_wk (HV_wks h n)
/-- rows that stay -/
theorem w1_row {S : HS} {P g f : Nat} (h7 : f ≠ 7) (h8 : f ≠ 8) : w1 S P g f = S f := by
  unfold w1 fade
  split
  · rfl
  · split
    · rw [st_ne _ _ _ h8, st_ne _ _ _ h7]
    · rw [st_ne _ _ _ h7]
theorem wN_row {S : HS} {P f : Nat} (h7 : f ≠ 7) (h8 : f ≠ 8) : ∀ n, wN S P n f = S f
  | 0 => rfl
  | n + 1 => by rw [wN, w1_row h7 h8, wN_row h7 h8 n]
theorem y1_row {S : HS} {P G g f : Nat} (h8 : f ≠ 8) : y1 S P G g f = S f := by
  unfold y1
  split
  · rw [st_ne _ _ _ h8]
  · rfl
theorem yN_row {S : HS} {P G f : Nat} (h8 : f ≠ 8) : ∀ n, yN S P G n f = S f
  | 0 => rfl
  | n + 1 => by rw [yN, y1_row h8, yN_row h8 n]
theorem k1_row {S : HS} {G i f : Nat} (h3 : f ≠ 3) : k1 S G i f = S f := by
  unfold k1
  split
  · rw [st_ne _ _ _ h3]
  · rfl
theorem kN_row {S : HS} {G f : Nat} (h3 : f ≠ 3) : ∀ n, kN S G n f = S f
  | 0 => rfl
  | n + 1 => by rw [kN, k1_row h3, kN_row h3 n]
end
section
def plc (k f i : Nat) : Prop := (k < 4 ∧ f = 0 ∧ i = k) ∨ (4 ≤ k ∧ k < 28 ∧ f = 1 + (k - 4) % 4 ∧ i = (k - 4) / 4) ∨ (28 ≤ k ∧ f = 5 + (k - 28) % 4 ∧ i = (k - 28) / 4)
theorem upd_plc (S : HS) {k f i : Nat} (h : plc k f i) (v : Int32) : upd (enc S) k v = enc (st S f i v) := enc_at S h v
theorem enc_plc (S : HS) {k f i : Nat} (h : plc k f i) : enc S k = S f i := by
  rcases h with ⟨h1, rfl, rfl⟩ | ⟨h1, h2, rfl, rfl⟩ | ⟨h1, rfl, rfl⟩
  · exact enc_0 S h1
  · have : ¬ k < 4 := by omega
    simp only [enc, this, h2, if_false, if_true]
  · have h2 : ¬ k < 4 := by omega
    have h3 : ¬ k < 28 := by omega
    simp only [enc, h2, h3, if_false]
theorem plc_p {p j : Nat} (hp : p < 6) (hj : j < 4) : plc (4 + 4 * p + j) (1 + j) p := by unfold plc; omega
theorem plc_g {g j : Nat} (hj : j < 4) : plc (28 + 4 * g + j) (5 + j) g := by unfold plc; omega
theorem nI_pd {n : Nat} (h : n ≤ 1000) : (nI n - 1).toInt = (n : Int) - 1 := by
  have h1 := pk_sub_toInt (a := n) (b := 1) (by omega) (by decide)
  exact h1
theorem in_iff {x : Int32} {n : Nat} (h : n ≤ 1000) : (0 ≤ x ∧ x ≤ nI n - 1) ↔ ∃ j, j < n ∧ x = nI j := by
  rw [Int32.le_iff_toInt_le, Int32.le_iff_toInt_le, nI_pd h]
  constructor
  · rintro ⟨h1, h2⟩
    have h3 : (0 : Int32).toInt = 0 := rfl
    obtain ⟨j, h4, h5⟩ := nI_of (x := x) (by rw [Int32.lt_iff_toInt_lt]; omega)
    refine ⟨j, ?_, h5⟩
    rw [h5, nI_toInt h4] at h2
    omega
  · rintro ⟨j, h1, rfl⟩
    rw [nI_toInt (by omega)]
    have h3 : (0 : Int32).toInt = 0 := rfl
    omega
end
section
set_option maxHeartbeats 4000000 in
set_option maxRecDepth 100000 in
theorem c_X5_in (l : Launch) (E : Ev) (x1 : Int32) (x2 : Int32) (x3 : Int32) : MI l E yX5_in cX5_in 3 .boolean 0 0 0 0 [.int x1, .int x2, .int x3] [] (fun (r : Int32) (_ : Unit) => bz (x2 ≤ x1 ∧ x1 ≤ x3) r) (fun (_ : Unit) => []) := by
  refine MI_intro RX5 (by decide) rfl (Nat.le_of_ble_eq_true rfl) ?_
  intro p e R s m args below meth c A Q hQ hC hD hW hA ls hl
  have hx := hC.1
  have hb := hC.2.1
  have hW : Wd E A s.heap [] s.heap [] := hW
  have hl : lv_has ls 3 [(0, .int x1), (1, .int x2), (2, .int x3)] := hl
  refine lv_iload_n hx hb dX5_in_0 rfl (lv_at hl 0 rfl) ?_
  refine lv_iload_n hx hb dX5_in_1 rfl (lv_at hl 1 rfl) ?_
  refine lv_icmp_lt (tgt := 14) hx hb dX5_in_2 (by decide) (fun c_1 => ?_) (fun c_1 => ?_)
  · refine lv_iconst (v := 0) hx hb dX5_in_14 (by decide) ?_
    exact r_zret hC hQ hD hW (by decide) () (bz_f (by clear hQ hD hC hA; simp only [Int32.lt_iff_toInt_lt, Int32.le_iff_toInt_le, ← Int32.toInt_inj] at *; omega)) rfl rfl dX5_in_15
  · refine lv_iload_n hx hb dX5_in_5 rfl (lv_at hl 0 rfl) ?_
    refine lv_iload_n hx hb dX5_in_6 rfl (lv_at hl 2 rfl) ?_
    refine lv_icmp_gt (tgt := 14) hx hb dX5_in_7 (by decide) (fun c_2 => ?_) (fun c_2 => ?_)
    · refine lv_iconst (v := 0) hx hb dX5_in_14 (by decide) ?_
      exact r_zret hC hQ hD hW (by decide) () (bz_f (by clear hQ hD hC hA; simp only [Int32.lt_iff_toInt_lt, Int32.le_iff_toInt_le, ← Int32.toInt_inj] at *; omega)) rfl rfl dX5_in_15
    · refine lv_iconst (v := 1) hx hb dX5_in_10 (by decide) ?_
      refine lv_goto (tgt := 15) hx hb dX5_in_11 (by decide) ?_
      exact r_zret hC hQ hD hW (by decide) () (bz_t (by clear hQ hD hC hA; simp only [Int32.lt_iff_toInt_lt, Int32.le_iff_toInt_le, ← Int32.toInt_inj] at *; omega)) rfl rfl dX5_in_15
set_option maxHeartbeats 4000000 in
set_option maxRecDepth 100000 in
theorem c_X5_held (l : Launch) (E : Ev) (x1 : Int32) (x2 : Int32) (x3 : Int32) : MI l E yX5_held cX5_held 3 .int 0 0 0 0 [.int x1, .int x2, .int x3] [] (fun (r : Int32) (_ : Unit) => r = if x1 < x2 then x2 else if x3 < x1 then x3 else x1) (fun (_ : Unit) => []) := by
  refine MI_intro RX5 (by decide) rfl (Nat.le_of_ble_eq_true rfl) ?_
  intro p e R s m args below meth c A Q hQ hC hD hW hA ls hl
  have hx := hC.1
  have hb := hC.2.1
  have hW : Wd E A s.heap [] s.heap [] := hW
  have hl : lv_has ls 3 [(0, .int x1), (1, .int x2), (2, .int x3)] := hl
  refine lv_iload_n hx hb dX5_held_0 rfl (lv_at hl 0 rfl) ?_
  refine lv_iload_n hx hb dX5_held_1 rfl (lv_at hl 1 rfl) ?_
  refine lv_icmp_ge (tgt := 9) hx hb dX5_held_2 (by decide) (fun c_1 => ?_) (fun c_1 => ?_)
  · refine lv_iload_n hx hb dX5_held_9 rfl (lv_at hl 0 rfl) ?_
    refine lv_iload_n hx hb dX5_held_10 rfl (lv_at hl 2 rfl) ?_
    refine lv_icmp_le (tgt := 18) hx hb dX5_held_11 (by decide) (fun c_2 => ?_) (fun c_2 => ?_)
    · refine lv_iload_n hx hb dX5_held_18 rfl (lv_at hl 0 rfl) ?_
      exact r_iret hC hQ hD hW () (by clear hQ hD hC hA; (repeat' split) <;> first | rfl | (exfalso; simp only [Int32.lt_iff_toInt_lt, Int32.le_iff_toInt_le] at *; omega)) rfl rfl dX5_held_19
    · refine lv_iload_n hx hb dX5_held_14 rfl (lv_at hl 2 rfl) ?_
      refine lv_goto (tgt := 19) hx hb dX5_held_15 (by decide) ?_
      exact r_iret hC hQ hD hW () (by clear hQ hD hC hA; (repeat' split) <;> first | rfl | (exfalso; simp only [Int32.lt_iff_toInt_lt, Int32.le_iff_toInt_le] at *; omega)) rfl rfl dX5_held_19
  · refine lv_iload_n hx hb dX5_held_5 rfl (lv_at hl 1 rfl) ?_
    refine lv_goto (tgt := 19) hx hb dX5_held_6 (by decide) ?_
    exact r_iret hC hQ hD hW () (by clear hQ hD hC hA; (repeat' split) <;> first | rfl | (exfalso; simp only [Int32.lt_iff_toInt_lt, Int32.le_iff_toInt_le] at *; omega)) rfl rfl dX5_held_19
set_option maxHeartbeats 4000000 in
set_option maxRecDepth 100000 in
theorem c_X5_finds (l : Launch) (E : Ev) (a : Nat) (fs : List Value) (b2 : Nat) (hf1 : fs[1]? = some (.ref b2)) (F : Nat → Int32) (x1 : Int32) (k : Nat) (hk : k < 7) (hxk : (-1000000001) - x1 = nI k) : MI l E yX5_finds cX5_finds 2 .int 0 0 0 0 [.ref a, .int x1] ([(a, .inr (5, fs))] ++ IA E b2 7 F) (fun (r : Int32) (_ : Unit) => r = x1) (fun (_ : Unit) => ([(a, .inr (5, fs))] ++ IA E b2 7 (upd F k (F k + 1)))) := by
  refine MI_intro RX5 (by decide) rfl (Nat.le_of_ble_eq_true rfl) ?_
  intro p e R s m args below meth c A Q hQ hC hD hW hA ls hl
  have hx := hC.1
  have hb := hC.2.1
  have hW : Wd E A s.heap ([(a, .inr (5, fs))] ++ IA E b2 7 F) s.heap [] := hW
  have hl : lv_has ls 2 [(0, .ref a), (1, .int x1)] := hl
  refine lv_aload_n hx hb dX5_finds_0 rfl (lv_at hl 0 rfl) ?_
  refine r_get hC hW flX5_13 0 rfl hf1 dX5_finds_1 ?_
  refine r_ldc hC ctX5_44 dX5_finds_4 ?_
  refine lv_iload_n hx hb dX5_finds_6 rfl (lv_at hl 1 rfl) ?_
  refine n_isub (v := (nI k)) hx hb dX5_finds_7 hxk ?_
  refine lv_dup2_11 hx hb dX5_finds_8 rfl rfl ?_
  refine r_iald hC hW 1 rfl k rfl (by omega) (by decide) dX5_finds_9 ?_
  refine lv_iconst (v := 1) hx hb dX5_finds_10 (by decide) ?_
  refine n_iadd (v := ((F k) + 1)) hx hb dX5_finds_11 rfl ?_
  refine r_iast (ws' := ([(a, .inr (5, fs))] ++ IA E b2 7 (upd F k ((F k) + 1)))) hC hD hW 1 rfl k rfl (by omega) (by decide) rfl rfl dX5_finds_12 (fun H locs hW => ?_)
  refine lv_iload_n hx hb dX5_finds_13 rfl (lv_at hl 1 rfl) ?_
  exact r_iret hC hQ hD hW () rfl rfl rfl dX5_finds_14
set_option maxHeartbeats 4000000 in
set_option maxRecDepth 100000 in
theorem c_X5_its (l : Launch) (E : Ev) (a : Nat) (b : Nat) (fs : List Value) (hf : fs[0]? = some (.ref b)) (S : HS) (i : Nat) (k : Nat) (hi : i < 6) (hk : k < 4) : MI l E yX5_its cX5_its 3 .int 0 0 0 0 [.ref a, .int (nI i), .int (nI k)] (MR E a b fs S) (fun (r : Int32) (_ : Unit) => r = S (1 + k) i) (fun (_ : Unit) => (MR E a b fs S)) := by
  refine MI_intro RX5 (by decide) rfl (Nat.le_of_ble_eq_true rfl) ?_
  intro p e R s m args below meth c A Q hQ hC hD hW hA ls hl
  have hx := hC.1
  have hb := hC.2.1
  have hW : Wd E A s.heap (MR E a b fs S) s.heap [] := hW
  have hl : lv_has ls 3 [(0, .ref a), (1, .int (nI i)), (2, .int (nI k))] := hl
  refine lv_aload_n hx hb dX5_its_0 rfl (lv_at hl 0 rfl) ?_
  refine r_get hC hW flX5_7 0 rfl hf dX5_its_1 ?_
  refine lv_iconst (v := 4) hx hb dX5_its_4 (by decide) ?_
  refine lv_iconst (v := 4) hx hb dX5_its_5 (by decide) ?_
  refine lv_iload_n hx hb dX5_its_6 rfl (lv_at hl 1 rfl) ?_
  refine n_imul (v := (nI (4 * i))) hx hb dX5_its_7 (pk_mul 4 i) ?_
  refine n_iadd (v := (nI (4 + 4 * i))) hx hb dX5_its_8 (nI_add 4 (4 * i)) ?_
  refine lv_iload_n hx hb dX5_its_9 rfl (lv_at hl 2 rfl) ?_
  refine n_iadd (v := (nI (4 + 4 * i + k))) hx hb dX5_its_10 (nI_add (4 + 4 * i) k) ?_
  refine r_iald hC hW 1 rfl (4 + 4 * i + k) rfl (by omega) (by decide) dX5_its_11 ?_
  refine n_top (enc_p S (p := i) (j := k) (by omega) (by omega)) ?_
  exact r_iret hC hQ hD hW () rfl rfl rfl dX5_its_12
set_option maxHeartbeats 4000000 in
set_option maxRecDepth 100000 in
theorem c_X5_worn (l : Launch) (E : Ev) (a : Nat) (b : Nat) (fs : List Value) (hf : fs[0]? = some (.ref b)) (S : HS) (g : Nat) (k : Nat) (hg : g < 10) (hk : k < 4) : MI l E yX5_worn cX5_worn 3 .int 0 0 0 0 [.ref a, .int (nI g), .int (nI k)] (MR E a b fs S) (fun (r : Int32) (_ : Unit) => r = S (5 + k) g) (fun (_ : Unit) => (MR E a b fs S)) := by
  refine MI_intro RX5 (by decide) rfl (Nat.le_of_ble_eq_true rfl) ?_
  intro p e R s m args below meth c A Q hQ hC hD hW hA ls hl
  have hx := hC.1
  have hb := hC.2.1
  have hW : Wd E A s.heap (MR E a b fs S) s.heap [] := hW
  have hl : lv_has ls 3 [(0, .ref a), (1, .int (nI g)), (2, .int (nI k))] := hl
  refine lv_aload_n hx hb dX5_worn_0 rfl (lv_at hl 0 rfl) ?_
  refine r_get hC hW flX5_7 0 rfl hf dX5_worn_1 ?_
  refine lv_bipush (v := 28) hx hb dX5_worn_4 (by decide) ?_
  refine lv_iconst (v := 4) hx hb dX5_worn_6 (by decide) ?_
  refine lv_iload_n hx hb dX5_worn_7 rfl (lv_at hl 1 rfl) ?_
  refine n_imul (v := (nI (4 * g))) hx hb dX5_worn_8 (pk_mul 4 g) ?_
  refine n_iadd (v := (nI (28 + 4 * g))) hx hb dX5_worn_9 (nI_add 28 (4 * g)) ?_
  refine lv_iload_n hx hb dX5_worn_10 rfl (lv_at hl 2 rfl) ?_
  refine n_iadd (v := (nI (28 + 4 * g + k))) hx hb dX5_worn_11 (nI_add (28 + 4 * g) k) ?_
  refine r_iald hC hW 1 rfl (28 + 4 * g + k) rfl (by omega) (by decide) dX5_worn_12 ?_
  refine n_top (enc_g S (g := g) (j := k) (by omega)) ?_
  exact r_iret hC hQ hD hW () rfl rfl rfl dX5_worn_13
set_option maxHeartbeats 4000000 in
set_option maxRecDepth 100000 in
theorem c_X5_puts (l : Launch) (E : Ev) (a : Nat) (b : Nat) (fs : List Value) (hf : fs[0]? = some (.ref b)) (S : HS) (i : Nat) (k : Nat) (x : Int32) (hi : i < 6) (hk : k < 4) : MV l E yX5_puts cX5_puts 4 0 0 0 0 [.ref a, .int (nI i), .int (nI k), .int x] (MR E a b fs S) (fun (_ : Unit) => True) (fun (_ : Unit) => (MR E a b fs (st S (1 + k) i x))) := by
  refine MV_intro RX5 (by decide) rfl (Nat.le_of_ble_eq_true rfl) ?_
  intro p e R s m args below meth c A Q hQ hC hnm hD hW hA ls hl
  have hx := hC.1
  have hb := hC.2.1
  have hW : Wd E A s.heap (MR E a b fs S) s.heap [] := hW
  have hl : lv_has ls 4 [(0, .ref a), (1, .int (nI i)), (2, .int (nI k)), (3, .int x)] := hl
  refine lv_aload_n hx hb dX5_puts_0 rfl (lv_at hl 0 rfl) ?_
  refine r_get hC hW flX5_7 0 rfl hf dX5_puts_1 ?_
  refine lv_iconst (v := 4) hx hb dX5_puts_4 (by decide) ?_
  refine lv_iconst (v := 4) hx hb dX5_puts_5 (by decide) ?_
  refine lv_iload_n hx hb dX5_puts_6 rfl (lv_at hl 1 rfl) ?_
  refine n_imul (v := (nI (4 * i))) hx hb dX5_puts_7 (pk_mul 4 i) ?_
  refine n_iadd (v := (nI (4 + 4 * i))) hx hb dX5_puts_8 (nI_add 4 (4 * i)) ?_
  refine lv_iload_n hx hb dX5_puts_9 rfl (lv_at hl 2 rfl) ?_
  refine n_iadd (v := (nI (4 + 4 * i + k))) hx hb dX5_puts_10 (nI_add (4 + 4 * i) k) ?_
  refine lv_iload_n hx hb dX5_puts_11 rfl (lv_at hl 3 rfl) ?_
  refine r_iast (ws' := (MR E a b fs (st S (1 + k) i x))) hC hD hW 1 rfl (4 + 4 * i + k) rfl (by omega) (by decide) rfl (by rw [upd_p S hi hk]; rfl) dX5_puts_12 (fun H locs hW => ?_)
  exact r_vret hC hQ hD hW () trivial rfl rfl dX5_puts_13
set_option maxHeartbeats 4000000 in
set_option maxRecDepth 100000 in
theorem c_X5_sews (l : Launch) (E : Ev) (a : Nat) (b : Nat) (fs : List Value) (hf : fs[0]? = some (.ref b)) (S : HS) (g : Nat) (k : Nat) (x : Int32) (hg : g < 10) (hk : k < 4) : MV l E yX5_sews cX5_sews 4 0 0 0 0 [.ref a, .int (nI g), .int (nI k), .int x] (MR E a b fs S) (fun (_ : Unit) => True) (fun (_ : Unit) => (MR E a b fs (st S (5 + k) g x))) := by
  refine MV_intro RX5 (by decide) rfl (Nat.le_of_ble_eq_true rfl) ?_
  intro p e R s m args below meth c A Q hQ hC hnm hD hW hA ls hl
  have hx := hC.1
  have hb := hC.2.1
  have hW : Wd E A s.heap (MR E a b fs S) s.heap [] := hW
  have hl : lv_has ls 4 [(0, .ref a), (1, .int (nI g)), (2, .int (nI k)), (3, .int x)] := hl
  refine lv_aload_n hx hb dX5_sews_0 rfl (lv_at hl 0 rfl) ?_
  refine r_get hC hW flX5_7 0 rfl hf dX5_sews_1 ?_
  refine lv_bipush (v := 28) hx hb dX5_sews_4 (by decide) ?_
  refine lv_iconst (v := 4) hx hb dX5_sews_6 (by decide) ?_
  refine lv_iload_n hx hb dX5_sews_7 rfl (lv_at hl 1 rfl) ?_
  refine n_imul (v := (nI (4 * g))) hx hb dX5_sews_8 (pk_mul 4 g) ?_
  refine n_iadd (v := (nI (28 + 4 * g))) hx hb dX5_sews_9 (nI_add 28 (4 * g)) ?_
  refine lv_iload_n hx hb dX5_sews_10 rfl (lv_at hl 2 rfl) ?_
  refine n_iadd (v := (nI (28 + 4 * g + k))) hx hb dX5_sews_11 (nI_add (28 + 4 * g) k) ?_
  refine lv_iload_n hx hb dX5_sews_12 rfl (lv_at hl 3 rfl) ?_
  refine r_iast (ws' := (MR E a b fs (st S (5 + k) g x))) hC hD hW 1 rfl (28 + 4 * g + k) rfl (by omega) (by decide) rfl (by rw [upd_g S hk]; rfl) dX5_sews_13 (fun H locs hW => ?_)
  exact r_vret hC hQ hD hW () trivial rfl rfl dX5_sews_14
set_option maxHeartbeats 4000000 in
set_option maxRecDepth 100000 in
theorem c_X5_becomes (l : Launch) (E : Ev) (a : Nat) (b : Nat) (fs : List Value) (hf : fs[0]? = some (.ref b)) (S : HS) (j : Nat) (f : Nat) (i : Nat) (x : Int32) (hj : j < 68) (hpl : plc j f i) : MI l E yX5_becomes cX5_becomes 4 .int 0 0 0 0 [.ref a, .int (nI j), .int x] (MR E a b fs S) (fun (r : Int32) (_ : Unit) => r = S f i) (fun (_ : Unit) => (MR E a b fs (st S f i x))) := by
  refine MI_intro RX5 (by decide) rfl (Nat.le_of_ble_eq_true rfl) ?_
  intro p e R s m args below meth c A Q hQ hC hD hW hA ls hl
  have hx := hC.1
  have hb := hC.2.1
  have hW : Wd E A s.heap (MR E a b fs S) s.heap [] := hW
  have hl : lv_has ls 4 [(0, .ref a), (1, .int (nI j)), (2, .int x)] := hl
  refine lv_aload_n hx hb dX5_becomes_0 rfl (lv_at hl 0 rfl) ?_
  refine r_get hC hW flX5_7 0 rfl hf dX5_becomes_1 ?_
  refine lv_iload_n hx hb dX5_becomes_4 rfl (lv_at hl 1 rfl) ?_
  refine r_iald hC hW 1 rfl j rfl (by omega) (by decide) dX5_becomes_5 ?_
  refine n_top (enc_plc S hpl) ?_
  refine lv_istore_n (lv' := [(3, .int (S f i)), (0, .ref a), (1, .int (nI j)), (2, .int x)]) hx hb dX5_becomes_6 rfl hl (by decide) rfl (fun ls hl => ?_)
  refine lv_aload_n hx hb dX5_becomes_7 rfl (lv_at hl 1 rfl) ?_
  refine r_get hC hW flX5_7 0 rfl hf dX5_becomes_8 ?_
  refine lv_iload_n hx hb dX5_becomes_11 rfl (lv_at hl 2 rfl) ?_
  refine lv_iload_n hx hb dX5_becomes_12 rfl (lv_at hl 3 rfl) ?_
  refine r_iast (ws' := (MR E a b fs (st S f i x))) hC hD hW 1 rfl j rfl (by omega) (by decide) rfl (by rw [upd_plc S hpl]; rfl) dX5_becomes_13 (fun H locs hW => ?_)
  refine lv_iload_n hx hb dX5_becomes_14 rfl (lv_at hl 0 rfl) ?_
  exact r_iret hC hQ hD hW () rfl rfl rfl dX5_becomes_15
set_option maxHeartbeats 4000000 in
set_option maxRecDepth 100000 in
theorem c_X5_isOne (l : Launch) (E : Ev) (a : Nat) (b : Nat) (fs : List Value) (hf : fs[0]? = some (.ref b)) (S : HS) (P : Nat) (hP : S 0 2 = nI P) (hP1 : P ≤ 6) (x : Int32) : MI l E yX5_isOne cX5_isOne 2 .boolean 1 22 0 0 [.ref a, .int x] (MR E a b fs S) (fun (r : Int32) (_ : Unit) => bz (∃ j, j < P ∧ x = nI j) r) (fun (_ : Unit) => (MR E a b fs S)) := by
  refine MI_intro RX5 (by decide) rfl (Nat.le_of_ble_eq_true rfl) ?_
  intro p e R s m args below meth c A Q hQ hC hD hW hA ls hl
  have hx := hC.1
  have hb := hC.2.1
  have hW : Wd E A s.heap (MR E a b fs S) s.heap [] := hW
  have hl : lv_has ls 2 [(0, .ref a), (1, .int x)] := hl
  refine lv_iload_n hx hb dX5_isOne_0 rfl (lv_at hl 1 rfl) ?_
  refine lv_iconst (v := 0) hx hb dX5_isOne_1 (by decide) ?_
  refine lv_aload_n hx hb dX5_isOne_2 rfl (lv_at hl 0 rfl) ?_
  refine r_get hC hW flX5_7 0 rfl hf dX5_isOne_3 ?_
  refine lv_iconst (v := 2) hx hb dX5_isOne_6 (by decide) ?_
  refine r_iald hC hW 1 rfl 2 rfl (by omega) (by decide) dX5_isOne_7 ?_
  refine n_top (enc_0 S (by decide)) ?_
  refine n_top hP ?_
  refine lv_iconst (v := 1) hx hb dX5_isOne_8 (by decide) ?_
  refine n_isub (v := ((nI P) - 1)) hx hb dX5_isOne_9 rfl ?_
  refine r_callSi hC hD hW hA lkX5_45 (c_X5_in l E x 0 ((nI P) - 1)) ⟨by decide, by decide, by decide, by decide⟩ rfl hl.1 rfl rfl (Nat.le_of_ble_eq_true rfl) dX5_isOne_10 (fun r_1 _ H locs hr_1 hW => ?_)
  have hW : Wd E A s.heap (MR E a b fs S) H locs := hW
  have hr_1 : bz (0 ≤ x ∧ x ≤ ((nI P) - 1)) r_1 := hr_1
  exact r_zret hC hQ hD hW (bz_01 hr_1) () ((bz_iff (in_iff (by omega))) hr_1) rfl rfl dX5_isOne_13
set_option maxHeartbeats 4000000 in
set_option maxRecDepth 100000 in
theorem c_X5_isGarment (l : Launch) (E : Ev) (a : Nat) (b : Nat) (fs : List Value) (hf : fs[0]? = some (.ref b)) (S : HS) (G : Nat) (hG : S 0 3 = nI G) (hG1 : G ≤ 10) (x : Int32) : MI l E yX5_isGarment cX5_isGarment 2 .boolean 1 22 0 0 [.ref a, .int x] (MR E a b fs S) (fun (r : Int32) (_ : Unit) => bz (∃ j, j < G ∧ x = nI j) r) (fun (_ : Unit) => (MR E a b fs S)) := by
  refine MI_intro RX5 (by decide) rfl (Nat.le_of_ble_eq_true rfl) ?_
  intro p e R s m args below meth c A Q hQ hC hD hW hA ls hl
  have hx := hC.1
  have hb := hC.2.1
  have hW : Wd E A s.heap (MR E a b fs S) s.heap [] := hW
  have hl : lv_has ls 2 [(0, .ref a), (1, .int x)] := hl
  refine lv_iload_n hx hb dX5_isGarment_0 rfl (lv_at hl 1 rfl) ?_
  refine lv_iconst (v := 0) hx hb dX5_isGarment_1 (by decide) ?_
  refine lv_aload_n hx hb dX5_isGarment_2 rfl (lv_at hl 0 rfl) ?_
  refine r_get hC hW flX5_7 0 rfl hf dX5_isGarment_3 ?_
  refine lv_iconst (v := 3) hx hb dX5_isGarment_6 (by decide) ?_
  refine r_iald hC hW 1 rfl 3 rfl (by omega) (by decide) dX5_isGarment_7 ?_
  refine n_top (enc_0 S (by decide)) ?_
  refine n_top hG ?_
  refine lv_iconst (v := 1) hx hb dX5_isGarment_8 (by decide) ?_
  refine n_isub (v := ((nI G) - 1)) hx hb dX5_isGarment_9 rfl ?_
  refine r_callSi hC hD hW hA lkX5_45 (c_X5_in l E x 0 ((nI G) - 1)) ⟨by decide, by decide, by decide, by decide⟩ rfl hl.1 rfl rfl (Nat.le_of_ble_eq_true rfl) dX5_isGarment_10 (fun r_1 _ H locs hr_1 hW => ?_)
  have hW : Wd E A s.heap (MR E a b fs S) H locs := hW
  have hr_1 : bz (0 ≤ x ∧ x ≤ ((nI G) - 1)) r_1 := hr_1
  exact r_zret hC hQ hD hW (bz_01 hr_1) () ((bz_iff (in_iff (by omega))) hr_1) rfl rfl dX5_isGarment_13
set_option maxHeartbeats 4000000 in
set_option maxRecDepth 100000 in
theorem c_X5_isKind (l : Launch) (E : Ev) (x : Int32) : MI l E yX5_isKind cX5_isKind 1 .boolean 1 22 0 0 [.int x] [] (fun (r : Int32) (_ : Unit) => bz (0 ≤ x ∧ x ≤ 5) r) (fun (_ : Unit) => []) := by
  refine MI_intro RX5 (by decide) rfl (Nat.le_of_ble_eq_true rfl) ?_
  intro p e R s m args below meth c A Q hQ hC hD hW hA ls hl
  have hx := hC.1
  have hb := hC.2.1
  have hW : Wd E A s.heap [] s.heap [] := hW
  have hl : lv_has ls 1 [(0, .int x)] := hl
  refine lv_iload_n hx hb dX5_isKind_0 rfl (lv_at hl 0 rfl) ?_
  refine lv_iconst (v := 0) hx hb dX5_isKind_1 (by decide) ?_
  refine lv_iconst (v := 5) hx hb dX5_isKind_2 (by decide) ?_
  refine r_callSi hC hD hW hA lkX5_45 (c_X5_in l E x 0 5) ⟨by decide, by decide, by decide, by decide⟩ rfl hl.1 rfl rfl (Nat.le_of_ble_eq_true rfl) dX5_isKind_3 (fun r_1 _ H locs hr_1 hW => ?_)
  have hr_1 : bz (0 ≤ x ∧ x ≤ 5) r_1 := hr_1
  exact r_zret hC hQ hD hW (bz_01 hr_1) () hr_1 rfl rfl dX5_isKind_6
set_option maxHeartbeats 4000000 in
set_option maxRecDepth 100000 in
theorem c_X5_bits (l : Launch) (E : Ev) (k : Nat) (hk : k < 1024) : MI l E yX5_bits cX5_bits 3 .int 0 0 0 0 [.int (nI k)] [] (fun (r : Int32) (_ : Unit) => r = nI (pcN k)) (fun (_ : Unit) => []) := by
  refine MI_intro RX5 (by decide) rfl (Nat.le_of_ble_eq_true rfl) ?_
  intro p e R s m args below meth c A Q hQ hC hD hW hA ls hl
  have hx := hC.1
  have hb := hC.2.1
  have hW : Wd E A s.heap [] s.heap [] := hW
  have hl : lv_has ls 3 [(0, .int (nI k))] := hl
  refine lv_iconst (v := 0) hx hb dX5_bits_0 (by decide) ?_
  refine lv_istore_n (lv' := [(1, .int 0), (0, .int (nI k))]) hx hb dX5_bits_1 rfl hl (by decide) rfl (fun ls hl => ?_)
  refine lv_iload_n hx hb dX5_bits_2 rfl (lv_at hl 1 rfl) ?_
  refine lv_istore_n (lv' := [(2, .int (nI k)), (1, .int 0), (0, .int (nI k))]) hx hb dX5_bits_3 rfl hl (by decide) rfl (fun ls hl => ?_)
  have L4 : ∀ (n_ : Nat) (j : Nat) (k2 : Nat) (H : Heap) (locs : List Loc) (ls : Array Slot), k2 < n_ → k2 < 1024 → j + pcN k2 = pcN k → Wd E A s.heap [] H locs → lv_has ls 3 [(0, .int (nI k)), (1, .int (nI j)), (2, .int (nI k2))] → W p l e R s m args below meth c H locs 0 0 Q (F0 m 4 ls []) := by
    intro n_
    induction n_ with
    | zero => intro j k2 H locs ls hm; exact absurd hm (Nat.not_lt_zero _)
    | succ n_ ih =>
      intro j k2 H locs ls hm h1 h2 hW hl
      refine lv_iload_n hx hb dX5_bits_4 rfl (lv_at hl 2 rfl) ?_
      refine lv_if_eq (tgt := 20) hx hb dX5_bits_5 (by decide) (fun c_1 => ?_) (fun c_1 => ?_)
      · have c_1 : k2 = 0 := (nI_eq (a := k2) (b := 0) (by omega) (by omega)).mp c_1
        refine lv_iload_n hx hb dX5_bits_20 rfl (lv_at hl 1 rfl) ?_
        exact r_iret hC hQ hD hW () (congrArg nI (by have q := pc_0; subst c_1; omega)) rfl rfl dX5_bits_21
      · have c_1 : ¬ k2 = 0 := fun z_ => c_1 ((nI_eq (a := k2) (b := 0) (by omega) (by omega)).mpr z_)
        refine lv_iinc (v := (nI (j + 1))) (lv' := [(1, .int (nI (j + 1))), (0, .int (nI k)), (2, .int (nI k2))]) (k := 1) hx hb dX5_bits_8 hl rfl (nI_inc j 1) (by decide) rfl (fun ls hl => ?_)
        refine lv_iload_n hx hb dX5_bits_11 rfl (lv_at hl 2 rfl) ?_
        refine lv_iload_n hx hb dX5_bits_12 rfl (lv_at hl 2 rfl) ?_
        refine lv_iconst (v := 1) hx hb dX5_bits_13 (by decide) ?_
        refine n_isub (v := (nI (k2 - 1))) hx hb dX5_bits_14 (pk_sub (a := k2) (b := 1) (by omega)) ?_
        refine n_iand (v := (nI (k2 &&& (k2 - 1)))) hx hb dX5_bits_15 (nI_and _ _) ?_
        refine lv_istore_n (lv' := [(2, .int (nI (k2 &&& (k2 - 1)))), (1, .int (nI (j + 1))), (0, .int (nI k))]) hx hb dX5_bits_16 rfl hl (by decide) rfl (fun ls hl => ?_)
        refine lv_goto (tgt := 4) hx hb dX5_bits_17 (by decide) ?_
        exact ih (j + 1) (k2 &&& (k2 - 1)) _ _ _ (by have := pc_step k2 h1 (by omega); omega) (by have := pc_step k2 h1 (by omega); omega) (by have := pc_step k2 h1 (by omega); omega) hW (lv_sub hl [2, 1, 0] rfl)
  exact L4 (k + 1) 0 k _ _ _ (Nat.lt_succ_self _) hk (Nat.zero_add _) hW (lv_sub hl [2, 1, 0] rfl)
set_option maxHeartbeats 4000000 in
set_option maxRecDepth 100000 in
theorem c_X5_withWhom (l : Launch) (E : Ev) (a : Nat) (b : Nat) (fs : List Value) (hf : fs[0]? = some (.ref b)) (S : HS) (G : Nat) (hG : S 0 3 = nI G) (hG1 : G ≤ 10) (x : Int32) : MI l E yX5_withWhom cX5_withWhom 4 .int 1 22 0 0 [.ref a, .int x] (MR E a b fs S) (fun (r : Int32) (_ : Unit) => r = nI (mset (wth S x) G)) (fun (_ : Unit) => (MR E a b fs S)) := by
  refine MI_intro RX5 (by decide) rfl (Nat.le_of_ble_eq_true rfl) ?_
  intro p e R s m args below meth c A Q hQ hC hD hW hA ls hl
  have hx := hC.1
  have hb := hC.2.1
  have hW : Wd E A s.heap (MR E a b fs S) s.heap [] := hW
  have hl : lv_has ls 4 [(0, .ref a), (1, .int x)] := hl
  refine lv_iconst (v := 0) hx hb dX5_withWhom_0 (by decide) ?_
  refine lv_istore_n (lv' := [(2, .int 0), (0, .ref a), (1, .int x)]) hx hb dX5_withWhom_1 rfl hl (by decide) rfl (fun ls hl => ?_)
  refine lv_iconst (v := 0) hx hb dX5_withWhom_2 (by decide) ?_
  refine lv_istore_n (lv' := [(3, .int 0), (2, .int 0), (0, .ref a), (1, .int x)]) hx hb dX5_withWhom_3 rfl hl (by decide) rfl (fun ls hl => ?_)
  have L4 : ∀ (n_ : Nat) (i : Nat) (H : Heap) (locs : List Loc) (ls : Array Slot), G - i < n_ → i ≤ G → Wd E A s.heap (MR E a b fs S) H locs → lv_has ls 4 [(0, .ref a), (1, .int x), (2, .int (nI (mset (wth S x) i))), (3, .int (nI i))] → W p l e R s m args below meth c H locs 0 0 Q (F0 m 4 ls []) := by
    intro n_
    induction n_ with
    | zero => intro i H locs ls hm; exact absurd hm (Nat.not_lt_zero _)
    | succ n_ ih =>
      intro i H locs ls hm hi hW hl
      refine lv_iload_n hx hb dX5_withWhom_4 rfl (lv_at hl 3 rfl) ?_
      refine lv_aload_n hx hb dX5_withWhom_5 rfl (lv_at hl 0 rfl) ?_
      refine r_get hC hW flX5_7 0 rfl hf dX5_withWhom_6 ?_
      refine lv_iconst (v := 3) hx hb dX5_withWhom_9 (by decide) ?_
      refine r_iald hC hW 1 rfl 3 rfl (by omega) (by decide) dX5_withWhom_10 ?_
      refine n_top (enc_0 S (by decide)) ?_
      refine n_top hG ?_
      refine lv_icmp_ge (tgt := 40) hx hb dX5_withWhom_11 (by decide) (fun c_1 => ?_) (fun c_1 => ?_)
      · have c_1 : G ≤ i := (nI_leI (a := G) (b := i) (by omega) (by omega)).mp c_1
        refine lv_iload_n hx hb dX5_withWhom_40 rfl (lv_at hl 2 rfl) ?_
        exact r_iret hC hQ hD hW () (by rw [show i = G by omega]) rfl rfl dX5_withWhom_41
      · have c_1 : ¬ G ≤ i := fun z_ => c_1 ((nI_leI (a := G) (b := i) (by omega) (by omega)).mpr z_)
        refine lv_iload_n hx hb dX5_withWhom_14 rfl (lv_at hl 2 rfl) ?_
        refine lv_aload_n hx hb dX5_withWhom_15 rfl (lv_at hl 0 rfl) ?_
        refine lv_iload_n hx hb dX5_withWhom_16 rfl (lv_at hl 3 rfl) ?_
        refine lv_iconst (v := 3) hx hb dX5_withWhom_17 (by decide) ?_
        refine r_callVi hC hD hW hA lkX5_49 (c_X5_worn l E a b fs hf S i 3 (by omega) (by omega)) rfl ⟨by decide, by decide, by decide, by decide⟩ [0, 1] rfl rfl rfl (fun _ => rfl) hl.1 rfl rfl (Nat.le_of_ble_eq_true rfl) dX5_withWhom_18 (fun r_2 _ H locs hr_2 hW => ?_)
        have hW : Wd E A s.heap (MR E a b fs S) H locs := hW
        have hr_2 : r_2 = (S 8 i) := hr_2
        subst hr_2
        refine lv_iload_n hx hb dX5_withWhom_21 rfl (lv_at hl 1 rfl) ?_
        refine lv_icmp_ne (tgt := 31) hx hb dX5_withWhom_22 (by decide) (fun c_3 => ?_) (fun c_3 => ?_)
        · refine lv_iconst (v := 0) hx hb dX5_withWhom_31 (by decide) ?_
          refine n_ior (v := (nI (mset (wth S x) (i + 1)))) hx hb dX5_withWhom_32 (mset_no0 (decide_eq_false c_3)) ?_
          refine lv_istore_n (lv' := [(2, .int (nI (mset (wth S x) (i + 1)))), (0, .ref a), (1, .int x), (3, .int (nI i))]) hx hb dX5_withWhom_33 rfl hl (by decide) rfl (fun ls hl => ?_)
          refine lv_iinc (v := (nI (i + 1))) (lv' := [(3, .int (nI (i + 1))), (2, .int (nI (mset (wth S x) (i + 1)))), (0, .ref a), (1, .int x)]) (k := 3) hx hb dX5_withWhom_34 hl rfl (nI_inc i 1) (by decide) rfl (fun ls hl => ?_)
          refine lv_goto (tgt := 4) hx hb dX5_withWhom_37 (by decide) ?_
          exact ih (i + 1) _ _ _ (by omega) (by omega) hW (lv_sub hl [2, 3, 1, 0] rfl)
        · refine lv_iconst (v := 1) hx hb dX5_withWhom_25 (by decide) ?_
          refine lv_iload_n hx hb dX5_withWhom_26 rfl (lv_at hl 3 rfl) ?_
          refine n_ishl (v := (1 <<< ((nI i) &&& 31))) hx hb dX5_withWhom_27 rfl ?_
          refine lv_goto (tgt := 32) hx hb dX5_withWhom_28 (by decide) ?_
          refine n_ior (v := (nI (mset (wth S x) (i + 1)))) hx hb dX5_withWhom_32 (mset_put (decide_eq_true c_3) (by omega)) ?_
          refine lv_istore_n (lv' := [(2, .int (nI (mset (wth S x) (i + 1)))), (0, .ref a), (1, .int x), (3, .int (nI i))]) hx hb dX5_withWhom_33 rfl hl (by decide) rfl (fun ls hl => ?_)
          refine lv_iinc (v := (nI (i + 1))) (lv' := [(3, .int (nI (i + 1))), (2, .int (nI (mset (wth S x) (i + 1)))), (0, .ref a), (1, .int x)]) (k := 3) hx hb dX5_withWhom_34 hl rfl (nI_inc i 1) (by decide) rfl (fun ls hl => ?_)
          refine lv_goto (tgt := 4) hx hb dX5_withWhom_37 (by decide) ?_
          exact ih (i + 1) _ _ _ (by omega) (by omega) hW (lv_sub hl [2, 3, 1, 0] rfl)
  exact L4 (G - 0 + 1) 0 _ _ _ (Nat.lt_succ_self _) (by omega) hW (lv_sub hl [2, 3, 1, 0] rfl)
set_option maxHeartbeats 4000000 in
set_option maxRecDepth 100000 in
theorem c_X5_ownedBy (l : Launch) (E : Ev) (a : Nat) (b : Nat) (fs : List Value) (hf : fs[0]? = some (.ref b)) (S : HS) (G : Nat) (hG : S 0 3 = nI G) (hG1 : G ≤ 10) (x : Int32) : MI l E yX5_ownedBy cX5_ownedBy 4 .int 1 22 0 0 [.ref a, .int x] (MR E a b fs S) (fun (r : Int32) (_ : Unit) => r = nI (mset (owd S x) G)) (fun (_ : Unit) => (MR E a b fs S)) := by
  refine MI_intro RX5 (by decide) rfl (Nat.le_of_ble_eq_true rfl) ?_
  intro p e R s m args below meth c A Q hQ hC hD hW hA ls hl
  have hx := hC.1
  have hb := hC.2.1
  have hW : Wd E A s.heap (MR E a b fs S) s.heap [] := hW
  have hl : lv_has ls 4 [(0, .ref a), (1, .int x)] := hl
  refine lv_iconst (v := 0) hx hb dX5_ownedBy_0 (by decide) ?_
  refine lv_istore_n (lv' := [(2, .int 0), (0, .ref a), (1, .int x)]) hx hb dX5_ownedBy_1 rfl hl (by decide) rfl (fun ls hl => ?_)
  refine lv_iconst (v := 0) hx hb dX5_ownedBy_2 (by decide) ?_
  refine lv_istore_n (lv' := [(3, .int 0), (2, .int 0), (0, .ref a), (1, .int x)]) hx hb dX5_ownedBy_3 rfl hl (by decide) rfl (fun ls hl => ?_)
  have L4 : ∀ (n_ : Nat) (i : Nat) (H : Heap) (locs : List Loc) (ls : Array Slot), G - i < n_ → i ≤ G → Wd E A s.heap (MR E a b fs S) H locs → lv_has ls 4 [(0, .ref a), (1, .int x), (2, .int (nI (mset (owd S x) i))), (3, .int (nI i))] → W p l e R s m args below meth c H locs 0 0 Q (F0 m 4 ls []) := by
    intro n_
    induction n_ with
    | zero => intro i H locs ls hm; exact absurd hm (Nat.not_lt_zero _)
    | succ n_ ih =>
      intro i H locs ls hm hi hW hl
      refine lv_iload_n hx hb dX5_ownedBy_4 rfl (lv_at hl 3 rfl) ?_
      refine lv_aload_n hx hb dX5_ownedBy_5 rfl (lv_at hl 0 rfl) ?_
      refine r_get hC hW flX5_7 0 rfl hf dX5_ownedBy_6 ?_
      refine lv_iconst (v := 3) hx hb dX5_ownedBy_9 (by decide) ?_
      refine r_iald hC hW 1 rfl 3 rfl (by omega) (by decide) dX5_ownedBy_10 ?_
      refine n_top (enc_0 S (by decide)) ?_
      refine n_top hG ?_
      refine lv_icmp_ge (tgt := 40) hx hb dX5_ownedBy_11 (by decide) (fun c_1 => ?_) (fun c_1 => ?_)
      · have c_1 : G ≤ i := (nI_leI (a := G) (b := i) (by omega) (by omega)).mp c_1
        refine lv_iload_n hx hb dX5_ownedBy_40 rfl (lv_at hl 2 rfl) ?_
        exact r_iret hC hQ hD hW () (by rw [show i = G by omega]) rfl rfl dX5_ownedBy_41
      · have c_1 : ¬ G ≤ i := fun z_ => c_1 ((nI_leI (a := G) (b := i) (by omega) (by omega)).mpr z_)
        refine lv_iload_n hx hb dX5_ownedBy_14 rfl (lv_at hl 2 rfl) ?_
        refine lv_aload_n hx hb dX5_ownedBy_15 rfl (lv_at hl 0 rfl) ?_
        refine lv_iload_n hx hb dX5_ownedBy_16 rfl (lv_at hl 3 rfl) ?_
        refine lv_iconst (v := 0) hx hb dX5_ownedBy_17 (by decide) ?_
        refine r_callVi hC hD hW hA lkX5_49 (c_X5_worn l E a b fs hf S i 0 (by omega) (by omega)) rfl ⟨by decide, by decide, by decide, by decide⟩ [0, 1] rfl rfl rfl (fun _ => rfl) hl.1 rfl rfl (Nat.le_of_ble_eq_true rfl) dX5_ownedBy_18 (fun r_2 _ H locs hr_2 hW => ?_)
        have hW : Wd E A s.heap (MR E a b fs S) H locs := hW
        have hr_2 : r_2 = (S 5 i) := hr_2
        subst hr_2
        refine lv_iload_n hx hb dX5_ownedBy_21 rfl (lv_at hl 1 rfl) ?_
        refine lv_icmp_ne (tgt := 31) hx hb dX5_ownedBy_22 (by decide) (fun c_3 => ?_) (fun c_3 => ?_)
        · refine lv_iconst (v := 0) hx hb dX5_ownedBy_31 (by decide) ?_
          refine n_ior (v := (nI (mset (owd S x) (i + 1)))) hx hb dX5_ownedBy_32 (mset_no0 (decide_eq_false c_3)) ?_
          refine lv_istore_n (lv' := [(2, .int (nI (mset (owd S x) (i + 1)))), (0, .ref a), (1, .int x), (3, .int (nI i))]) hx hb dX5_ownedBy_33 rfl hl (by decide) rfl (fun ls hl => ?_)
          refine lv_iinc (v := (nI (i + 1))) (lv' := [(3, .int (nI (i + 1))), (2, .int (nI (mset (owd S x) (i + 1)))), (0, .ref a), (1, .int x)]) (k := 3) hx hb dX5_ownedBy_34 hl rfl (nI_inc i 1) (by decide) rfl (fun ls hl => ?_)
          refine lv_goto (tgt := 4) hx hb dX5_ownedBy_37 (by decide) ?_
          exact ih (i + 1) _ _ _ (by omega) (by omega) hW (lv_sub hl [2, 3, 1, 0] rfl)
        · refine lv_iconst (v := 1) hx hb dX5_ownedBy_25 (by decide) ?_
          refine lv_iload_n hx hb dX5_ownedBy_26 rfl (lv_at hl 3 rfl) ?_
          refine n_ishl (v := (1 <<< ((nI i) &&& 31))) hx hb dX5_ownedBy_27 rfl ?_
          refine lv_goto (tgt := 32) hx hb dX5_ownedBy_28 (by decide) ?_
          refine n_ior (v := (nI (mset (owd S x) (i + 1)))) hx hb dX5_ownedBy_32 (mset_put (decide_eq_true c_3) (by omega)) ?_
          refine lv_istore_n (lv' := [(2, .int (nI (mset (owd S x) (i + 1)))), (0, .ref a), (1, .int x), (3, .int (nI i))]) hx hb dX5_ownedBy_33 rfl hl (by decide) rfl (fun ls hl => ?_)
          refine lv_iinc (v := (nI (i + 1))) (lv' := [(3, .int (nI (i + 1))), (2, .int (nI (mset (owd S x) (i + 1)))), (0, .ref a), (1, .int x)]) (k := 3) hx hb dX5_ownedBy_34 hl rfl (nI_inc i 1) (by decide) rfl (fun ls hl => ?_)
          refine lv_goto (tgt := 4) hx hb dX5_ownedBy_37 (by decide) ?_
          exact ih (i + 1) _ _ _ (by omega) (by omega) hW (lv_sub hl [2, 3, 1, 0] rfl)
  exact L4 (G - 0 + 1) 0 _ _ _ (Nat.lt_succ_self _) (by omega) hW (lv_sub hl [2, 3, 1, 0] rfl)
set_option maxHeartbeats 4000000 in
set_option maxRecDepth 100000 in
theorem c_X5_isRight (l : Launch) (E : Ev) (a : Nat) (b : Nat) (fs : List Value) (hf : fs[0]? = some (.ref b)) (S : HS) (g : Nat) (hg : g < 10) : MI l E yX5_isRight cX5_isRight 2 .boolean 1 22 0 0 [.ref a, .int (nI g)] (MR E a b fs S) (fun (r : Int32) (_ : Unit) => bz (S 8 g = S 5 g) r) (fun (_ : Unit) => (MR E a b fs S)) := by
  refine MI_intro RX5 (by decide) rfl (Nat.le_of_ble_eq_true rfl) ?_
  intro p e R s m args below meth c A Q hQ hC hD hW hA ls hl
  have hx := hC.1
  have hb := hC.2.1
  have hW : Wd E A s.heap (MR E a b fs S) s.heap [] := hW
  have hl : lv_has ls 2 [(0, .ref a), (1, .int (nI g))] := hl
  refine lv_aload_n hx hb dX5_isRight_0 rfl (lv_at hl 0 rfl) ?_
  refine lv_iload_n hx hb dX5_isRight_1 rfl (lv_at hl 1 rfl) ?_
  refine lv_iconst (v := 3) hx hb dX5_isRight_2 (by decide) ?_
  refine r_callVi hC hD hW hA lkX5_49 (c_X5_worn l E a b fs hf S g 3 (by omega) (by omega)) rfl ⟨by decide, by decide, by decide, by decide⟩ [0, 1] rfl rfl rfl (fun _ => rfl) hl.1 rfl rfl (Nat.le_of_ble_eq_true rfl) dX5_isRight_3 (fun r_1 _ H locs hr_1 hW => ?_)
  have hW : Wd E A s.heap (MR E a b fs S) H locs := hW
  have hr_1 : r_1 = (S 8 g) := hr_1
  subst hr_1
  refine lv_aload_n hx hb dX5_isRight_6 rfl (lv_at hl 0 rfl) ?_
  refine lv_iload_n hx hb dX5_isRight_7 rfl (lv_at hl 1 rfl) ?_
  refine lv_iconst (v := 0) hx hb dX5_isRight_8 (by decide) ?_
  refine r_callVi hC hD hW hA lkX5_49 (c_X5_worn l E a b fs hf S g 0 (by omega) (by omega)) rfl ⟨by decide, by decide, by decide, by decide⟩ [0, 1] rfl rfl rfl (fun _ => rfl) hl.1 rfl rfl (Nat.le_of_ble_eq_true rfl) dX5_isRight_9 (fun r_2 _ H locs hr_2 hW => ?_)
  have hW : Wd E A s.heap (MR E a b fs S) H locs := hW
  have hr_2 : r_2 = (S 5 g) := hr_2
  subst hr_2
  refine lv_icmp_ne (tgt := 19) hx hb dX5_isRight_12 (by decide) (fun c_3 => ?_) (fun c_3 => ?_)
  · refine lv_iconst (v := 0) hx hb dX5_isRight_19 (by decide) ?_
    exact r_zret hC hQ hD hW (by decide) () (bz_f (by assumption)) rfl rfl dX5_isRight_20
  · refine lv_iconst (v := 1) hx hb dX5_isRight_15 (by decide) ?_
    refine lv_goto (tgt := 20) hx hb dX5_isRight_16 (by decide) ?_
    exact r_zret hC hQ hD hW (by decide) () (bz_t (by assumption)) rfl rfl dX5_isRight_20
set_option maxHeartbeats 4000000 in
set_option maxRecDepth 100000 in
theorem c_X5_rights (l : Launch) (E : Ev) (a : Nat) (b : Nat) (fs : List Value) (hf : fs[0]? = some (.ref b)) (S : HS) (G : Nat) (hG : S 0 3 = nI G) (hG1 : G ≤ 10) : MI l E yX5_rights cX5_rights 3 .int 2 43 0 0 [.ref a] (MR E a b fs S) (fun (r : Int32) (_ : Unit) => r = nI (mset (rgt S) G)) (fun (_ : Unit) => (MR E a b fs S)) := by
  refine MI_intro RX5 (by decide) rfl (Nat.le_of_ble_eq_true rfl) ?_
  intro p e R s m args below meth c A Q hQ hC hD hW hA ls hl
  have hx := hC.1
  have hb := hC.2.1
  have hW : Wd E A s.heap (MR E a b fs S) s.heap [] := hW
  have hl : lv_has ls 3 [(0, .ref a)] := hl
  refine lv_iconst (v := 0) hx hb dX5_rights_0 (by decide) ?_
  refine lv_istore_n (lv' := [(1, .int 0), (0, .ref a)]) hx hb dX5_rights_1 rfl hl (by decide) rfl (fun ls hl => ?_)
  refine lv_iconst (v := 0) hx hb dX5_rights_2 (by decide) ?_
  refine lv_istore_n (lv' := [(2, .int 0), (1, .int 0), (0, .ref a)]) hx hb dX5_rights_3 rfl hl (by decide) rfl (fun ls hl => ?_)
  have L4 : ∀ (n_ : Nat) (i : Nat) (H : Heap) (locs : List Loc) (ls : Array Slot), G - i < n_ → i ≤ G → Wd E A s.heap (MR E a b fs S) H locs → lv_has ls 3 [(0, .ref a), (1, .int (nI (mset (rgt S) i))), (2, .int (nI i))] → W p l e R s m args below meth c H locs 0 0 Q (F0 m 4 ls []) := by
    intro n_
    induction n_ with
    | zero => intro i H locs ls hm; exact absurd hm (Nat.not_lt_zero _)
    | succ n_ ih =>
      intro i H locs ls hm hi hW hl
      refine lv_iload_n hx hb dX5_rights_4 rfl (lv_at hl 2 rfl) ?_
      refine lv_aload_n hx hb dX5_rights_5 rfl (lv_at hl 0 rfl) ?_
      refine r_get hC hW flX5_7 0 rfl hf dX5_rights_6 ?_
      refine lv_iconst (v := 3) hx hb dX5_rights_9 (by decide) ?_
      refine r_iald hC hW 1 rfl 3 rfl (by omega) (by decide) dX5_rights_10 ?_
      refine n_top (enc_0 S (by decide)) ?_
      refine n_top hG ?_
      refine lv_icmp_ge (tgt := 38) hx hb dX5_rights_11 (by decide) (fun c_1 => ?_) (fun c_1 => ?_)
      · have c_1 : G ≤ i := (nI_leI (a := G) (b := i) (by omega) (by omega)).mp c_1
        refine lv_iload_n hx hb dX5_rights_38 rfl (lv_at hl 1 rfl) ?_
        exact r_iret hC hQ hD hW () (by rw [show i = G by omega]) rfl rfl dX5_rights_39
      · have c_1 : ¬ G ≤ i := fun z_ => c_1 ((nI_leI (a := G) (b := i) (by omega) (by omega)).mpr z_)
        refine lv_iload_n hx hb dX5_rights_14 rfl (lv_at hl 1 rfl) ?_
        refine lv_aload_n hx hb dX5_rights_15 rfl (lv_at hl 0 rfl) ?_
        refine lv_iload_n hx hb dX5_rights_16 rfl (lv_at hl 2 rfl) ?_
        refine r_callVi hC hD hW hA lkX5_53 (c_X5_isRight l E a b fs hf S i (by omega)) rfl ⟨by decide, by decide, by decide, by decide⟩ [0, 1] rfl rfl rfl (fun _ => rfl) hl.1 rfl rfl (Nat.le_of_ble_eq_true rfl) dX5_rights_17 (fun r_2 _ H locs hr_2 hW => ?_)
        have hW : Wd E A s.heap (MR E a b fs S) H locs := hW
        have hr_2 : bz (S 8 i = S 5 i) r_2 := hr_2
        rcases hr_2 with ⟨rfl, b_3⟩ | ⟨rfl, b_3⟩
        · refine lv_if_eq (tgt := 29) hx hb dX5_rights_20 (by decide) (fun _ => ?_) (fun c => absurd c (by decide))
          refine lv_iconst (v := 0) hx hb dX5_rights_29 (by decide) ?_
          refine n_ior (v := (nI (mset (rgt S) (i + 1)))) hx hb dX5_rights_30 (mset_no0 (decide_eq_false b_3)) ?_
          refine lv_istore_n (lv' := [(1, .int (nI (mset (rgt S) (i + 1)))), (0, .ref a), (2, .int (nI i))]) hx hb dX5_rights_31 rfl hl (by decide) rfl (fun ls hl => ?_)
          refine lv_iinc (v := (nI (i + 1))) (lv' := [(2, .int (nI (i + 1))), (1, .int (nI (mset (rgt S) (i + 1)))), (0, .ref a)]) (k := 2) hx hb dX5_rights_32 hl rfl (nI_inc i 1) (by decide) rfl (fun ls hl => ?_)
          refine lv_goto (tgt := 4) hx hb dX5_rights_35 (by decide) ?_
          exact ih (i + 1) _ _ _ (by omega) (by omega) hW (lv_sub hl [2, 1, 0] rfl)
        · refine lv_if_eq (tgt := 29) hx hb dX5_rights_20 (by decide) (fun c => absurd c (by decide)) (fun _ => ?_)
          refine lv_iconst (v := 1) hx hb dX5_rights_23 (by decide) ?_
          refine lv_iload_n hx hb dX5_rights_24 rfl (lv_at hl 2 rfl) ?_
          refine n_ishl (v := (1 <<< ((nI i) &&& 31))) hx hb dX5_rights_25 rfl ?_
          refine lv_goto (tgt := 30) hx hb dX5_rights_26 (by decide) ?_
          refine n_ior (v := (nI (mset (rgt S) (i + 1)))) hx hb dX5_rights_30 (mset_put (decide_eq_true b_3) (by omega)) ?_
          refine lv_istore_n (lv' := [(1, .int (nI (mset (rgt S) (i + 1)))), (0, .ref a), (2, .int (nI i))]) hx hb dX5_rights_31 rfl hl (by decide) rfl (fun ls hl => ?_)
          refine lv_iinc (v := (nI (i + 1))) (lv' := [(2, .int (nI (i + 1))), (1, .int (nI (mset (rgt S) (i + 1)))), (0, .ref a)]) (k := 2) hx hb dX5_rights_32 hl rfl (nI_inc i 1) (by decide) rfl (fun ls hl => ?_)
          refine lv_goto (tgt := 4) hx hb dX5_rights_35 (by decide) ?_
          exact ih (i + 1) _ _ _ (by omega) (by omega) hW (lv_sub hl [2, 1, 0] rfl)
  exact L4 (G - 0 + 1) 0 _ _ _ (Nat.lt_succ_self _) (by omega) hW (lv_sub hl [2, 1, 0] rfl)
set_option maxHeartbeats 4000000 in
set_option maxRecDepth 100000 in
theorem c_X5_living (l : Launch) (E : Ev) (a : Nat) (b : Nat) (fs : List Value) (hf : fs[0]? = some (.ref b)) (S : HS) (P : Nat) (hP : S 0 2 = nI P) (hP1 : P ≤ 6) : MI l E yX5_living cX5_living 3 .int 1 22 0 0 [.ref a] (MR E a b fs S) (fun (r : Int32) (_ : Unit) => r = nI (mset (liv S) P)) (fun (_ : Unit) => (MR E a b fs S)) := by
  refine MI_intro RX5 (by decide) rfl (Nat.le_of_ble_eq_true rfl) ?_
  intro p e R s m args below meth c A Q hQ hC hD hW hA ls hl
  have hx := hC.1
  have hb := hC.2.1
  have hW : Wd E A s.heap (MR E a b fs S) s.heap [] := hW
  have hl : lv_has ls 3 [(0, .ref a)] := hl
  refine lv_iconst (v := 0) hx hb dX5_living_0 (by decide) ?_
  refine lv_istore_n (lv' := [(1, .int 0), (0, .ref a)]) hx hb dX5_living_1 rfl hl (by decide) rfl (fun ls hl => ?_)
  refine lv_iconst (v := 0) hx hb dX5_living_2 (by decide) ?_
  refine lv_istore_n (lv' := [(2, .int 0), (1, .int 0), (0, .ref a)]) hx hb dX5_living_3 rfl hl (by decide) rfl (fun ls hl => ?_)
  have L4 : ∀ (n_ : Nat) (i : Nat) (H : Heap) (locs : List Loc) (ls : Array Slot), P - i < n_ → i ≤ P → Wd E A s.heap (MR E a b fs S) H locs → lv_has ls 3 [(0, .ref a), (1, .int (nI (mset (liv S) i))), (2, .int (nI i))] → W p l e R s m args below meth c H locs 0 0 Q (F0 m 4 ls []) := by
    intro n_
    induction n_ with
    | zero => intro i H locs ls hm; exact absurd hm (Nat.not_lt_zero _)
    | succ n_ ih =>
      intro i H locs ls hm hi hW hl
      refine lv_iload_n hx hb dX5_living_4 rfl (lv_at hl 2 rfl) ?_
      refine lv_aload_n hx hb dX5_living_5 rfl (lv_at hl 0 rfl) ?_
      refine r_get hC hW flX5_7 0 rfl hf dX5_living_6 ?_
      refine lv_iconst (v := 2) hx hb dX5_living_9 (by decide) ?_
      refine r_iald hC hW 1 rfl 2 rfl (by omega) (by decide) dX5_living_10 ?_
      refine n_top (enc_0 S (by decide)) ?_
      refine n_top hP ?_
      refine lv_icmp_ge (tgt := 39) hx hb dX5_living_11 (by decide) (fun c_1 => ?_) (fun c_1 => ?_)
      · have c_1 : P ≤ i := (nI_leI (a := P) (b := i) (by omega) (by omega)).mp c_1
        refine lv_iload_n hx hb dX5_living_39 rfl (lv_at hl 1 rfl) ?_
        exact r_iret hC hQ hD hW () (by rw [show i = P by omega]) rfl rfl dX5_living_40
      · have c_1 : ¬ P ≤ i := fun z_ => c_1 ((nI_leI (a := P) (b := i) (by omega) (by omega)).mpr z_)
        refine lv_iload_n hx hb dX5_living_14 rfl (lv_at hl 1 rfl) ?_
        refine lv_aload_n hx hb dX5_living_15 rfl (lv_at hl 0 rfl) ?_
        refine lv_iload_n hx hb dX5_living_16 rfl (lv_at hl 2 rfl) ?_
        refine lv_iconst (v := 3) hx hb dX5_living_17 (by decide) ?_
        refine r_callVi hC hD hW hA lkX5_57 (c_X5_its l E a b fs hf S i 3 (by omega) (by omega)) rfl ⟨by decide, by decide, by decide, by decide⟩ [0, 1] rfl rfl rfl (fun _ => rfl) hl.1 rfl rfl (Nat.le_of_ble_eq_true rfl) dX5_living_18 (fun r_2 _ H locs hr_2 hW => ?_)
        have hW : Wd E A s.heap (MR E a b fs S) H locs := hW
        have hr_2 : r_2 = (S 4 i) := hr_2
        subst hr_2
        refine lv_if_ne (tgt := 30) hx hb dX5_living_21 (by decide) (fun c_3 => ?_) (fun c_3 => ?_)
        · refine lv_iconst (v := 0) hx hb dX5_living_30 (by decide) ?_
          refine n_ior (v := (nI (mset (liv S) (i + 1)))) hx hb dX5_living_31 (mset_no0 (decide_eq_false c_3)) ?_
          refine lv_istore_n (lv' := [(1, .int (nI (mset (liv S) (i + 1)))), (0, .ref a), (2, .int (nI i))]) hx hb dX5_living_32 rfl hl (by decide) rfl (fun ls hl => ?_)
          refine lv_iinc (v := (nI (i + 1))) (lv' := [(2, .int (nI (i + 1))), (1, .int (nI (mset (liv S) (i + 1)))), (0, .ref a)]) (k := 2) hx hb dX5_living_33 hl rfl (nI_inc i 1) (by decide) rfl (fun ls hl => ?_)
          refine lv_goto (tgt := 4) hx hb dX5_living_36 (by decide) ?_
          exact ih (i + 1) _ _ _ (by omega) (by omega) hW (lv_sub hl [2, 1, 0] rfl)
        · refine lv_iconst (v := 1) hx hb dX5_living_24 (by decide) ?_
          refine lv_iload_n hx hb dX5_living_25 rfl (lv_at hl 2 rfl) ?_
          refine n_ishl (v := (1 <<< ((nI i) &&& 31))) hx hb dX5_living_26 rfl ?_
          refine lv_goto (tgt := 31) hx hb dX5_living_27 (by decide) ?_
          refine n_ior (v := (nI (mset (liv S) (i + 1)))) hx hb dX5_living_31 (mset_put (decide_eq_true c_3) (by omega)) ?_
          refine lv_istore_n (lv' := [(1, .int (nI (mset (liv S) (i + 1)))), (0, .ref a), (2, .int (nI i))]) hx hb dX5_living_32 rfl hl (by decide) rfl (fun ls hl => ?_)
          refine lv_iinc (v := (nI (i + 1))) (lv' := [(2, .int (nI (i + 1))), (1, .int (nI (mset (liv S) (i + 1)))), (0, .ref a)]) (k := 2) hx hb dX5_living_33 hl rfl (nI_inc i 1) (by decide) rfl (fun ls hl => ?_)
          refine lv_goto (tgt := 4) hx hb dX5_living_36 (by decide) ?_
          exact ih (i + 1) _ _ _ (by omega) (by omega) hW (lv_sub hl [2, 1, 0] rfl)
  exact L4 (P - 0 + 1) 0 _ _ _ (Nat.lt_succ_self _) (by omega) hW (lv_sub hl [2, 1, 0] rfl)
set_option maxHeartbeats 4000000 in
set_option maxRecDepth 100000 in
theorem c_X5_contentOfAll (l : Launch) (E : Ev) (a : Nat) (b : Nat) (fs : List Value) (hf : fs[0]? = some (.ref b)) (S : HS) (P : Nat) (hP : S 0 2 = nI P) (hP1 : P ≤ 6) : MI l E yX5_contentOfAll cX5_contentOfAll 3 .int 1 22 0 0 [.ref a] (MR E a b fs S) (fun (r : Int32) (_ : Unit) => r = smI (S 3) P) (fun (_ : Unit) => (MR E a b fs S)) := by
  refine MI_intro RX5 (by decide) rfl (Nat.le_of_ble_eq_true rfl) ?_
  intro p e R s m args below meth c A Q hQ hC hD hW hA ls hl
  have hx := hC.1
  have hb := hC.2.1
  have hW : Wd E A s.heap (MR E a b fs S) s.heap [] := hW
  have hl : lv_has ls 3 [(0, .ref a)] := hl
  refine lv_iconst (v := 0) hx hb dX5_contentOfAll_0 (by decide) ?_
  refine lv_istore_n (lv' := [(1, .int 0), (0, .ref a)]) hx hb dX5_contentOfAll_1 rfl hl (by decide) rfl (fun ls hl => ?_)
  refine lv_iconst (v := 0) hx hb dX5_contentOfAll_2 (by decide) ?_
  refine lv_istore_n (lv' := [(2, .int 0), (1, .int 0), (0, .ref a)]) hx hb dX5_contentOfAll_3 rfl hl (by decide) rfl (fun ls hl => ?_)
  have L4 : ∀ (n_ : Nat) (i : Nat) (H : Heap) (locs : List Loc) (ls : Array Slot), P - i < n_ → i ≤ P → Wd E A s.heap (MR E a b fs S) H locs → lv_has ls 3 [(0, .ref a), (1, .int (smI (S 3) i)), (2, .int (nI i))] → W p l e R s m args below meth c H locs 0 0 Q (F0 m 4 ls []) := by
    intro n_
    induction n_ with
    | zero => intro i H locs ls hm; exact absurd hm (Nat.not_lt_zero _)
    | succ n_ ih =>
      intro i H locs ls hm hi hW hl
      refine lv_iload_n hx hb dX5_contentOfAll_4 rfl (lv_at hl 2 rfl) ?_
      refine lv_aload_n hx hb dX5_contentOfAll_5 rfl (lv_at hl 0 rfl) ?_
      refine r_get hC hW flX5_7 0 rfl hf dX5_contentOfAll_6 ?_
      refine lv_iconst (v := 2) hx hb dX5_contentOfAll_9 (by decide) ?_
      refine r_iald hC hW 1 rfl 2 rfl (by omega) (by decide) dX5_contentOfAll_10 ?_
      refine n_top (enc_0 S (by decide)) ?_
      refine n_top hP ?_
      refine lv_icmp_ge (tgt := 29) hx hb dX5_contentOfAll_11 (by decide) (fun c_1 => ?_) (fun c_1 => ?_)
      · have c_1 : P ≤ i := (nI_leI (a := P) (b := i) (by omega) (by omega)).mp c_1
        refine lv_iload_n hx hb dX5_contentOfAll_29 rfl (lv_at hl 1 rfl) ?_
        exact r_iret hC hQ hD hW () (by rw [show i = P by omega]) rfl rfl dX5_contentOfAll_30
      · have c_1 : ¬ P ≤ i := fun z_ => c_1 ((nI_leI (a := P) (b := i) (by omega) (by omega)).mpr z_)
        refine lv_iload_n hx hb dX5_contentOfAll_14 rfl (lv_at hl 1 rfl) ?_
        refine lv_aload_n hx hb dX5_contentOfAll_15 rfl (lv_at hl 0 rfl) ?_
        refine lv_iload_n hx hb dX5_contentOfAll_16 rfl (lv_at hl 2 rfl) ?_
        refine lv_iconst (v := 2) hx hb dX5_contentOfAll_17 (by decide) ?_
        refine r_callVi hC hD hW hA lkX5_57 (c_X5_its l E a b fs hf S i 2 (by omega) (by omega)) rfl ⟨by decide, by decide, by decide, by decide⟩ [0, 1] rfl rfl rfl (fun _ => rfl) hl.1 rfl rfl (Nat.le_of_ble_eq_true rfl) dX5_contentOfAll_18 (fun r_2 _ H locs hr_2 hW => ?_)
        have hW : Wd E A s.heap (MR E a b fs S) H locs := hW
        have hr_2 : r_2 = (S 3 i) := hr_2
        subst hr_2
        refine n_iadd (v := ((smI (S 3) i) + (S 3 i))) hx hb dX5_contentOfAll_21 rfl ?_
        refine lv_istore_n (lv' := [(1, .int ((smI (S 3) i) + (S 3 i))), (0, .ref a), (2, .int (nI i))]) hx hb dX5_contentOfAll_22 rfl hl (by decide) rfl (fun ls hl => ?_)
        refine lv_iinc (v := (nI (i + 1))) (lv' := [(2, .int (nI (i + 1))), (1, .int ((smI (S 3) i) + (S 3 i))), (0, .ref a)]) (k := 2) hx hb dX5_contentOfAll_23 hl rfl (nI_inc i 1) (by decide) rfl (fun ls hl => ?_)
        refine lv_goto (tgt := 4) hx hb dX5_contentOfAll_26 (by decide) ?_
        exact ih (i + 1) _ _ _ (by omega) (by omega) hW (lv_sub hl [2, 1, 0] rfl)
  exact L4 (P - 0 + 1) 0 _ _ _ (Nat.lt_succ_self _) (by omega) hW (lv_sub hl [2, 1, 0] rfl)
set_option maxHeartbeats 4000000 in
set_option maxRecDepth 100000 in
theorem c_X5_names (l : Launch) (E : Ev) (a : Nat) (b : Nat) (fs : List Value) (hf : fs[0]? = some (.ref b)) (S : HS) (G : Nat) (hG : S 0 3 = nI G) (hG1 : G ≤ 10) : MI l E yX5_names cX5_names 3 .int 1 22 0 0 [.ref a] (MR E a b fs S) (fun (r : Int32) (_ : Unit) => r = smI (S 7) G) (fun (_ : Unit) => (MR E a b fs S)) := by
  refine MI_intro RX5 (by decide) rfl (Nat.le_of_ble_eq_true rfl) ?_
  intro p e R s m args below meth c A Q hQ hC hD hW hA ls hl
  have hx := hC.1
  have hb := hC.2.1
  have hW : Wd E A s.heap (MR E a b fs S) s.heap [] := hW
  have hl : lv_has ls 3 [(0, .ref a)] := hl
  refine lv_iconst (v := 0) hx hb dX5_names_0 (by decide) ?_
  refine lv_istore_n (lv' := [(1, .int 0), (0, .ref a)]) hx hb dX5_names_1 rfl hl (by decide) rfl (fun ls hl => ?_)
  refine lv_iconst (v := 0) hx hb dX5_names_2 (by decide) ?_
  refine lv_istore_n (lv' := [(2, .int 0), (1, .int 0), (0, .ref a)]) hx hb dX5_names_3 rfl hl (by decide) rfl (fun ls hl => ?_)
  have L4 : ∀ (n_ : Nat) (i : Nat) (H : Heap) (locs : List Loc) (ls : Array Slot), G - i < n_ → i ≤ G → Wd E A s.heap (MR E a b fs S) H locs → lv_has ls 3 [(0, .ref a), (1, .int (smI (S 7) i)), (2, .int (nI i))] → W p l e R s m args below meth c H locs 0 0 Q (F0 m 4 ls []) := by
    intro n_
    induction n_ with
    | zero => intro i H locs ls hm; exact absurd hm (Nat.not_lt_zero _)
    | succ n_ ih =>
      intro i H locs ls hm hi hW hl
      refine lv_iload_n hx hb dX5_names_4 rfl (lv_at hl 2 rfl) ?_
      refine lv_aload_n hx hb dX5_names_5 rfl (lv_at hl 0 rfl) ?_
      refine r_get hC hW flX5_7 0 rfl hf dX5_names_6 ?_
      refine lv_iconst (v := 3) hx hb dX5_names_9 (by decide) ?_
      refine r_iald hC hW 1 rfl 3 rfl (by omega) (by decide) dX5_names_10 ?_
      refine n_top (enc_0 S (by decide)) ?_
      refine n_top hG ?_
      refine lv_icmp_ge (tgt := 29) hx hb dX5_names_11 (by decide) (fun c_1 => ?_) (fun c_1 => ?_)
      · have c_1 : G ≤ i := (nI_leI (a := G) (b := i) (by omega) (by omega)).mp c_1
        refine lv_iload_n hx hb dX5_names_29 rfl (lv_at hl 1 rfl) ?_
        exact r_iret hC hQ hD hW () (by rw [show i = G by omega]) rfl rfl dX5_names_30
      · have c_1 : ¬ G ≤ i := fun z_ => c_1 ((nI_leI (a := G) (b := i) (by omega) (by omega)).mpr z_)
        refine lv_iload_n hx hb dX5_names_14 rfl (lv_at hl 1 rfl) ?_
        refine lv_aload_n hx hb dX5_names_15 rfl (lv_at hl 0 rfl) ?_
        refine lv_iload_n hx hb dX5_names_16 rfl (lv_at hl 2 rfl) ?_
        refine lv_iconst (v := 2) hx hb dX5_names_17 (by decide) ?_
        refine r_callVi hC hD hW hA lkX5_49 (c_X5_worn l E a b fs hf S i 2 (by omega) (by omega)) rfl ⟨by decide, by decide, by decide, by decide⟩ [0, 1] rfl rfl rfl (fun _ => rfl) hl.1 rfl rfl (Nat.le_of_ble_eq_true rfl) dX5_names_18 (fun r_2 _ H locs hr_2 hW => ?_)
        have hW : Wd E A s.heap (MR E a b fs S) H locs := hW
        have hr_2 : r_2 = (S 7 i) := hr_2
        subst hr_2
        refine n_iadd (v := ((smI (S 7) i) + (S 7 i))) hx hb dX5_names_21 rfl ?_
        refine lv_istore_n (lv' := [(1, .int ((smI (S 7) i) + (S 7 i))), (0, .ref a), (2, .int (nI i))]) hx hb dX5_names_22 rfl hl (by decide) rfl (fun ls hl => ?_)
        refine lv_iinc (v := (nI (i + 1))) (lv' := [(2, .int (nI (i + 1))), (1, .int ((smI (S 7) i) + (S 7 i))), (0, .ref a)]) (k := 2) hx hb dX5_names_23 hl rfl (nI_inc i 1) (by decide) rfl (fun ls hl => ?_)
        refine lv_goto (tgt := 4) hx hb dX5_names_26 (by decide) ?_
        exact ih (i + 1) _ _ _ (by omega) (by omega) hW (lv_sub hl [2, 1, 0] rfl)
  exact L4 (G - 0 + 1) 0 _ _ _ (Nat.lt_succ_self _) (by omega) hW (lv_sub hl [2, 1, 0] rfl)
end
section
theorem fdn_le {S : HS} {P G g : Nat} (h : HV S P G) : fdn S g ≤ 15 := by
  have h1 := h.ht
  unfold fdn
  split
  · omega
  · split <;> omega
theorem rdI_out {S : HS} {P g q : Nat} {x : Int32} (hP : P ≤ 6) (h60 : ¬ (60 ≤ nm S g ∧ S 4 (ow S g) = 0)) (hx : 20 ≤ nm S g → LSq (bnd S g) q P x) (hn : nm S g < 20 → x = -1) (hq : q = 0 ∨ nm S g < 20) : x = rdI S P g := by
  unfold rdI
  rw [if_neg h60]
  split
  · rcases hq with rfl | h
    · exact LSq_0 (by omega) (hx (by assumption))
    · omega
  · exact hn (by omega)
theorem wth_zero (S : HS) (i G : Nat) : mset (wth S (nI i)) G = 0 ↔ cOwn S i G + cOth S i G = 0 := by rw [mset_zero, ct_wth]
theorem held_sub : ∀ n, n < 100 → ∀ f, f < 16 → (if nI n - nI f < 0 then (0 : Int32) else if 99 < nI n - nI f then 99 else nI n - nI f) = nI (n - f) := by decide +kernel
theorem mnd_1 {S : HS} {i G : Nat} (h : S 1 i = 1) : mnd S i G = 2 * nI (cOwn S i G) - 3 * nI (cOth S i G) := by unfold mnd; rw [if_pos h]
theorem mnd_2 {S : HS} {i G : Nat} (h : S 1 i = 2) : mnd S i G = nI (cOwn S i G) + nI (cOth S i G) := by unfold mnd; rw [if_neg (by rw [h]; decide), if_pos h]
theorem mnd_3 {S : HS} {i G : Nat} (h : S 1 i = 3) : mnd S i G = nI (cOwn S i G) - nI (cOth S i G) + 1 := by unfold mnd; rw [if_neg (by rw [h]; decide), if_neg (by rw [h]; decide), if_pos h]
theorem mnd_4 {S : HS} {i G : Nat} (h : S 1 i = 4) : mnd S i G = 2 * nI (cOwn S i G) - 3 * nI (cOth S i G) + (if cOth S i G = 0 then 2 else 0) := by unfold mnd; rw [if_neg (by rw [h]; decide), if_neg (by rw [h]; decide), if_neg (by rw [h]; decide), if_pos h]
theorem mnd_5 {S : HS} {i G : Nat} (h : S 1 i = 5) : mnd S i G = nI (cOwn S i G) + 2 * nI (cOth S i G) := by unfold mnd; rw [if_neg (by rw [h]; decide), if_neg (by rw [h]; decide), if_neg (by rw [h]; decide), if_neg (by rw [h]; decide), if_pos h]
theorem mnd_d {S : HS} {i G : Nat} (h1 : ¬ S 1 i = 1) (h2 : ¬ S 1 i = 2) (h3 : ¬ S 1 i = 3) (h4 : ¬ S 1 i = 4) (h5 : ¬ S 1 i = 5) : mnd S i G = nI (cOwn S i G) - nI (cOth S i G) := by unfold mnd; rw [if_neg h1, if_neg h2, if_neg h3, if_neg h4, if_neg h5]
theorem mnd_4a {S : HS} {i G : Nat} (h : S 1 i = 4) (h0 : cOth S i G = 0) : mnd S i G = 2 * nI (cOwn S i G) + 2 := by
  rw [mnd_4 h, h0, if_pos rfl]
  have : (3 : Int32) * nI 0 = 0 := by decide
  rw [this, Int32.sub_zero]
theorem mnd_4b {S : HS} {i G : Nat} (h : S 1 i = 4) (h0 : ¬ cOth S i G = 0) : mnd S i G = 2 * nI (cOwn S i G) - 3 * nI (cOth S i G) := by
  rw [mnd_4 h, if_neg h0, Int32.add_zero]
theorem giv_1 {S : HS} {i g : Nat} (h : S 1 i = 1) : giv S i g := by unfold giv; rw [if_pos (Or.inl h)]; trivial
theorem giv_4 {S : HS} {i g : Nat} (h : S 1 i = 4) : giv S i g := by unfold giv; rw [if_pos (Or.inr h)]; trivial
theorem giv_2 {S : HS} {i g : Nat} (h : S 1 i = 2) : ¬ giv S i g := by unfold giv; rw [if_neg (by rw [h]; decide), if_pos (Or.inl h)]; exact id
theorem giv_5 {S : HS} {i g : Nat} (h : S 1 i = 5) : ¬ giv S i g := by unfold giv; rw [if_neg (by rw [h]; decide), if_pos (Or.inr h)]; exact id
theorem giv_3 {S : HS} {i g : Nat} (h : S 1 i = 3) : giv S i g ↔ 80 ≤ nm S g := by unfold giv; rw [if_neg (by rw [h]; decide), if_neg (by rw [h]; decide), if_pos h]
theorem giv_d {S : HS} {i g : Nat} (h1 : ¬ S 1 i = 1) (h2 : ¬ S 1 i = 2) (h3 : ¬ S 1 i = 3) (h4 : ¬ S 1 i = 4) (h5 : ¬ S 1 i = 5) : giv S i g ↔ 60 ≤ nm S g := by unfold giv; rw [if_neg (fun q => q.elim h1 h4), if_neg (fun q => q.elim h2 h5), if_neg h3]
theorem clm_1 {S : HS} {i g G : Nat} (h : S 1 i = 1) : clm S i g G ↔ S 5 g = nI i := by unfold clm; rw [if_pos (Or.inl h)]
theorem clm_4 {S : HS} {i g G : Nat} (h : S 1 i = 4) : clm S i g G ↔ S 5 g = nI i := by unfold clm; rw [if_pos (Or.inr h)]
theorem clm_2 {S : HS} {i g G : Nat} (h : S 1 i = 2) : clm S i g G ↔ cOwn S i G + cOth S i G = 0 := by unfold clm; rw [if_neg (by rw [h]; decide), if_pos h]
theorem clm_5 {S : HS} {i g G : Nat} (h : S 1 i = 5) : clm S i g G ↔ cOwn S i G + cOth S i G = 0 ∨ 50 ≤ nm S g := by unfold clm; rw [if_neg (by rw [h]; decide), if_neg (by rw [h]; decide), if_pos h]
theorem clm_d {S : HS} {i g G : Nat} (h1 : ¬ S 1 i = 1) (h2 : ¬ S 1 i = 2) (h4 : ¬ S 1 i = 4) (h5 : ¬ S 1 i = 5) : clm S i g G ↔ S 5 g = nI i ∧ 1 ≤ nm S g := by unfold clm; rw [if_neg (fun q => q.elim h1 h4), if_neg h2, if_neg h5]
theorem w1_no {S : HS} {P g : Nat} (h : S 8 g = -1) : w1 S P g = S := by unfold w1; rw [if_pos h]
theorem w1_y {S : HS} {P g : Nat} (h : ¬ S 8 g = -1) (h2 : S 8 g = S 5 g ∨ S 4 (ho S g) = 1 ∨ giB (fade S g) (ho S g) g = true) : w1 S P g = st (fade S g) 8 g (rdI (fade S g) P g) := by unfold w1; rw [if_neg h, if_pos h2]
theorem w1_n {S : HS} {P g : Nat} (h : ¬ S 8 g = -1) (h1 : ¬ S 8 g = S 5 g) (h2 : ¬ S 4 (ho S g) = 1) (h3 : ¬ giv (fade S g) (ho S g) g) : w1 S P g = fade S g := by
  unfold w1
  rw [if_neg h, if_neg]
  rintro (q | q | q)
  · exact h1 q
  · exact h2 q
  · exact h3 (giB_t.mp q)
theorem y1_y {S : HS} {P G g : Nat} (h : S 8 g = -1) : y1 S P G g = st S 8 g (lsI (cls S g G) P) := by unfold y1; rw [if_pos h]
theorem y1_n {S : HS} {P G g : Nat} (h : ¬ S 8 g = -1) : y1 S P G g = S := by unfold y1; rw [if_neg h]
theorem cls_t {S : HS} {g G i : Nat} (h1 : S 4 i = 0) (h2 : clm S i g G) : cls S g G i = true := by unfold cls liv; rw [decide_eq_true h1, clB_t.mpr h2]; rfl
theorem cls_f1 {S : HS} {g G i : Nat} (h1 : ¬ S 4 i = 0) : cls S g G i = false := by unfold cls liv; rw [decide_eq_false h1]; rfl
theorem cls_f2 {S : HS} {g G i : Nat} (h2 : ¬ clm S i g G) : cls S g G i = false := by unfold cls; rw [clB_f.mpr h2, Bool.and_false]
theorem kN_t {S : HS} {G i : Nat} (h : kN S G i 4 i = 0) : kN S G (i + 1) = st (kN S G i) 3 i (hld (kN S G i 3 i + mnd (kN S G i) i G)) := by rw [kN, k1, if_pos h]
theorem kN_f {S : HS} {G i : Nat} (h : ¬ kN S G i 4 i = 0) : kN S G (i + 1) = kN S G i := by rw [kN, k1, if_neg h]
theorem yT_end {Z : HS} {P G i : Nat} (h : i = G) (ho : i = 0 ∨ Z 0 0 - Z 0 0 / 2 * 2 = 1) : yT Z P G = yN Z P G i := by
  unfold yT
  split
  · rw [h]
  · rcases ho with q | q
    · rw [q]; rfl
    · exact absurd q (by assumption)
theorem yT_no {Z : HS} {P G i : Nat} (h : ¬ Z 0 0 - Z 0 0 / 2 * 2 = 1) (ho : i = 0 ∨ Z 0 0 - Z 0 0 / 2 * 2 = 1) : yT Z P G = yN Z P G i := by
  unfold yT
  rw [if_neg h]
  rcases ho with q | q
  · rw [q]; rfl
  · exact absurd q h
theorem ho_ne {S : HS} {g n : Nat} (h : S 8 g = nI n) (hn : n < 2 ^ 31) : ¬ S 8 g = -1 := by rw [h]; exact nI_m1 hn
def addP (S : HS) (P : Nat) (kd bd : Int32) : HS := st (st (st (st (st S 1 P kd) 2 P bd) 3 P 0) 4 P 0) 0 2 (nI (P + 1))
def addG (S : HS) (G : Nat) (o mk n w : Int32) : HS := st (st (st (st (st S 5 G o) 6 G mk) 7 G n) 8 G w) 0 3 (nI (G + 1))
end
section
set_option maxHeartbeats 4000000 in
set_option maxRecDepth 100000 in
theorem c_X5_fades (l : Launch) (E : Ev) (a : Nat) (b : Nat) (fs : List Value) (hf : fs[0]? = some (.ref b)) (S : HS) (P : Nat) (G : Nat) (hV : HV S P G) (g : Nat) (hg : g < G) : MI l E yX5_fades cX5_fades 3 .int 1 22 0 0 [.ref a, .int (nI g)] (MR E a b fs S) (fun (r : Int32) (_ : Unit) => r = nI (fdn S g)) (fun (_ : Unit) => (MR E a b fs S)) := by
  refine MI_intro RX5 (by decide) rfl (Nat.le_of_ble_eq_true rfl) ?_
  intro p e R s m args below meth c A Q hQ hC hD hW hA ls hl
  have hx := hC.1
  have hb := hC.2.1
  have hW : Wd E A s.heap (MR E a b fs S) s.heap [] := hW
  have hl : lv_has ls 3 [(0, .ref a), (1, .int (nI g))] := hl
  have hP := hV.p
  have hP1 := hV.p6
  have hG := hV.g
  have hG1 := hV.g10
  have hht := hV.ht
  refine lv_aload_n hx hb dX5_fades_0 rfl (lv_at hl 0 rfl) ?_
  refine r_get hC hW flX5_7 0 rfl hf dX5_fades_1 ?_
  refine lv_iconst (v := 1) hx hb dX5_fades_4 (by decide) ?_
  refine r_iald hC hW 1 rfl 1 rfl (by omega) (by decide) dX5_fades_5 ?_
  refine n_top (enc_0 S (by decide)) ?_
  refine n_top hV.ht.1 ?_
  refine lv_istore_n (lv' := [(2, .int (nI (ht S))), (0, .ref a), (1, .int (nI g))]) hx hb dX5_fades_6 rfl hl (by decide) rfl (fun ls hl => ?_)
  refine lv_aload_n hx hb dX5_fades_7 rfl (lv_at hl 1 rfl) ?_
  refine lv_iload_n hx hb dX5_fades_8 rfl (lv_at hl 2 rfl) ?_
  refine lv_iconst (v := 1) hx hb dX5_fades_9 (by decide) ?_
  refine r_callVi hC hD hW hA lkX5_49 (c_X5_worn l E a b fs hf S g 1 (by omega) (by omega)) rfl ⟨by decide, by decide, by decide, by decide⟩ [0, 1] rfl rfl rfl (fun _ => rfl) hl.1 rfl rfl (Nat.le_of_ble_eq_true rfl) dX5_fades_10 (fun r_1 _ H locs hr_1 hW => ?_)
  have hW : Wd E A s.heap (MR E a b fs S) H locs := hW
  have hr_1 : r_1 = (S 6 g) := hr_1
  subst hr_1
  by_cases k_2 : (S 6 g) = 0
  · refine lv_lookup (off := 27) (tgt := 40) hx hb dX5_fades_13 (by decide) (by rw [k_2]; decide) (by decide) ?_
    refine lv_iconst (v := 1) hx hb dX5_fades_40 (by decide) ?_
    exact r_iret hC hQ hD hW () (by unfold fdn; rw [k_2]; rfl) rfl rfl dX5_fades_41
  by_cases k_3 : (S 6 g) = 1
  · refine lv_lookup (off := 29) (tgt := 42) hx hb dX5_fades_13 (by decide) (by rw [k_3]; decide) (by decide) ?_
    refine lv_iload_n hx hb dX5_fades_42 rfl (lv_at hl 0 rfl) ?_
    refine lv_bipush (v := 50) hx hb dX5_fades_43 (by decide) ?_
    refine lv_icmp_le (tgt := 61) hx hb dX5_fades_45 (by decide) (fun c_4 => ?_) (fun c_4 => ?_)
    · have c_4 : ht S ≤ 50 := (nI_leI (a := ht S) (b := 50) (by omega) (by omega)).mp c_4
      refine lv_bipush (v := 9) hx hb dX5_fades_61 (by decide) ?_
      exact r_iret hC hQ hD hW () (by unfold fdn; rw [if_pos k_3, show (ht S - 50) / 10 = 0 by omega]; rfl) rfl rfl dX5_fades_63
    · have c_4 : ¬ ht S ≤ 50 := fun z_ => c_4 ((nI_leI (a := ht S) (b := 50) (by omega) (by omega)).mpr z_)
      refine lv_bipush (v := 9) hx hb dX5_fades_48 (by decide) ?_
      refine lv_iload_n hx hb dX5_fades_50 rfl (lv_at hl 0 rfl) ?_
      refine lv_bipush (v := 50) hx hb dX5_fades_51 (by decide) ?_
      refine n_isub (v := (nI (ht S - 50))) hx hb dX5_fades_53 (pk_sub (a := ht S) (b := 50) (by omega)) ?_
      refine lv_bipush (v := 10) hx hb dX5_fades_54 (by decide) ?_
      refine n_idiv (v := (nI ((ht S - 50) / 10))) hx hb dX5_fades_56 (by decide) (pk_div (a := ht S - 50) (d := 10) (by omega) (by decide) (by decide)) ?_
      refine n_iadd (v := (nI (9 + ((ht S - 50) / 10)))) hx hb dX5_fades_57 (nI_add 9 ((ht S - 50) / 10)) ?_
      refine lv_goto (tgt := 63) hx hb dX5_fades_58 (by decide) ?_
      exact r_iret hC hQ hD hW () (congrArg nI (by unfold fdn; rw [if_pos k_3])) rfl rfl dX5_fades_63
  refine lv_lookup (off := 51) (tgt := 64) hx hb dX5_fades_13 (by decide) (by rw [lv_osw k_2 (by decide), lv_osw k_3 (by decide)]; rfl) (by decide) ?_
  refine lv_iload_n hx hb dX5_fades_64 rfl (lv_at hl 0 rfl) ?_
  refine lv_bipush (v := 6) hx hb dX5_fades_65 (by decide) ?_
  refine n_idiv (v := (nI (ht S / 6))) hx hb dX5_fades_67 (by decide) (pk_div (a := ht S) (d := 6) (by omega) (by decide) (by decide)) ?_
  exact r_iret hC hQ hD hW () (congrArg nI (by unfold fdn; rw [if_neg k_3, if_pos ((hV.gv hg).2.1.resolve_left k_2 |>.resolve_left k_3)])) rfl rfl dX5_fades_68
set_option maxHeartbeats 4000000 in
set_option maxRecDepth 100000 in
theorem c_X5_reads (l : Launch) (E : Ev) (a : Nat) (b : Nat) (fs : List Value) (hf : fs[0]? = some (.ref b)) (S : HS) (P : Nat) (G : Nat) (hV : HV S P G) (g : Nat) (hg : g < G) : MI l E yX5_reads cX5_reads 6 .int 1 22 0 0 [.ref a, .int (nI g)] (MR E a b fs S) (fun (r : Int32) (_ : Unit) => r = rdI S P g) (fun (_ : Unit) => (MR E a b fs S)) := by
  refine MI_intro RX5 (by decide) rfl (Nat.le_of_ble_eq_true rfl) ?_
  intro p e R s m args below meth c A Q hQ hC hD hW hA ls hl
  have hx := hC.1
  have hb := hC.2.1
  have hW : Wd E A s.heap (MR E a b fs S) s.heap [] := hW
  have hl : lv_has ls 6 [(0, .ref a), (1, .int (nI g))] := hl
  have hP := hV.p
  have hP1 := hV.p6
  have hG := hV.g
  have hG1 := hV.g10
  have hou := (hV.gv hg).ow hP1
  have hnm := hV.nm99 hg
  refine lv_aload_n hx hb dX5_reads_0 rfl (lv_at hl 0 rfl) ?_
  refine lv_iload_n hx hb dX5_reads_1 rfl (lv_at hl 1 rfl) ?_
  refine lv_iconst (v := 0) hx hb dX5_reads_2 (by decide) ?_
  refine r_callVi hC hD hW hA lkX5_49 (c_X5_worn l E a b fs hf S g 0 (by omega) (by omega)) rfl ⟨by decide, by decide, by decide, by decide⟩ [0, 1] rfl rfl rfl (fun _ => rfl) hl.1 rfl rfl (Nat.le_of_ble_eq_true rfl) dX5_reads_3 (fun r_1 _ H locs hr_1 hW => ?_)
  have hW : Wd E A s.heap (MR E a b fs S) H locs := hW
  have hr_1 : r_1 = (S 5 g) := hr_1
  subst hr_1
  refine n_top hou.1 ?_
  refine lv_istore_n (lv' := [(2, .int (nI (ow S g))), (0, .ref a), (1, .int (nI g))]) hx hb dX5_reads_6 rfl hl (by decide) rfl (fun ls hl => ?_)
  refine lv_aload_n hx hb dX5_reads_7 rfl (lv_at hl 1 rfl) ?_
  refine lv_iload_n hx hb dX5_reads_8 rfl (lv_at hl 2 rfl) ?_
  refine lv_iconst (v := 2) hx hb dX5_reads_9 (by decide) ?_
  refine r_callVi hC hD hW hA lkX5_49 (c_X5_worn l E a b fs hf S g 2 (by omega) (by omega)) rfl ⟨by decide, by decide, by decide, by decide⟩ [0, 1] rfl rfl rfl (fun _ => rfl) hl.1 rfl rfl (Nat.le_of_ble_eq_true rfl) dX5_reads_10 (fun r_2 _ H locs hr_2 hW => ?_)
  have hW : Wd E A s.heap (MR E a b fs S) H locs := hW
  have hr_2 : r_2 = (S 7 g) := hr_2
  subst hr_2
  refine n_top (hV.nmv hg) ?_
  refine lv_istore_n (lv' := [(3, .int (nI (nm S g))), (2, .int (nI (ow S g))), (0, .ref a), (1, .int (nI g))]) hx hb dX5_reads_13 rfl hl (by decide) rfl (fun ls hl => ?_)
  refine lv_iload_n hx hb dX5_reads_14 rfl (lv_at hl 0 rfl) ?_
  refine lv_bipush (v := 60) hx hb dX5_reads_15 (by decide) ?_
  refine lv_icmp_lt (tgt := 31) hx hb dX5_reads_17 (by decide) (fun c_3 => ?_) (fun c_3 => ?_)
  · have c_3 : nm S g < 60 := (nI_ltI (a := nm S g) (b := 60) (by omega) (by omega)).mp c_3
    refine lv_iconst (v := (-1)) hx hb dX5_reads_31 (by decide) ?_
    refine lv_istore (lv' := [(4, .int (-1)), (3, .int (nI (nm S g))), (2, .int (nI (ow S g))), (0, .ref a), (1, .int (nI g))]) hx hb dX5_reads_32 hl (by decide) rfl (fun ls hl => ?_)
    refine lv_aload_n hx hb dX5_reads_34 rfl (lv_at hl 3 rfl) ?_
    refine r_get hC hW flX5_7 0 rfl hf dX5_reads_35 ?_
    refine lv_iconst (v := 2) hx hb dX5_reads_38 (by decide) ?_
    refine r_iald hC hW 1 rfl 2 rfl (by omega) (by decide) dX5_reads_39 ?_
    refine n_top (enc_0 S (by decide)) ?_
    refine n_top hV.p ?_
    refine lv_iconst (v := 1) hx hb dX5_reads_40 (by decide) ?_
    refine n_isub (v := ((nI P) - 1)) hx hb dX5_reads_41 rfl ?_
    refine lv_istore (lv' := [(5, .int ((nI P) - 1)), (4, .int (-1)), (3, .int (nI (nm S g))), (2, .int (nI (ow S g))), (0, .ref a), (1, .int (nI g))]) hx hb dX5_reads_42 hl (by decide) rfl (fun ls hl => ?_)
    have L44 : ∀ (n_ : Nat) (q : Nat) (x : Int32) (H : Heap) (locs : List Loc) (ls : Array Slot), q < n_ → q ≤ P → (20 ≤ nm S g → LSq (bnd S g) q P x) → (nm S g < 20 → x = -1) → ¬ (60 ≤ nm S g ∧ S 4 (ow S g) = 0) → Wd E A s.heap (MR E a b fs S) H locs → lv_has ls 6 [(0, .ref a), (1, .int (nI g)), (2, .int (nI (ow S g))), (3, .int (nI (nm S g))), (4, .int x), (5, .int (nI q - 1))] → W p l e R s m args below meth c H locs 0 0 Q (F0 m 44 ls []) := by
      intro n_
      induction n_ with
      | zero => intro q x H locs ls hm; exact absurd hm (Nat.not_lt_zero _)
      | succ n_ ih =>
        intro q x H locs ls hm hq hX1 hn h60 hW hl
        rcases q with _ | q
        · have hl : lv_has ls 6 [(0, .ref a), (1, .int (nI g)), (2, .int (nI (ow S g))), (3, .int (nI (nm S g))), (4, .int x), (5, .int (-1))] := hl
          refine lv_iload hx hb dX5_reads_44 (lv_at hl 5 rfl) ?_
          refine lv_if_lt (tgt := 96) hx hb dX5_reads_46 (by decide) (fun _ => ?_) (fun c => absurd c (by decide))
          refine lv_iload hx hb dX5_reads_96 (lv_at hl 4 rfl) ?_
          exact r_iret hC hQ hD hW () (rdI_out hP1 h60 hX1 hn (Or.inl rfl)) rfl rfl dX5_reads_98
        · rw [show nI (q + 1) - 1 = nI q from nI_pred q] at hl
          refine lv_iload hx hb dX5_reads_44 (lv_at hl 5 rfl) ?_
          refine lv_if_lt (tgt := 96) hx hb dX5_reads_46 (by decide) (fun c_4 => absurd c_4 (nI_pos (by omega))) (fun c_4 => ?_)
          have c_4 : ¬ q < 0 := fun z_ => c_4 ((nI_ltI (a := q) (b := 0) (by omega) (by omega)).mpr z_)
          refine lv_iload_n hx hb dX5_reads_49 rfl (lv_at hl 3 rfl) ?_
          refine lv_bipush (v := 20) hx hb dX5_reads_50 (by decide) ?_
          refine lv_icmp_lt (tgt := 96) hx hb dX5_reads_52 (by decide) (fun c_5 => ?_) (fun c_5 => ?_)
          · have c_5 : nm S g < 20 := (nI_ltI (a := nm S g) (b := 20) (by omega) (by omega)).mp c_5
            refine lv_iload hx hb dX5_reads_96 (lv_at hl 4 rfl) ?_
            exact r_iret hC hQ hD hW () (rdI_out hP1 h60 hX1 hn (Or.inr (by omega))) rfl rfl dX5_reads_98
          · have c_5 : ¬ nm S g < 20 := fun z_ => c_5 ((nI_ltI (a := nm S g) (b := 20) (by omega) (by omega)).mpr z_)
            refine lv_aload_n hx hb dX5_reads_55 rfl (lv_at hl 0 rfl) ?_
            refine lv_iload hx hb dX5_reads_56 (lv_at hl 5 rfl) ?_
            refine lv_iconst (v := 1) hx hb dX5_reads_58 (by decide) ?_
            refine r_callVi hC hD hW hA lkX5_57 (c_X5_its l E a b fs hf S q 1 (by omega) (by omega)) rfl ⟨by decide, by decide, by decide, by decide⟩ [0, 1] rfl rfl rfl (fun _ => rfl) hl.1 rfl rfl (Nat.le_of_ble_eq_true rfl) dX5_reads_59 (fun r_6 _ H locs hr_6 hW => ?_)
            have hW : Wd E A s.heap (MR E a b fs S) H locs := hW
            have hr_6 : r_6 = (S 2 q) := hr_6
            subst hr_6
            refine lv_aload_n hx hb dX5_reads_62 rfl (lv_at hl 0 rfl) ?_
            refine lv_iload_n hx hb dX5_reads_63 rfl (lv_at hl 2 rfl) ?_
            refine lv_iconst (v := 1) hx hb dX5_reads_64 (by decide) ?_
            refine r_callVi hC hD hW hA lkX5_57 (c_X5_its l E a b fs hf S (ow S g) 1 (by omega) (by omega)) rfl ⟨by decide, by decide, by decide, by decide⟩ [0, 1] rfl rfl rfl (fun _ => rfl) hl.1 rfl rfl (Nat.le_of_ble_eq_true rfl) dX5_reads_65 (fun r_7 _ H locs hr_7 hW => ?_)
            have hW : Wd E A s.heap (MR E a b fs S) H locs := hW
            have hr_7 : r_7 = (S 2 (ow S g)) := hr_7
            subst hr_7
            refine lv_icmp_ne (tgt := 86) hx hb dX5_reads_68 (by decide) (fun c_8 => ?_) (fun c_8 => ?_)
            · refine lv_iload hx hb dX5_reads_86 (lv_at hl 4 rfl) ?_
              refine lv_istore (lv' := [(4, .int x), (0, .ref a), (1, .int (nI g)), (2, .int (nI (ow S g))), (3, .int (nI (nm S g))), (5, .int (nI q))]) hx hb dX5_reads_88 hl (by decide) rfl (fun ls hl => ?_)
              refine lv_iinc (v := (nI q - 1)) (lv' := [(5, .int (nI q - 1)), (4, .int x), (0, .ref a), (1, .int (nI g)), (2, .int (nI (ow S g))), (3, .int (nI (nm S g)))]) (k := 5) hx hb dX5_reads_90 hl rfl (nI_dec q) (by decide) rfl (fun ls hl => ?_)
              refine lv_goto (tgt := 44) hx hb dX5_reads_93 (by decide) ?_
              exact ih q x _ _ _ (by omega) (by omega) (fun z => LSq_f (decide_eq_false (fun w => c_8 w.1)) (hX1 z)) (fun z => by omega) h60 hW (lv_sub hl [2, 3, 4, 5, 1, 0] rfl)
            · refine lv_aload_n hx hb dX5_reads_71 rfl (lv_at hl 0 rfl) ?_
              refine lv_iload hx hb dX5_reads_72 (lv_at hl 5 rfl) ?_
              refine lv_iconst (v := 3) hx hb dX5_reads_74 (by decide) ?_
              refine r_callVi hC hD hW hA lkX5_57 (c_X5_its l E a b fs hf S q 3 (by omega) (by omega)) rfl ⟨by decide, by decide, by decide, by decide⟩ [0, 1] rfl rfl rfl (fun _ => rfl) hl.1 rfl rfl (Nat.le_of_ble_eq_true rfl) dX5_reads_75 (fun r_9 _ H locs hr_9 hW => ?_)
              have hW : Wd E A s.heap (MR E a b fs S) H locs := hW
              have hr_9 : r_9 = (S 4 q) := hr_9
              subst hr_9
              refine lv_if_ne (tgt := 86) hx hb dX5_reads_78 (by decide) (fun c_10 => ?_) (fun c_10 => ?_)
              · refine lv_iload hx hb dX5_reads_86 (lv_at hl 4 rfl) ?_
                refine lv_istore (lv' := [(4, .int x), (0, .ref a), (1, .int (nI g)), (2, .int (nI (ow S g))), (3, .int (nI (nm S g))), (5, .int (nI q))]) hx hb dX5_reads_88 hl (by decide) rfl (fun ls hl => ?_)
                refine lv_iinc (v := (nI q - 1)) (lv' := [(5, .int (nI q - 1)), (4, .int x), (0, .ref a), (1, .int (nI g)), (2, .int (nI (ow S g))), (3, .int (nI (nm S g)))]) (k := 5) hx hb dX5_reads_90 hl rfl (nI_dec q) (by decide) rfl (fun ls hl => ?_)
                refine lv_goto (tgt := 44) hx hb dX5_reads_93 (by decide) ?_
                exact ih q x _ _ _ (by omega) (by omega) (fun z => LSq_f (decide_eq_false (fun w => c_10 w.2)) (hX1 z)) (fun z => by omega) h60 hW (lv_sub hl [2, 3, 4, 5, 1, 0] rfl)
              · refine lv_iload hx hb dX5_reads_81 (lv_at hl 5 rfl) ?_
                refine lv_goto (tgt := 88) hx hb dX5_reads_83 (by decide) ?_
                refine lv_istore (lv' := [(4, .int (nI q)), (0, .ref a), (1, .int (nI g)), (2, .int (nI (ow S g))), (3, .int (nI (nm S g))), (5, .int (nI q))]) hx hb dX5_reads_88 hl (by decide) rfl (fun ls hl => ?_)
                refine lv_iinc (v := (nI q - 1)) (lv' := [(5, .int (nI q - 1)), (4, .int (nI q)), (0, .ref a), (1, .int (nI g)), (2, .int (nI (ow S g))), (3, .int (nI (nm S g)))]) (k := 5) hx hb dX5_reads_90 hl rfl (nI_dec q) (by decide) rfl (fun ls hl => ?_)
                refine lv_goto (tgt := 44) hx hb dX5_reads_93 (by decide) ?_
                exact ih q (nI q) _ _ _ (by omega) (by omega) (fun _ => LSq_t (decide_eq_true ⟨c_8, c_10⟩) (by omega)) (fun z => by omega) h60 hW (lv_sub hl [2, 3, 4, 5, 1, 0] rfl)
    exact L44 (P + 1) P (-1) _ _ _ (Nat.lt_succ_self _) (by omega) (fun _ => LSq_init _ P) (fun _ => rfl) (fun z => by omega) hW (lv_sub hl [4, 5, 3, 2, 1, 0] rfl)
  · have c_3 : ¬ nm S g < 60 := fun z_ => c_3 ((nI_ltI (a := nm S g) (b := 60) (by omega) (by omega)).mpr z_)
    refine lv_aload_n hx hb dX5_reads_20 rfl (lv_at hl 2 rfl) ?_
    refine lv_iload_n hx hb dX5_reads_21 rfl (lv_at hl 1 rfl) ?_
    refine lv_iconst (v := 3) hx hb dX5_reads_22 (by decide) ?_
    refine r_callVi hC hD hW hA lkX5_57 (c_X5_its l E a b fs hf S (ow S g) 3 (by omega) (by omega)) rfl ⟨by decide, by decide, by decide, by decide⟩ [0, 1] rfl rfl rfl (fun _ => rfl) hl.1 rfl rfl (Nat.le_of_ble_eq_true rfl) dX5_reads_23 (fun r_11 _ H locs hr_11 hW => ?_)
    have hW : Wd E A s.heap (MR E a b fs S) H locs := hW
    have hr_11 : r_11 = (S 4 (ow S g)) := hr_11
    subst hr_11
    refine lv_if_ne (tgt := 31) hx hb dX5_reads_26 (by decide) (fun c_12 => ?_) (fun c_12 => ?_)
    · refine lv_iconst (v := (-1)) hx hb dX5_reads_31 (by decide) ?_
      refine lv_istore (lv' := [(4, .int (-1)), (3, .int (nI (nm S g))), (2, .int (nI (ow S g))), (0, .ref a), (1, .int (nI g))]) hx hb dX5_reads_32 hl (by decide) rfl (fun ls hl => ?_)
      refine lv_aload_n hx hb dX5_reads_34 rfl (lv_at hl 3 rfl) ?_
      refine r_get hC hW flX5_7 0 rfl hf dX5_reads_35 ?_
      refine lv_iconst (v := 2) hx hb dX5_reads_38 (by decide) ?_
      refine r_iald hC hW 1 rfl 2 rfl (by omega) (by decide) dX5_reads_39 ?_
      refine n_top (enc_0 S (by decide)) ?_
      refine n_top hV.p ?_
      refine lv_iconst (v := 1) hx hb dX5_reads_40 (by decide) ?_
      refine n_isub (v := ((nI P) - 1)) hx hb dX5_reads_41 rfl ?_
      refine lv_istore (lv' := [(5, .int ((nI P) - 1)), (4, .int (-1)), (3, .int (nI (nm S g))), (2, .int (nI (ow S g))), (0, .ref a), (1, .int (nI g))]) hx hb dX5_reads_42 hl (by decide) rfl (fun ls hl => ?_)
      have L44 : ∀ (n_ : Nat) (q : Nat) (x : Int32) (H : Heap) (locs : List Loc) (ls : Array Slot), q < n_ → q ≤ P → (20 ≤ nm S g → LSq (bnd S g) q P x) → (nm S g < 20 → x = -1) → ¬ (60 ≤ nm S g ∧ S 4 (ow S g) = 0) → Wd E A s.heap (MR E a b fs S) H locs → lv_has ls 6 [(0, .ref a), (1, .int (nI g)), (2, .int (nI (ow S g))), (3, .int (nI (nm S g))), (4, .int x), (5, .int (nI q - 1))] → W p l e R s m args below meth c H locs 0 0 Q (F0 m 44 ls []) := by
        intro n_
        induction n_ with
        | zero => intro q x H locs ls hm; exact absurd hm (Nat.not_lt_zero _)
        | succ n_ ih =>
          intro q x H locs ls hm hq hX1 hn h60 hW hl
          rcases q with _ | q
          · have hl : lv_has ls 6 [(0, .ref a), (1, .int (nI g)), (2, .int (nI (ow S g))), (3, .int (nI (nm S g))), (4, .int x), (5, .int (-1))] := hl
            refine lv_iload hx hb dX5_reads_44 (lv_at hl 5 rfl) ?_
            refine lv_if_lt (tgt := 96) hx hb dX5_reads_46 (by decide) (fun _ => ?_) (fun c => absurd c (by decide))
            refine lv_iload hx hb dX5_reads_96 (lv_at hl 4 rfl) ?_
            exact r_iret hC hQ hD hW () (rdI_out hP1 h60 hX1 hn (Or.inl rfl)) rfl rfl dX5_reads_98
          · rw [show nI (q + 1) - 1 = nI q from nI_pred q] at hl
            refine lv_iload hx hb dX5_reads_44 (lv_at hl 5 rfl) ?_
            refine lv_if_lt (tgt := 96) hx hb dX5_reads_46 (by decide) (fun c_13 => absurd c_13 (nI_pos (by omega))) (fun c_13 => ?_)
            have c_13 : ¬ q < 0 := fun z_ => c_13 ((nI_ltI (a := q) (b := 0) (by omega) (by omega)).mpr z_)
            refine lv_iload_n hx hb dX5_reads_49 rfl (lv_at hl 3 rfl) ?_
            refine lv_bipush (v := 20) hx hb dX5_reads_50 (by decide) ?_
            refine lv_icmp_lt (tgt := 96) hx hb dX5_reads_52 (by decide) (fun c_14 => ?_) (fun c_14 => ?_)
            · have c_14 : nm S g < 20 := (nI_ltI (a := nm S g) (b := 20) (by omega) (by omega)).mp c_14
              refine lv_iload hx hb dX5_reads_96 (lv_at hl 4 rfl) ?_
              exact r_iret hC hQ hD hW () (rdI_out hP1 h60 hX1 hn (Or.inr (by omega))) rfl rfl dX5_reads_98
            · have c_14 : ¬ nm S g < 20 := fun z_ => c_14 ((nI_ltI (a := nm S g) (b := 20) (by omega) (by omega)).mpr z_)
              refine lv_aload_n hx hb dX5_reads_55 rfl (lv_at hl 0 rfl) ?_
              refine lv_iload hx hb dX5_reads_56 (lv_at hl 5 rfl) ?_
              refine lv_iconst (v := 1) hx hb dX5_reads_58 (by decide) ?_
              refine r_callVi hC hD hW hA lkX5_57 (c_X5_its l E a b fs hf S q 1 (by omega) (by omega)) rfl ⟨by decide, by decide, by decide, by decide⟩ [0, 1] rfl rfl rfl (fun _ => rfl) hl.1 rfl rfl (Nat.le_of_ble_eq_true rfl) dX5_reads_59 (fun r_15 _ H locs hr_15 hW => ?_)
              have hW : Wd E A s.heap (MR E a b fs S) H locs := hW
              have hr_15 : r_15 = (S 2 q) := hr_15
              subst hr_15
              refine lv_aload_n hx hb dX5_reads_62 rfl (lv_at hl 0 rfl) ?_
              refine lv_iload_n hx hb dX5_reads_63 rfl (lv_at hl 2 rfl) ?_
              refine lv_iconst (v := 1) hx hb dX5_reads_64 (by decide) ?_
              refine r_callVi hC hD hW hA lkX5_57 (c_X5_its l E a b fs hf S (ow S g) 1 (by omega) (by omega)) rfl ⟨by decide, by decide, by decide, by decide⟩ [0, 1] rfl rfl rfl (fun _ => rfl) hl.1 rfl rfl (Nat.le_of_ble_eq_true rfl) dX5_reads_65 (fun r_16 _ H locs hr_16 hW => ?_)
              have hW : Wd E A s.heap (MR E a b fs S) H locs := hW
              have hr_16 : r_16 = (S 2 (ow S g)) := hr_16
              subst hr_16
              refine lv_icmp_ne (tgt := 86) hx hb dX5_reads_68 (by decide) (fun c_17 => ?_) (fun c_17 => ?_)
              · refine lv_iload hx hb dX5_reads_86 (lv_at hl 4 rfl) ?_
                refine lv_istore (lv' := [(4, .int x), (0, .ref a), (1, .int (nI g)), (2, .int (nI (ow S g))), (3, .int (nI (nm S g))), (5, .int (nI q))]) hx hb dX5_reads_88 hl (by decide) rfl (fun ls hl => ?_)
                refine lv_iinc (v := (nI q - 1)) (lv' := [(5, .int (nI q - 1)), (4, .int x), (0, .ref a), (1, .int (nI g)), (2, .int (nI (ow S g))), (3, .int (nI (nm S g)))]) (k := 5) hx hb dX5_reads_90 hl rfl (nI_dec q) (by decide) rfl (fun ls hl => ?_)
                refine lv_goto (tgt := 44) hx hb dX5_reads_93 (by decide) ?_
                exact ih q x _ _ _ (by omega) (by omega) (fun z => LSq_f (decide_eq_false (fun w => c_17 w.1)) (hX1 z)) (fun z => by omega) h60 hW (lv_sub hl [2, 3, 4, 5, 1, 0] rfl)
              · refine lv_aload_n hx hb dX5_reads_71 rfl (lv_at hl 0 rfl) ?_
                refine lv_iload hx hb dX5_reads_72 (lv_at hl 5 rfl) ?_
                refine lv_iconst (v := 3) hx hb dX5_reads_74 (by decide) ?_
                refine r_callVi hC hD hW hA lkX5_57 (c_X5_its l E a b fs hf S q 3 (by omega) (by omega)) rfl ⟨by decide, by decide, by decide, by decide⟩ [0, 1] rfl rfl rfl (fun _ => rfl) hl.1 rfl rfl (Nat.le_of_ble_eq_true rfl) dX5_reads_75 (fun r_18 _ H locs hr_18 hW => ?_)
                have hW : Wd E A s.heap (MR E a b fs S) H locs := hW
                have hr_18 : r_18 = (S 4 q) := hr_18
                subst hr_18
                refine lv_if_ne (tgt := 86) hx hb dX5_reads_78 (by decide) (fun c_19 => ?_) (fun c_19 => ?_)
                · refine lv_iload hx hb dX5_reads_86 (lv_at hl 4 rfl) ?_
                  refine lv_istore (lv' := [(4, .int x), (0, .ref a), (1, .int (nI g)), (2, .int (nI (ow S g))), (3, .int (nI (nm S g))), (5, .int (nI q))]) hx hb dX5_reads_88 hl (by decide) rfl (fun ls hl => ?_)
                  refine lv_iinc (v := (nI q - 1)) (lv' := [(5, .int (nI q - 1)), (4, .int x), (0, .ref a), (1, .int (nI g)), (2, .int (nI (ow S g))), (3, .int (nI (nm S g)))]) (k := 5) hx hb dX5_reads_90 hl rfl (nI_dec q) (by decide) rfl (fun ls hl => ?_)
                  refine lv_goto (tgt := 44) hx hb dX5_reads_93 (by decide) ?_
                  exact ih q x _ _ _ (by omega) (by omega) (fun z => LSq_f (decide_eq_false (fun w => c_19 w.2)) (hX1 z)) (fun z => by omega) h60 hW (lv_sub hl [2, 3, 4, 5, 1, 0] rfl)
                · refine lv_iload hx hb dX5_reads_81 (lv_at hl 5 rfl) ?_
                  refine lv_goto (tgt := 88) hx hb dX5_reads_83 (by decide) ?_
                  refine lv_istore (lv' := [(4, .int (nI q)), (0, .ref a), (1, .int (nI g)), (2, .int (nI (ow S g))), (3, .int (nI (nm S g))), (5, .int (nI q))]) hx hb dX5_reads_88 hl (by decide) rfl (fun ls hl => ?_)
                  refine lv_iinc (v := (nI q - 1)) (lv' := [(5, .int (nI q - 1)), (4, .int (nI q)), (0, .ref a), (1, .int (nI g)), (2, .int (nI (ow S g))), (3, .int (nI (nm S g)))]) (k := 5) hx hb dX5_reads_90 hl rfl (nI_dec q) (by decide) rfl (fun ls hl => ?_)
                  refine lv_goto (tgt := 44) hx hb dX5_reads_93 (by decide) ?_
                  exact ih q (nI q) _ _ _ (by omega) (by omega) (fun _ => LSq_t (decide_eq_true ⟨c_17, c_19⟩) (by omega)) (fun z => by omega) h60 hW (lv_sub hl [2, 3, 4, 5, 1, 0] rfl)
      exact L44 (P + 1) P (-1) _ _ _ (Nat.lt_succ_self _) (by omega) (fun _ => LSq_init _ P) (fun _ => rfl) (fun z => c_12 z.2) hW (lv_sub hl [4, 5, 3, 2, 1, 0] rfl)
    · refine lv_iload_n hx hb dX5_reads_29 rfl (lv_at hl 1 rfl) ?_
      exact r_iret hC hQ hD hW () (by unfold rdI; rw [if_pos ⟨by omega, c_12⟩]) rfl rfl dX5_reads_30
set_option maxHeartbeats 4000000 in
set_option maxRecDepth 100000 in
theorem c_X5_isGiving (l : Launch) (E : Ev) (a : Nat) (b : Nat) (fs : List Value) (hf : fs[0]? = some (.ref b)) (S : HS) (P : Nat) (G : Nat) (hV : HV S P G) (i : Nat) (g : Nat) (hi : i < P) (hg : g < G) : MI l E yX5_isGiving cX5_isGiving 4 .boolean 1 22 0 0 [.ref a, .int (nI i), .int (nI g)] (MR E a b fs S) (fun (r : Int32) (_ : Unit) => bz (giv S i g) r) (fun (_ : Unit) => (MR E a b fs S)) := by
  refine MI_intro RX5 (by decide) rfl (Nat.le_of_ble_eq_true rfl) ?_
  intro p e R s m args below meth c A Q hQ hC hD hW hA ls hl
  have hx := hC.1
  have hb := hC.2.1
  have hW : Wd E A s.heap (MR E a b fs S) s.heap [] := hW
  have hl : lv_has ls 4 [(0, .ref a), (1, .int (nI i)), (2, .int (nI g))] := hl
  have hP := hV.p
  have hP1 := hV.p6
  have hG := hV.g
  have hG1 := hV.g10
  have hnm := hV.nm99 hg
  refine lv_aload_n hx hb dX5_isGiving_0 rfl (lv_at hl 0 rfl) ?_
  refine lv_iload_n hx hb dX5_isGiving_1 rfl (lv_at hl 2 rfl) ?_
  refine lv_iconst (v := 2) hx hb dX5_isGiving_2 (by decide) ?_
  refine r_callVi hC hD hW hA lkX5_49 (c_X5_worn l E a b fs hf S g 2 (by omega) (by omega)) rfl ⟨by decide, by decide, by decide, by decide⟩ [0, 1] rfl rfl rfl (fun _ => rfl) hl.1 rfl rfl (Nat.le_of_ble_eq_true rfl) dX5_isGiving_3 (fun r_1 _ H locs hr_1 hW => ?_)
  have hW : Wd E A s.heap (MR E a b fs S) H locs := hW
  have hr_1 : r_1 = (S 7 g) := hr_1
  subst hr_1
  refine n_top (hV.nmv hg) ?_
  refine lv_istore_n (lv' := [(3, .int (nI (nm S g))), (0, .ref a), (1, .int (nI i)), (2, .int (nI g))]) hx hb dX5_isGiving_6 rfl hl (by decide) rfl (fun ls hl => ?_)
  refine lv_aload_n hx hb dX5_isGiving_7 rfl (lv_at hl 1 rfl) ?_
  refine lv_iload_n hx hb dX5_isGiving_8 rfl (lv_at hl 2 rfl) ?_
  refine lv_iconst (v := 0) hx hb dX5_isGiving_9 (by decide) ?_
  refine r_callVi hC hD hW hA lkX5_57 (c_X5_its l E a b fs hf S i 0 (by omega) (by omega)) rfl ⟨by decide, by decide, by decide, by decide⟩ [0, 1] rfl rfl rfl (fun _ => rfl) hl.1 rfl rfl (Nat.le_of_ble_eq_true rfl) dX5_isGiving_10 (fun r_2 _ H locs hr_2 hW => ?_)
  have hW : Wd E A s.heap (MR E a b fs S) H locs := hW
  have hr_2 : r_2 = (S 1 i) := hr_2
  subst hr_2
  by_cases k_3 : (S 1 i) = 1
  · refine lv_tableIn (off := 35) (tgt := 48) hx hb dX5_isGiving_13 (by rw [k_3]; decide) (by rw [k_3]; decide) (by rw [k_3]; rfl) (by decide) ?_
    refine lv_iconst (v := 1) hx hb dX5_isGiving_48 (by decide) ?_
    exact r_zret hC hQ hD hW (by decide) () (bz_t (giv_1 k_3)) rfl rfl dX5_isGiving_49
  by_cases k_4 : (S 1 i) = 2
  · refine lv_tableIn (off := 37) (tgt := 50) hx hb dX5_isGiving_13 (by rw [k_4]; decide) (by rw [k_4]; decide) (by rw [k_4]; rfl) (by decide) ?_
    refine lv_iconst (v := 0) hx hb dX5_isGiving_50 (by decide) ?_
    exact r_zret hC hQ hD hW (by decide) () (bz_f (giv_2 k_4)) rfl rfl dX5_isGiving_51
  by_cases k_5 : (S 1 i) = 3
  · refine lv_tableIn (off := 39) (tgt := 52) hx hb dX5_isGiving_13 (by rw [k_5]; decide) (by rw [k_5]; decide) (by rw [k_5]; rfl) (by decide) ?_
    refine lv_iload_n hx hb dX5_isGiving_52 rfl (lv_at hl 0 rfl) ?_
    refine lv_bipush (v := 80) hx hb dX5_isGiving_53 (by decide) ?_
    refine lv_icmp_lt (tgt := 62) hx hb dX5_isGiving_55 (by decide) (fun c_6 => ?_) (fun c_6 => ?_)
    · have c_6 : nm S g < 80 := (nI_ltI (a := nm S g) (b := 80) (by omega) (by omega)).mp c_6
      refine lv_iconst (v := 0) hx hb dX5_isGiving_62 (by decide) ?_
      exact r_zret hC hQ hD hW (by decide) () (bz_f (fun z => by have := (giv_3 k_5).mp z; omega)) rfl rfl dX5_isGiving_63
    · have c_6 : ¬ nm S g < 80 := fun z_ => c_6 ((nI_ltI (a := nm S g) (b := 80) (by omega) (by omega)).mpr z_)
      refine lv_iconst (v := 1) hx hb dX5_isGiving_58 (by decide) ?_
      refine lv_goto (tgt := 63) hx hb dX5_isGiving_59 (by decide) ?_
      exact r_zret hC hQ hD hW (by decide) () (bz_t ((giv_3 k_5).mpr (by omega))) rfl rfl dX5_isGiving_63
  by_cases k_7 : (S 1 i) = 4
  · refine lv_tableIn (off := 35) (tgt := 48) hx hb dX5_isGiving_13 (by rw [k_7]; decide) (by rw [k_7]; decide) (by rw [k_7]; rfl) (by decide) ?_
    refine lv_iconst (v := 1) hx hb dX5_isGiving_48 (by decide) ?_
    exact r_zret hC hQ hD hW (by decide) () (bz_t (giv_4 k_7)) rfl rfl dX5_isGiving_49
  by_cases k_8 : (S 1 i) = 5
  · refine lv_tableIn (off := 37) (tgt := 50) hx hb dX5_isGiving_13 (by rw [k_8]; decide) (by rw [k_8]; decide) (by rw [k_8]; rfl) (by decide) ?_
    refine lv_iconst (v := 0) hx hb dX5_isGiving_50 (by decide) ?_
    exact r_zret hC hQ hD hW (by decide) () (bz_f (giv_5 k_8)) rfl rfl dX5_isGiving_51
  have sw_13 : ((S 1 i) : Int32).toInt < 1 ∨ 5 < ((S 1 i) : Int32).toInt := by
    have := sw_ne (k := 1) (z := 1) (by decide) k_3
    have := sw_ne (k := 2) (z := 2) (by decide) k_4
    have := sw_ne (k := 3) (z := 3) (by decide) k_5
    have := sw_ne (k := 4) (z := 4) (by decide) k_7
    have := sw_ne (k := 5) (z := 5) (by decide) k_8
    omega
  refine lv_tableOut (tgt := 64) hx hb dX5_isGiving_13 sw_13 (by decide) ?_
  refine lv_iload_n hx hb dX5_isGiving_64 rfl (lv_at hl 0 rfl) ?_
  refine lv_bipush (v := 60) hx hb dX5_isGiving_65 (by decide) ?_
  refine lv_icmp_lt (tgt := 74) hx hb dX5_isGiving_67 (by decide) (fun c_9 => ?_) (fun c_9 => ?_)
  · have c_9 : nm S g < 60 := (nI_ltI (a := nm S g) (b := 60) (by omega) (by omega)).mp c_9
    refine lv_iconst (v := 0) hx hb dX5_isGiving_74 (by decide) ?_
    exact r_zret hC hQ hD hW (by decide) () (bz_f (fun z => by have := (giv_d k_3 k_4 k_5 k_7 k_8).mp z; omega)) rfl rfl dX5_isGiving_75
  · have c_9 : ¬ nm S g < 60 := fun z_ => c_9 ((nI_ltI (a := nm S g) (b := 60) (by omega) (by omega)).mpr z_)
    refine lv_iconst (v := 1) hx hb dX5_isGiving_70 (by decide) ?_
    refine lv_goto (tgt := 75) hx hb dX5_isGiving_71 (by decide) ?_
    exact r_zret hC hQ hD hW (by decide) () (bz_t ((giv_d k_3 k_4 k_5 k_7 k_8).mpr (by omega))) rfl rfl dX5_isGiving_75
set_option maxHeartbeats 4000000 in
set_option maxRecDepth 100000 in
theorem c_X5_isClaiming (l : Launch) (E : Ev) (a : Nat) (b : Nat) (fs : List Value) (hf : fs[0]? = some (.ref b)) (S : HS) (P : Nat) (G : Nat) (hV : HV S P G) (i : Nat) (g : Nat) (hi : i < P) (hg : g < G) : MI l E yX5_isClaiming cX5_isClaiming 5 .boolean 2 45 0 0 [.ref a, .int (nI i), .int (nI g)] (MR E a b fs S) (fun (r : Int32) (_ : Unit) => bz (clm S i g G) r) (fun (_ : Unit) => (MR E a b fs S)) := by
  refine MI_intro RX5 (by decide) rfl (Nat.le_of_ble_eq_true rfl) ?_
  intro p e R s m args below meth c A Q hQ hC hD hW hA ls hl
  have hx := hC.1
  have hb := hC.2.1
  have hW : Wd E A s.heap (MR E a b fs S) s.heap [] := hW
  have hl : lv_has ls 5 [(0, .ref a), (1, .int (nI i)), (2, .int (nI g))] := hl
  have hP := hV.p
  have hP1 := hV.p6
  have hG := hV.g
  have hG1 := hV.g10
  have hnm := hV.nm99 hg
  have hms := mset_lt10 (wth S (nI i)) hG1
  refine lv_aload_n hx hb dX5_isClaiming_0 rfl (lv_at hl 0 rfl) ?_
  refine lv_iload_n hx hb dX5_isClaiming_1 rfl (lv_at hl 2 rfl) ?_
  refine lv_iconst (v := 0) hx hb dX5_isClaiming_2 (by decide) ?_
  refine r_callVi hC hD hW hA lkX5_49 (c_X5_worn l E a b fs hf S g 0 (by omega) (by omega)) rfl ⟨by decide, by decide, by decide, by decide⟩ [0, 1] rfl rfl rfl (fun _ => rfl) hl.1 rfl rfl (Nat.le_of_ble_eq_true rfl) dX5_isClaiming_3 (fun r_1 _ H locs hr_1 hW => ?_)
  have hW : Wd E A s.heap (MR E a b fs S) H locs := hW
  have hr_1 : r_1 = (S 5 g) := hr_1
  subst hr_1
  refine lv_iload_n hx hb dX5_isClaiming_6 rfl (lv_at hl 1 rfl) ?_
  refine lv_icmp_ne (tgt := 14) hx hb dX5_isClaiming_7 (by decide) (fun c_2 => ?_) (fun c_2 => ?_)
  · refine lv_iconst (v := 0) hx hb dX5_isClaiming_14 (by decide) ?_
    refine lv_istore_n (lv' := [(3, .int 0), (0, .ref a), (1, .int (nI i)), (2, .int (nI g))]) hx hb dX5_isClaiming_15 rfl hl (by decide) rfl (fun ls hl => ?_)
    refine lv_aload_n hx hb dX5_isClaiming_16 rfl (lv_at hl 1 rfl) ?_
    refine lv_iload_n hx hb dX5_isClaiming_17 rfl (lv_at hl 3 rfl) ?_
    refine lv_iconst (v := 2) hx hb dX5_isClaiming_18 (by decide) ?_
    refine r_callVi hC hD hW hA lkX5_49 (c_X5_worn l E a b fs hf S g 2 (by omega) (by omega)) rfl ⟨by decide, by decide, by decide, by decide⟩ [0, 1] rfl rfl rfl (fun _ => rfl) hl.1 rfl rfl (Nat.le_of_ble_eq_true rfl) dX5_isClaiming_19 (fun r_3 _ H locs hr_3 hW => ?_)
    have hW : Wd E A s.heap (MR E a b fs S) H locs := hW
    have hr_3 : r_3 = (S 7 g) := hr_3
    subst hr_3
    refine n_top (hV.nmv hg) ?_
    refine lv_istore (lv' := [(4, .int (nI (nm S g))), (3, .int 0), (0, .ref a), (1, .int (nI i)), (2, .int (nI g))]) hx hb dX5_isClaiming_22 hl (by decide) rfl (fun ls hl => ?_)
    refine lv_aload_n hx hb dX5_isClaiming_24 rfl (lv_at hl 2 rfl) ?_
    refine lv_iload_n hx hb dX5_isClaiming_25 rfl (lv_at hl 3 rfl) ?_
    refine lv_iconst (v := 0) hx hb dX5_isClaiming_26 (by decide) ?_
    refine r_callVi hC hD hW hA lkX5_57 (c_X5_its l E a b fs hf S i 0 (by omega) (by omega)) rfl ⟨by decide, by decide, by decide, by decide⟩ [0, 1] rfl rfl rfl (fun _ => rfl) hl.1 rfl rfl (Nat.le_of_ble_eq_true rfl) dX5_isClaiming_27 (fun r_4 _ H locs hr_4 hW => ?_)
    have hW : Wd E A s.heap (MR E a b fs S) H locs := hW
    have hr_4 : r_4 = (S 1 i) := hr_4
    subst hr_4
    by_cases k_5 : (S 1 i) = 1
    · refine lv_tableIn (off := 34) (tgt := 64) hx hb dX5_isClaiming_30 (by rw [k_5]; decide) (by rw [k_5]; decide) (by rw [k_5]; rfl) (by decide) ?_
      refine lv_iload_n hx hb dX5_isClaiming_64 rfl (lv_at hl 1 rfl) ?_
      exact r_zret hC hQ hD hW (by decide) () (bz_f (fun z => c_2 ((clm_1 k_5).mp z))) rfl rfl dX5_isClaiming_65
    by_cases k_6 : (S 1 i) = 2
    · refine lv_tableIn (off := 36) (tgt := 66) hx hb dX5_isClaiming_30 (by rw [k_6]; decide) (by rw [k_6]; decide) (by rw [k_6]; rfl) (by decide) ?_
      refine lv_aload_n hx hb dX5_isClaiming_66 rfl (lv_at hl 2 rfl) ?_
      refine lv_iload_n hx hb dX5_isClaiming_67 rfl (lv_at hl 3 rfl) ?_
      refine r_callVi hC hD hW hA lkX5_60 (c_X5_withWhom l E a b fs hf S G hV.g hV.g10 (nI i)) rfl ⟨by decide, by decide, by decide, by decide⟩ [0, 1] rfl rfl rfl (fun _ => rfl) hl.1 rfl rfl (Nat.le_of_ble_eq_true rfl) dX5_isClaiming_68 (fun r_7 _ H locs hr_7 hW => ?_)
      have hW : Wd E A s.heap (MR E a b fs S) H locs := hW
      have hr_7 : r_7 = (nI (mset (wth S (nI i)) G)) := hr_7
      subst hr_7
      refine lv_if_ne (tgt := 78) hx hb dX5_isClaiming_71 (by decide) (fun c_8 => ?_) (fun c_8 => ?_)
      · have c_8 : ¬ mset (wth S (nI i)) G = 0 := fun z_ => c_8 ((nI_eq (a := mset (wth S (nI i)) G) (b := 0) (by omega) (by omega)).mpr z_)
        refine lv_iconst (v := 0) hx hb dX5_isClaiming_78 (by decide) ?_
        exact r_zret hC hQ hD hW (by decide) () (bz_f (fun z => c_8 ((wth_zero S i G).mpr ((clm_2 k_6).mp z)))) rfl rfl dX5_isClaiming_79
      · have c_8 : mset (wth S (nI i)) G = 0 := (nI_eq (a := mset (wth S (nI i)) G) (b := 0) (by omega) (by omega)).mp c_8
        refine lv_iconst (v := 1) hx hb dX5_isClaiming_74 (by decide) ?_
        refine lv_goto (tgt := 79) hx hb dX5_isClaiming_75 (by decide) ?_
        exact r_zret hC hQ hD hW (by decide) () (bz_t ((clm_2 k_6).mpr ((wth_zero S i G).mp c_8))) rfl rfl dX5_isClaiming_79
    by_cases k_9 : (S 1 i) = 3
    · refine lv_tableIn (off := 71) (tgt := 101) hx hb dX5_isClaiming_30 (by rw [k_9]; decide) (by rw [k_9]; decide) (by rw [k_9]; rfl) (by decide) ?_
      refine lv_iload_n hx hb dX5_isClaiming_101 rfl (lv_at hl 1 rfl) ?_
      refine lv_if_eq (tgt := 115) hx hb dX5_isClaiming_102 (by decide) (fun _ => ?_) (fun c => absurd c (by decide))
      refine lv_iconst (v := 0) hx hb dX5_isClaiming_115 (by decide) ?_
      exact r_zret hC hQ hD hW (by decide) () (bz_f (fun z => c_2 ((clm_d (by rw [k_9]; decide) (by rw [k_9]; decide) (by rw [k_9]; decide) (by rw [k_9]; decide)).mp z).1)) rfl rfl dX5_isClaiming_116
    by_cases k_10 : (S 1 i) = 4
    · refine lv_tableIn (off := 34) (tgt := 64) hx hb dX5_isClaiming_30 (by rw [k_10]; decide) (by rw [k_10]; decide) (by rw [k_10]; rfl) (by decide) ?_
      refine lv_iload_n hx hb dX5_isClaiming_64 rfl (lv_at hl 1 rfl) ?_
      exact r_zret hC hQ hD hW (by decide) () (bz_f (fun z => c_2 ((clm_4 k_10).mp z))) rfl rfl dX5_isClaiming_65
    by_cases k_11 : (S 1 i) = 5
    · refine lv_tableIn (off := 50) (tgt := 80) hx hb dX5_isClaiming_30 (by rw [k_11]; decide) (by rw [k_11]; decide) (by rw [k_11]; rfl) (by decide) ?_
      refine lv_iload hx hb dX5_isClaiming_80 (lv_at hl 0 rfl) ?_
      refine lv_bipush (v := 50) hx hb dX5_isClaiming_82 (by decide) ?_
      refine lv_icmp_ge (tgt := 95) hx hb dX5_isClaiming_84 (by decide) (fun c_12 => ?_) (fun c_12 => ?_)
      · have c_12 : 50 ≤ nm S g := (nI_leI (a := 50) (b := nm S g) (by omega) (by omega)).mp c_12
        refine lv_iconst (v := 1) hx hb dX5_isClaiming_95 (by decide) ?_
        refine lv_goto (tgt := 100) hx hb dX5_isClaiming_96 (by decide) ?_
        exact r_zret hC hQ hD hW (by decide) () (bz_t ((clm_5 k_11).mpr (Or.inr (by omega)))) rfl rfl dX5_isClaiming_100
      · have c_12 : ¬ 50 ≤ nm S g := fun z_ => c_12 ((nI_leI (a := 50) (b := nm S g) (by omega) (by omega)).mpr z_)
        refine lv_aload_n hx hb dX5_isClaiming_87 rfl (lv_at hl 2 rfl) ?_
        refine lv_iload_n hx hb dX5_isClaiming_88 rfl (lv_at hl 3 rfl) ?_
        refine r_callVi hC hD hW hA lkX5_60 (c_X5_withWhom l E a b fs hf S G hV.g hV.g10 (nI i)) rfl ⟨by decide, by decide, by decide, by decide⟩ [0, 1] rfl rfl rfl (fun _ => rfl) hl.1 rfl rfl (Nat.le_of_ble_eq_true rfl) dX5_isClaiming_89 (fun r_13 _ H locs hr_13 hW => ?_)
        have hW : Wd E A s.heap (MR E a b fs S) H locs := hW
        have hr_13 : r_13 = (nI (mset (wth S (nI i)) G)) := hr_13
        subst hr_13
        refine lv_if_ne (tgt := 99) hx hb dX5_isClaiming_92 (by decide) (fun c_14 => ?_) (fun c_14 => ?_)
        · have c_14 : ¬ mset (wth S (nI i)) G = 0 := fun z_ => c_14 ((nI_eq (a := mset (wth S (nI i)) G) (b := 0) (by omega) (by omega)).mpr z_)
          refine lv_iconst (v := 0) hx hb dX5_isClaiming_99 (by decide) ?_
          exact r_zret hC hQ hD hW (by decide) () (bz_f (fun z => ((clm_5 k_11).mp z).elim (fun y => c_14 ((wth_zero S i G).mpr y)) (fun y => by omega))) rfl rfl dX5_isClaiming_100
        · have c_14 : mset (wth S (nI i)) G = 0 := (nI_eq (a := mset (wth S (nI i)) G) (b := 0) (by omega) (by omega)).mp c_14
          refine lv_iconst (v := 1) hx hb dX5_isClaiming_95 (by decide) ?_
          refine lv_goto (tgt := 100) hx hb dX5_isClaiming_96 (by decide) ?_
          exact r_zret hC hQ hD hW (by decide) () (bz_t ((clm_5 k_11).mpr (Or.inl ((wth_zero S i G).mp c_14)))) rfl rfl dX5_isClaiming_100
    have sw_30 : ((S 1 i) : Int32).toInt < 1 ∨ 5 < ((S 1 i) : Int32).toInt := by
      have := sw_ne (k := 1) (z := 1) (by decide) k_5
      have := sw_ne (k := 2) (z := 2) (by decide) k_6
      have := sw_ne (k := 3) (z := 3) (by decide) k_9
      have := sw_ne (k := 4) (z := 4) (by decide) k_10
      have := sw_ne (k := 5) (z := 5) (by decide) k_11
      omega
    refine lv_tableOut (tgt := 101) hx hb dX5_isClaiming_30 sw_30 (by decide) ?_
    refine lv_iload_n hx hb dX5_isClaiming_101 rfl (lv_at hl 1 rfl) ?_
    refine lv_if_eq (tgt := 115) hx hb dX5_isClaiming_102 (by decide) (fun _ => ?_) (fun c => absurd c (by decide))
    refine lv_iconst (v := 0) hx hb dX5_isClaiming_115 (by decide) ?_
    exact r_zret hC hQ hD hW (by decide) () (bz_f (fun z => c_2 ((clm_d k_5 k_6 k_10 k_11).mp z).1)) rfl rfl dX5_isClaiming_116
  · refine lv_iconst (v := 1) hx hb dX5_isClaiming_10 (by decide) ?_
    refine lv_goto (tgt := 15) hx hb dX5_isClaiming_11 (by decide) ?_
    refine lv_istore_n (lv' := [(3, .int 1), (0, .ref a), (1, .int (nI i)), (2, .int (nI g))]) hx hb dX5_isClaiming_15 rfl hl (by decide) rfl (fun ls hl => ?_)
    refine lv_aload_n hx hb dX5_isClaiming_16 rfl (lv_at hl 1 rfl) ?_
    refine lv_iload_n hx hb dX5_isClaiming_17 rfl (lv_at hl 3 rfl) ?_
    refine lv_iconst (v := 2) hx hb dX5_isClaiming_18 (by decide) ?_
    refine r_callVi hC hD hW hA lkX5_49 (c_X5_worn l E a b fs hf S g 2 (by omega) (by omega)) rfl ⟨by decide, by decide, by decide, by decide⟩ [0, 1] rfl rfl rfl (fun _ => rfl) hl.1 rfl rfl (Nat.le_of_ble_eq_true rfl) dX5_isClaiming_19 (fun r_15 _ H locs hr_15 hW => ?_)
    have hW : Wd E A s.heap (MR E a b fs S) H locs := hW
    have hr_15 : r_15 = (S 7 g) := hr_15
    subst hr_15
    refine n_top (hV.nmv hg) ?_
    refine lv_istore (lv' := [(4, .int (nI (nm S g))), (3, .int 1), (0, .ref a), (1, .int (nI i)), (2, .int (nI g))]) hx hb dX5_isClaiming_22 hl (by decide) rfl (fun ls hl => ?_)
    refine lv_aload_n hx hb dX5_isClaiming_24 rfl (lv_at hl 2 rfl) ?_
    refine lv_iload_n hx hb dX5_isClaiming_25 rfl (lv_at hl 3 rfl) ?_
    refine lv_iconst (v := 0) hx hb dX5_isClaiming_26 (by decide) ?_
    refine r_callVi hC hD hW hA lkX5_57 (c_X5_its l E a b fs hf S i 0 (by omega) (by omega)) rfl ⟨by decide, by decide, by decide, by decide⟩ [0, 1] rfl rfl rfl (fun _ => rfl) hl.1 rfl rfl (Nat.le_of_ble_eq_true rfl) dX5_isClaiming_27 (fun r_16 _ H locs hr_16 hW => ?_)
    have hW : Wd E A s.heap (MR E a b fs S) H locs := hW
    have hr_16 : r_16 = (S 1 i) := hr_16
    subst hr_16
    by_cases k_17 : (S 1 i) = 1
    · refine lv_tableIn (off := 34) (tgt := 64) hx hb dX5_isClaiming_30 (by rw [k_17]; decide) (by rw [k_17]; decide) (by rw [k_17]; rfl) (by decide) ?_
      refine lv_iload_n hx hb dX5_isClaiming_64 rfl (lv_at hl 1 rfl) ?_
      exact r_zret hC hQ hD hW (by decide) () (bz_t ((clm_1 k_17).mpr c_2)) rfl rfl dX5_isClaiming_65
    by_cases k_18 : (S 1 i) = 2
    · refine lv_tableIn (off := 36) (tgt := 66) hx hb dX5_isClaiming_30 (by rw [k_18]; decide) (by rw [k_18]; decide) (by rw [k_18]; rfl) (by decide) ?_
      refine lv_aload_n hx hb dX5_isClaiming_66 rfl (lv_at hl 2 rfl) ?_
      refine lv_iload_n hx hb dX5_isClaiming_67 rfl (lv_at hl 3 rfl) ?_
      refine r_callVi hC hD hW hA lkX5_60 (c_X5_withWhom l E a b fs hf S G hV.g hV.g10 (nI i)) rfl ⟨by decide, by decide, by decide, by decide⟩ [0, 1] rfl rfl rfl (fun _ => rfl) hl.1 rfl rfl (Nat.le_of_ble_eq_true rfl) dX5_isClaiming_68 (fun r_19 _ H locs hr_19 hW => ?_)
      have hW : Wd E A s.heap (MR E a b fs S) H locs := hW
      have hr_19 : r_19 = (nI (mset (wth S (nI i)) G)) := hr_19
      subst hr_19
      refine lv_if_ne (tgt := 78) hx hb dX5_isClaiming_71 (by decide) (fun c_20 => ?_) (fun c_20 => ?_)
      · have c_20 : ¬ mset (wth S (nI i)) G = 0 := fun z_ => c_20 ((nI_eq (a := mset (wth S (nI i)) G) (b := 0) (by omega) (by omega)).mpr z_)
        refine lv_iconst (v := 0) hx hb dX5_isClaiming_78 (by decide) ?_
        exact r_zret hC hQ hD hW (by decide) () (bz_f (fun z => c_20 ((wth_zero S i G).mpr ((clm_2 k_18).mp z)))) rfl rfl dX5_isClaiming_79
      · have c_20 : mset (wth S (nI i)) G = 0 := (nI_eq (a := mset (wth S (nI i)) G) (b := 0) (by omega) (by omega)).mp c_20
        refine lv_iconst (v := 1) hx hb dX5_isClaiming_74 (by decide) ?_
        refine lv_goto (tgt := 79) hx hb dX5_isClaiming_75 (by decide) ?_
        exact r_zret hC hQ hD hW (by decide) () (bz_t ((clm_2 k_18).mpr ((wth_zero S i G).mp c_20))) rfl rfl dX5_isClaiming_79
    by_cases k_21 : (S 1 i) = 3
    · refine lv_tableIn (off := 71) (tgt := 101) hx hb dX5_isClaiming_30 (by rw [k_21]; decide) (by rw [k_21]; decide) (by rw [k_21]; rfl) (by decide) ?_
      refine lv_iload_n hx hb dX5_isClaiming_101 rfl (lv_at hl 1 rfl) ?_
      refine lv_if_eq (tgt := 115) hx hb dX5_isClaiming_102 (by decide) (fun c => absurd c (by decide)) (fun _ => ?_)
      refine lv_iload hx hb dX5_isClaiming_105 (lv_at hl 0 rfl) ?_
      refine lv_iconst (v := 1) hx hb dX5_isClaiming_107 (by decide) ?_
      refine lv_icmp_lt (tgt := 115) hx hb dX5_isClaiming_108 (by decide) (fun c_22 => ?_) (fun c_22 => ?_)
      · have c_22 : nm S g < 1 := (nI_ltI (a := nm S g) (b := 1) (by omega) (by omega)).mp c_22
        refine lv_iconst (v := 0) hx hb dX5_isClaiming_115 (by decide) ?_
        exact r_zret hC hQ hD hW (by decide) () (bz_f (fun z => by have := ((clm_d (by rw [k_21]; decide) (by rw [k_21]; decide) (by rw [k_21]; decide) (by rw [k_21]; decide)).mp z).2; omega)) rfl rfl dX5_isClaiming_116
      · have c_22 : ¬ nm S g < 1 := fun z_ => c_22 ((nI_ltI (a := nm S g) (b := 1) (by omega) (by omega)).mpr z_)
        refine lv_iconst (v := 1) hx hb dX5_isClaiming_111 (by decide) ?_
        refine lv_goto (tgt := 116) hx hb dX5_isClaiming_112 (by decide) ?_
        exact r_zret hC hQ hD hW (by decide) () (bz_t ((clm_d (by rw [k_21]; decide) (by rw [k_21]; decide) (by rw [k_21]; decide) (by rw [k_21]; decide)).mpr ⟨c_2, by omega⟩)) rfl rfl dX5_isClaiming_116
    by_cases k_23 : (S 1 i) = 4
    · refine lv_tableIn (off := 34) (tgt := 64) hx hb dX5_isClaiming_30 (by rw [k_23]; decide) (by rw [k_23]; decide) (by rw [k_23]; rfl) (by decide) ?_
      refine lv_iload_n hx hb dX5_isClaiming_64 rfl (lv_at hl 1 rfl) ?_
      exact r_zret hC hQ hD hW (by decide) () (bz_t ((clm_4 k_23).mpr c_2)) rfl rfl dX5_isClaiming_65
    by_cases k_24 : (S 1 i) = 5
    · refine lv_tableIn (off := 50) (tgt := 80) hx hb dX5_isClaiming_30 (by rw [k_24]; decide) (by rw [k_24]; decide) (by rw [k_24]; rfl) (by decide) ?_
      refine lv_iload hx hb dX5_isClaiming_80 (lv_at hl 0 rfl) ?_
      refine lv_bipush (v := 50) hx hb dX5_isClaiming_82 (by decide) ?_
      refine lv_icmp_ge (tgt := 95) hx hb dX5_isClaiming_84 (by decide) (fun c_25 => ?_) (fun c_25 => ?_)
      · have c_25 : 50 ≤ nm S g := (nI_leI (a := 50) (b := nm S g) (by omega) (by omega)).mp c_25
        refine lv_iconst (v := 1) hx hb dX5_isClaiming_95 (by decide) ?_
        refine lv_goto (tgt := 100) hx hb dX5_isClaiming_96 (by decide) ?_
        exact r_zret hC hQ hD hW (by decide) () (bz_t ((clm_5 k_24).mpr (Or.inr (by omega)))) rfl rfl dX5_isClaiming_100
      · have c_25 : ¬ 50 ≤ nm S g := fun z_ => c_25 ((nI_leI (a := 50) (b := nm S g) (by omega) (by omega)).mpr z_)
        refine lv_aload_n hx hb dX5_isClaiming_87 rfl (lv_at hl 2 rfl) ?_
        refine lv_iload_n hx hb dX5_isClaiming_88 rfl (lv_at hl 3 rfl) ?_
        refine r_callVi hC hD hW hA lkX5_60 (c_X5_withWhom l E a b fs hf S G hV.g hV.g10 (nI i)) rfl ⟨by decide, by decide, by decide, by decide⟩ [0, 1] rfl rfl rfl (fun _ => rfl) hl.1 rfl rfl (Nat.le_of_ble_eq_true rfl) dX5_isClaiming_89 (fun r_26 _ H locs hr_26 hW => ?_)
        have hW : Wd E A s.heap (MR E a b fs S) H locs := hW
        have hr_26 : r_26 = (nI (mset (wth S (nI i)) G)) := hr_26
        subst hr_26
        refine lv_if_ne (tgt := 99) hx hb dX5_isClaiming_92 (by decide) (fun c_27 => ?_) (fun c_27 => ?_)
        · have c_27 : ¬ mset (wth S (nI i)) G = 0 := fun z_ => c_27 ((nI_eq (a := mset (wth S (nI i)) G) (b := 0) (by omega) (by omega)).mpr z_)
          refine lv_iconst (v := 0) hx hb dX5_isClaiming_99 (by decide) ?_
          exact r_zret hC hQ hD hW (by decide) () (bz_f (fun z => ((clm_5 k_24).mp z).elim (fun y => c_27 ((wth_zero S i G).mpr y)) (fun y => by omega))) rfl rfl dX5_isClaiming_100
        · have c_27 : mset (wth S (nI i)) G = 0 := (nI_eq (a := mset (wth S (nI i)) G) (b := 0) (by omega) (by omega)).mp c_27
          refine lv_iconst (v := 1) hx hb dX5_isClaiming_95 (by decide) ?_
          refine lv_goto (tgt := 100) hx hb dX5_isClaiming_96 (by decide) ?_
          exact r_zret hC hQ hD hW (by decide) () (bz_t ((clm_5 k_24).mpr (Or.inl ((wth_zero S i G).mp c_27)))) rfl rfl dX5_isClaiming_100
    have sw_30 : ((S 1 i) : Int32).toInt < 1 ∨ 5 < ((S 1 i) : Int32).toInt := by
      have := sw_ne (k := 1) (z := 1) (by decide) k_17
      have := sw_ne (k := 2) (z := 2) (by decide) k_18
      have := sw_ne (k := 3) (z := 3) (by decide) k_21
      have := sw_ne (k := 4) (z := 4) (by decide) k_23
      have := sw_ne (k := 5) (z := 5) (by decide) k_24
      omega
    refine lv_tableOut (tgt := 101) hx hb dX5_isClaiming_30 sw_30 (by decide) ?_
    refine lv_iload_n hx hb dX5_isClaiming_101 rfl (lv_at hl 1 rfl) ?_
    refine lv_if_eq (tgt := 115) hx hb dX5_isClaiming_102 (by decide) (fun c => absurd c (by decide)) (fun _ => ?_)
    refine lv_iload hx hb dX5_isClaiming_105 (lv_at hl 0 rfl) ?_
    refine lv_iconst (v := 1) hx hb dX5_isClaiming_107 (by decide) ?_
    refine lv_icmp_lt (tgt := 115) hx hb dX5_isClaiming_108 (by decide) (fun c_28 => ?_) (fun c_28 => ?_)
    · have c_28 : nm S g < 1 := (nI_ltI (a := nm S g) (b := 1) (by omega) (by omega)).mp c_28
      refine lv_iconst (v := 0) hx hb dX5_isClaiming_115 (by decide) ?_
      exact r_zret hC hQ hD hW (by decide) () (bz_f (fun z => by have := ((clm_d k_17 k_18 k_23 k_24).mp z).2; omega)) rfl rfl dX5_isClaiming_116
    · have c_28 : ¬ nm S g < 1 := fun z_ => c_28 ((nI_ltI (a := nm S g) (b := 1) (by omega) (by omega)).mpr z_)
      refine lv_iconst (v := 1) hx hb dX5_isClaiming_111 (by decide) ?_
      refine lv_goto (tgt := 116) hx hb dX5_isClaiming_112 (by decide) ?_
      exact r_zret hC hQ hD hW (by decide) () (bz_t ((clm_d k_17 k_18 k_23 k_24).mpr ⟨c_2, by omega⟩)) rfl rfl dX5_isClaiming_116
set_option maxHeartbeats 4000000 in
set_option maxRecDepth 100000 in
theorem c_X5_minds (l : Launch) (E : Ev) (a : Nat) (b : Nat) (fs : List Value) (hf : fs[0]? = some (.ref b)) (S : HS) (P : Nat) (G : Nat) (hV : HV S P G) (i : Nat) (hi : i < P) : MI l E yX5_minds cX5_minds 5 .int 2 45 0 0 [.ref a, .int (nI i)] (MR E a b fs S) (fun (r : Int32) (_ : Unit) => r = mnd S i G) (fun (_ : Unit) => (MR E a b fs S)) := by
  refine MI_intro RX5 (by decide) rfl (Nat.le_of_ble_eq_true rfl) ?_
  intro p e R s m args below meth c A Q hQ hC hD hW hA ls hl
  have hx := hC.1
  have hb := hC.2.1
  have hW : Wd E A s.heap (MR E a b fs S) s.heap [] := hW
  have hl : lv_has ls 5 [(0, .ref a), (1, .int (nI i))] := hl
  have hP := hV.p
  have hP1 := hV.p6
  have hG := hV.g
  have hG1 := hV.g10
  refine lv_aload_n hx hb dX5_minds_0 rfl (lv_at hl 0 rfl) ?_
  refine lv_iload_n hx hb dX5_minds_1 rfl (lv_at hl 1 rfl) ?_
  refine r_callVi hC hD hW hA lkX5_60 (c_X5_withWhom l E a b fs hf S G hV.g hV.g10 (nI i)) rfl ⟨by decide, by decide, by decide, by decide⟩ [0, 1] rfl rfl rfl (fun _ => rfl) hl.1 rfl rfl (Nat.le_of_ble_eq_true rfl) dX5_minds_2 (fun r_1 _ H locs hr_1 hW => ?_)
  have hW : Wd E A s.heap (MR E a b fs S) H locs := hW
  have hr_1 : r_1 = (nI (mset (wth S (nI i)) G)) := hr_1
  subst hr_1
  refine lv_istore_n (lv' := [(2, .int (nI (mset (wth S (nI i)) G))), (0, .ref a), (1, .int (nI i))]) hx hb dX5_minds_5 rfl hl (by decide) rfl (fun ls hl => ?_)
  refine lv_iload_n hx hb dX5_minds_6 rfl (lv_at hl 0 rfl) ?_
  refine lv_aload_n hx hb dX5_minds_7 rfl (lv_at hl 1 rfl) ?_
  refine lv_iload_n hx hb dX5_minds_8 rfl (lv_at hl 2 rfl) ?_
  refine r_callVi hC hD hW hA lkX5_64 (c_X5_ownedBy l E a b fs hf S G hV.g hV.g10 (nI i)) rfl ⟨by decide, by decide, by decide, by decide⟩ [0, 1] rfl rfl rfl (fun _ => rfl) hl.1 rfl rfl (Nat.le_of_ble_eq_true rfl) dX5_minds_9 (fun r_2 _ H locs hr_2 hW => ?_)
  have hW : Wd E A s.heap (MR E a b fs S) H locs := hW
  have hr_2 : r_2 = (nI (mset (owd S (nI i)) G)) := hr_2
  subst hr_2
  refine n_iand (v := (nI (mset (own1 S i) G))) hx hb dX5_minds_12 ((nI_and _ _).trans (congrArg nI (mset_and _ _ _))) ?_
  refine r_callSi hC hD hW hA lkX5_67 (c_X5_bits l E (mset (own1 S i) G) (mset_lt10 _ hG1)) ⟨by decide, by decide, by decide, by decide⟩ rfl hl.1 rfl rfl (Nat.le_of_ble_eq_true rfl) dX5_minds_13 (fun r_3 _ H locs hr_3 hW => ?_)
  have hW : Wd E A s.heap (MR E a b fs S) H locs := hW
  have hr_3 : r_3 = (nI (pcN (mset (own1 S i) G))) := hr_3
  subst hr_3
  refine n_top (congrArg nI (pcN_mset _ hG1)) ?_
  refine lv_istore_n (lv' := [(3, .int (nI (cOwn S i G))), (2, .int (nI (mset (wth S (nI i)) G))), (0, .ref a), (1, .int (nI i))]) hx hb dX5_minds_16 rfl hl (by decide) rfl (fun ls hl => ?_)
  refine lv_iload_n hx hb dX5_minds_17 rfl (lv_at hl 1 rfl) ?_
  refine r_callSi hC hD hW hA lkX5_67 (c_X5_bits l E (mset (wth S (nI i)) G) (mset_lt10 _ hG1)) ⟨by decide, by decide, by decide, by decide⟩ rfl hl.1 rfl rfl (Nat.le_of_ble_eq_true rfl) dX5_minds_18 (fun r_4 _ H locs hr_4 hW => ?_)
  have hW : Wd E A s.heap (MR E a b fs S) H locs := hW
  have hr_4 : r_4 = (nI (pcN (mset (wth S (nI i)) G))) := hr_4
  subst hr_4
  refine n_top (congrArg nI ((pcN_mset _ hG1).trans (ct_wth S i G))) ?_
  refine lv_iload_n hx hb dX5_minds_21 rfl (lv_at hl 0 rfl) ?_
  refine n_isub (v := (nI (cOth S i G))) hx hb dX5_minds_22 ((pk_sub (a := cOwn S i G + cOth S i G) (b := cOwn S i G) (by omega)).trans (congrArg nI (by omega))) ?_
  refine lv_istore (lv' := [(4, .int (nI (cOth S i G))), (3, .int (nI (cOwn S i G))), (2, .int (nI (mset (wth S (nI i)) G))), (0, .ref a), (1, .int (nI i))]) hx hb dX5_minds_23 hl (by decide) rfl (fun ls hl => ?_)
  refine lv_aload_n hx hb dX5_minds_25 rfl (lv_at hl 3 rfl) ?_
  refine lv_iload_n hx hb dX5_minds_26 rfl (lv_at hl 4 rfl) ?_
  refine lv_iconst (v := 0) hx hb dX5_minds_27 (by decide) ?_
  refine r_callVi hC hD hW hA lkX5_57 (c_X5_its l E a b fs hf S i 0 (by omega) (by omega)) rfl ⟨by decide, by decide, by decide, by decide⟩ [0, 1] rfl rfl rfl (fun _ => rfl) hl.1 rfl rfl (Nat.le_of_ble_eq_true rfl) dX5_minds_28 (fun r_5 _ H locs hr_5 hW => ?_)
  have hW : Wd E A s.heap (MR E a b fs S) H locs := hW
  have hr_5 : r_5 = (S 1 i) := hr_5
  subst hr_5
  by_cases k_6 : (S 1 i) = 1
  · refine lv_tableIn (off := 33) (tgt := 64) hx hb dX5_minds_31 (by rw [k_6]; decide) (by rw [k_6]; decide) (by rw [k_6]; rfl) (by decide) ?_
    refine lv_iconst (v := 2) hx hb dX5_minds_64 (by decide) ?_
    refine lv_iload_n hx hb dX5_minds_65 rfl (lv_at hl 1 rfl) ?_
    refine n_imul (v := (2 * (nI (cOwn S i G)))) hx hb dX5_minds_66 rfl ?_
    refine lv_iconst (v := 3) hx hb dX5_minds_67 (by decide) ?_
    refine lv_iload hx hb dX5_minds_68 (lv_at hl 0 rfl) ?_
    refine n_imul (v := (3 * (nI (cOth S i G)))) hx hb dX5_minds_70 rfl ?_
    refine n_isub (v := ((2 * (nI (cOwn S i G))) - (3 * (nI (cOth S i G))))) hx hb dX5_minds_71 rfl ?_
    exact r_iret hC hQ hD hW () (mnd_1 k_6).symm rfl rfl dX5_minds_72
  by_cases k_7 : (S 1 i) = 2
  · refine lv_tableIn (off := 64) (tgt := 95) hx hb dX5_minds_31 (by rw [k_7]; decide) (by rw [k_7]; decide) (by rw [k_7]; rfl) (by decide) ?_
    refine lv_iload_n hx hb dX5_minds_95 rfl (lv_at hl 1 rfl) ?_
    refine lv_iload hx hb dX5_minds_96 (lv_at hl 0 rfl) ?_
    refine n_iadd (v := ((nI (cOwn S i G)) + (nI (cOth S i G)))) hx hb dX5_minds_98 rfl ?_
    exact r_iret hC hQ hD hW () (mnd_2 k_7).symm rfl rfl dX5_minds_99
  by_cases k_8 : (S 1 i) = 3
  · refine lv_tableIn (off := 76) (tgt := 107) hx hb dX5_minds_31 (by rw [k_8]; decide) (by rw [k_8]; decide) (by rw [k_8]; rfl) (by decide) ?_
    refine lv_iload_n hx hb dX5_minds_107 rfl (lv_at hl 1 rfl) ?_
    refine lv_iload hx hb dX5_minds_108 (lv_at hl 0 rfl) ?_
    refine n_isub (v := ((nI (cOwn S i G)) - (nI (cOth S i G)))) hx hb dX5_minds_110 rfl ?_
    refine lv_iconst (v := 1) hx hb dX5_minds_111 (by decide) ?_
    refine n_iadd (v := (((nI (cOwn S i G)) - (nI (cOth S i G))) + 1)) hx hb dX5_minds_112 rfl ?_
    exact r_iret hC hQ hD hW () (mnd_3 k_8).symm rfl rfl dX5_minds_113
  by_cases k_9 : (S 1 i) = 4
  · refine lv_tableIn (off := 42) (tgt := 73) hx hb dX5_minds_31 (by rw [k_9]; decide) (by rw [k_9]; decide) (by rw [k_9]; rfl) (by decide) ?_
    refine lv_iload hx hb dX5_minds_73 (lv_at hl 0 rfl) ?_
    refine lv_if_ne (tgt := 86) hx hb dX5_minds_75 (by decide) (fun c_10 => ?_) (fun c_10 => ?_)
    · have hlec := ct_le (oth1 S i) G
      have hlec2 : cOth S i G ≤ G := hlec
      have c_10 : ¬ cOth S i G = 0 := fun q => c_10 ((nI_eq (a := cOth S i G) (b := 0) (by omega) (by omega)).mpr q)
      refine lv_iconst (v := 2) hx hb dX5_minds_86 (by decide) ?_
      refine lv_iload_n hx hb dX5_minds_87 rfl (lv_at hl 1 rfl) ?_
      refine n_imul (v := (2 * (nI (cOwn S i G)))) hx hb dX5_minds_88 rfl ?_
      refine lv_iconst (v := 3) hx hb dX5_minds_89 (by decide) ?_
      refine lv_iload hx hb dX5_minds_90 (lv_at hl 0 rfl) ?_
      refine n_imul (v := (3 * (nI (cOth S i G)))) hx hb dX5_minds_92 rfl ?_
      refine n_isub (v := ((2 * (nI (cOwn S i G))) - (3 * (nI (cOth S i G))))) hx hb dX5_minds_93 rfl ?_
      exact r_iret hC hQ hD hW () (mnd_4b k_9 c_10).symm rfl rfl dX5_minds_94
    · have hlec := ct_le (oth1 S i) G
      have hlec2 : cOth S i G ≤ G := hlec
      have c_10 : cOth S i G = 0 := (nI_eq (a := cOth S i G) (b := 0) (by omega) (by omega)).mp c_10
      refine lv_iconst (v := 2) hx hb dX5_minds_78 (by decide) ?_
      refine lv_iload_n hx hb dX5_minds_79 rfl (lv_at hl 1 rfl) ?_
      refine n_imul (v := (2 * (nI (cOwn S i G)))) hx hb dX5_minds_80 rfl ?_
      refine lv_iconst (v := 2) hx hb dX5_minds_81 (by decide) ?_
      refine n_iadd (v := ((2 * (nI (cOwn S i G))) + 2)) hx hb dX5_minds_82 rfl ?_
      refine lv_goto (tgt := 94) hx hb dX5_minds_83 (by decide) ?_
      exact r_iret hC hQ hD hW () (mnd_4a k_9 c_10).symm rfl rfl dX5_minds_94
  by_cases k_11 : (S 1 i) = 5
  · refine lv_tableIn (off := 69) (tgt := 100) hx hb dX5_minds_31 (by rw [k_11]; decide) (by rw [k_11]; decide) (by rw [k_11]; rfl) (by decide) ?_
    refine lv_iload_n hx hb dX5_minds_100 rfl (lv_at hl 1 rfl) ?_
    refine lv_iconst (v := 2) hx hb dX5_minds_101 (by decide) ?_
    refine lv_iload hx hb dX5_minds_102 (lv_at hl 0 rfl) ?_
    refine n_imul (v := (2 * (nI (cOth S i G)))) hx hb dX5_minds_104 rfl ?_
    refine n_iadd (v := ((nI (cOwn S i G)) + (2 * (nI (cOth S i G))))) hx hb dX5_minds_105 rfl ?_
    exact r_iret hC hQ hD hW () (mnd_5 k_11).symm rfl rfl dX5_minds_106
  have sw_31 : ((S 1 i) : Int32).toInt < 1 ∨ 5 < ((S 1 i) : Int32).toInt := by
    have := sw_ne (k := 1) (z := 1) (by decide) k_6
    have := sw_ne (k := 2) (z := 2) (by decide) k_7
    have := sw_ne (k := 3) (z := 3) (by decide) k_8
    have := sw_ne (k := 4) (z := 4) (by decide) k_9
    have := sw_ne (k := 5) (z := 5) (by decide) k_11
    omega
  refine lv_tableOut (tgt := 114) hx hb dX5_minds_31 sw_31 (by decide) ?_
  refine lv_iload_n hx hb dX5_minds_114 rfl (lv_at hl 1 rfl) ?_
  refine lv_iload hx hb dX5_minds_115 (lv_at hl 0 rfl) ?_
  refine n_isub (v := ((nI (cOwn S i G)) - (nI (cOth S i G)))) hx hb dX5_minds_117 rfl ?_
  exact r_iret hC hQ hD hW () (mnd_d k_6 k_7 k_8 k_9 k_11).symm rfl rfl dX5_minds_118
set_option maxHeartbeats 4000000 in
set_option maxRecDepth 100000 in
theorem c_X5_adds (l : Launch) (E : Ev) (a : Nat) (b : Nat) (fs : List Value) (hf : fs[0]? = some (.ref b)) (S : HS) (P : Nat) (hP : S 0 2 = nI P) (hP1 : P < 6) (x1 : Int32) (x2 : Int32) : MV l E yX5_adds cX5_adds 4 1 23 0 0 [.ref a, .int x1, .int x2] (MR E a b fs S) (fun (_ : Unit) => True) (fun (_ : Unit) => (MR E a b fs (addP S P x1 x2))) := by
  refine MV_intro RX5 (by decide) rfl (Nat.le_of_ble_eq_true rfl) ?_
  intro p e R s m args below meth c A Q hQ hC hnm hD hW hA ls hl
  have hx := hC.1
  have hb := hC.2.1
  have hW : Wd E A s.heap (MR E a b fs S) s.heap [] := hW
  have hl : lv_has ls 4 [(0, .ref a), (1, .int x1), (2, .int x2)] := hl
  refine lv_aload_n hx hb dX5_adds_0 rfl (lv_at hl 0 rfl) ?_
  refine r_get hC hW flX5_7 0 rfl hf dX5_adds_1 ?_
  refine lv_iconst (v := 2) hx hb dX5_adds_4 (by decide) ?_
  refine r_iald hC hW 1 rfl 2 rfl (by omega) (by decide) dX5_adds_5 ?_
  refine n_top (enc_0 S (by decide)) ?_
  refine n_top hP ?_
  refine lv_istore_n (lv' := [(3, .int (nI P)), (0, .ref a), (1, .int x1), (2, .int x2)]) hx hb dX5_adds_6 rfl hl (by decide) rfl (fun ls hl => ?_)
  refine lv_aload_n hx hb dX5_adds_7 rfl (lv_at hl 1 rfl) ?_
  refine lv_iload_n hx hb dX5_adds_8 rfl (lv_at hl 0 rfl) ?_
  refine lv_iconst (v := 0) hx hb dX5_adds_9 (by decide) ?_
  refine lv_iload_n hx hb dX5_adds_10 rfl (lv_at hl 2 rfl) ?_
  refine r_callVv hC hD hW hA lkX5_86 (c_X5_puts l E a b fs hf S P 0 x1 (by omega) (by omega)) rfl ⟨by decide, by decide, by decide, by decide⟩ [0, 1] rfl rfl rfl (fun _ => rfl) hl.1 rfl rfl (Nat.le_of_ble_eq_true rfl) dX5_adds_11 (fun _ H locs hr_1 hW => ?_)
  have hW : Wd E A s.heap (MR E a b fs (st S 1 P x1)) H locs := hW
  refine lv_aload_n hx hb dX5_adds_14 rfl (lv_at hl 1 rfl) ?_
  refine lv_iload_n hx hb dX5_adds_15 rfl (lv_at hl 0 rfl) ?_
  refine lv_iconst (v := 1) hx hb dX5_adds_16 (by decide) ?_
  refine lv_iload_n hx hb dX5_adds_17 rfl (lv_at hl 3 rfl) ?_
  refine r_callVv hC hD hW hA lkX5_86 (c_X5_puts l E a b fs hf (st S 1 P x1) P 1 x2 (by omega) (by omega)) rfl ⟨by decide, by decide, by decide, by decide⟩ [0, 1] rfl rfl rfl (fun _ => rfl) hl.1 rfl rfl (Nat.le_of_ble_eq_true rfl) dX5_adds_18 (fun _ H locs hr_2 hW => ?_)
  have hW : Wd E A s.heap (MR E a b fs (st (st S 1 P x1) 2 P x2)) H locs := hW
  refine lv_aload_n hx hb dX5_adds_21 rfl (lv_at hl 1 rfl) ?_
  refine lv_iload_n hx hb dX5_adds_22 rfl (lv_at hl 0 rfl) ?_
  refine lv_iconst (v := 2) hx hb dX5_adds_23 (by decide) ?_
  refine lv_iconst (v := 0) hx hb dX5_adds_24 (by decide) ?_
  refine r_callVv hC hD hW hA lkX5_86 (c_X5_puts l E a b fs hf (st (st S 1 P x1) 2 P x2) P 2 0 (by omega) (by omega)) rfl ⟨by decide, by decide, by decide, by decide⟩ [0, 1] rfl rfl rfl (fun _ => rfl) hl.1 rfl rfl (Nat.le_of_ble_eq_true rfl) dX5_adds_25 (fun _ H locs hr_3 hW => ?_)
  have hW : Wd E A s.heap (MR E a b fs (st (st (st S 1 P x1) 2 P x2) 3 P 0)) H locs := hW
  refine lv_aload_n hx hb dX5_adds_28 rfl (lv_at hl 1 rfl) ?_
  refine lv_iload_n hx hb dX5_adds_29 rfl (lv_at hl 0 rfl) ?_
  refine lv_iconst (v := 3) hx hb dX5_adds_30 (by decide) ?_
  refine lv_iconst (v := 0) hx hb dX5_adds_31 (by decide) ?_
  refine r_callVv hC hD hW hA lkX5_86 (c_X5_puts l E a b fs hf (st (st (st S 1 P x1) 2 P x2) 3 P 0) P 3 0 (by omega) (by omega)) rfl ⟨by decide, by decide, by decide, by decide⟩ [0, 1] rfl rfl rfl (fun _ => rfl) hl.1 rfl rfl (Nat.le_of_ble_eq_true rfl) dX5_adds_32 (fun _ H locs hr_4 hW => ?_)
  have hW : Wd E A s.heap (MR E a b fs (st (st (st (st S 1 P x1) 2 P x2) 3 P 0) 4 P 0)) H locs := hW
  refine lv_aload_n hx hb dX5_adds_35 rfl (lv_at hl 1 rfl) ?_
  refine r_get hC hW flX5_7 0 rfl hf dX5_adds_36 ?_
  refine lv_iconst (v := 2) hx hb dX5_adds_39 (by decide) ?_
  refine lv_dup2_11 hx hb dX5_adds_40 rfl rfl ?_
  refine r_iald hC hW 1 rfl 2 rfl (by omega) (by decide) dX5_adds_41 ?_
  refine n_top (enc_0 (st (st (st (st S 1 P x1) 2 P x2) 3 P 0) 4 P 0) (by decide)) ?_
  refine n_top hP ?_
  refine lv_iconst (v := 1) hx hb dX5_adds_42 (by decide) ?_
  refine n_iadd (v := (nI (P + 1))) hx hb dX5_adds_43 (nI_add P 1) ?_
  refine r_iast (ws' := (MR E a b fs (addP S P x1 x2))) hC hD hW 1 rfl 2 rfl (by omega) (by decide) rfl (by rw [upd_0 _ (by decide)]; rfl) dX5_adds_44 (fun H locs hW => ?_)
  exact r_vret hC hQ hD hW () trivial rfl rfl dX5_adds_45
set_option maxHeartbeats 4000000 in
set_option maxRecDepth 100000 in
theorem c_X5_addsGarment (l : Launch) (E : Ev) (a : Nat) (b : Nat) (fs : List Value) (hf : fs[0]? = some (.ref b)) (S : HS) (G : Nat) (hG : S 0 3 = nI G) (hG1 : G < 10) (x1 : Int32) (x2 : Int32) (x3 : Int32) (x4 : Int32) : MV l E yX5_addsGarment cX5_addsGarment 6 1 23 0 0 [.ref a, .int x1, .int x2, .int x3, .int x4] (MR E a b fs S) (fun (_ : Unit) => True) (fun (_ : Unit) => (MR E a b fs (addG S G x1 x2 x3 x4))) := by
  refine MV_intro RX5 (by decide) rfl (Nat.le_of_ble_eq_true rfl) ?_
  intro p e R s m args below meth c A Q hQ hC hnm hD hW hA ls hl
  have hx := hC.1
  have hb := hC.2.1
  have hW : Wd E A s.heap (MR E a b fs S) s.heap [] := hW
  have hl : lv_has ls 6 [(0, .ref a), (1, .int x1), (2, .int x2), (3, .int x3), (4, .int x4)] := hl
  refine lv_aload_n hx hb dX5_addsGarment_0 rfl (lv_at hl 0 rfl) ?_
  refine r_get hC hW flX5_7 0 rfl hf dX5_addsGarment_1 ?_
  refine lv_iconst (v := 3) hx hb dX5_addsGarment_4 (by decide) ?_
  refine r_iald hC hW 1 rfl 3 rfl (by omega) (by decide) dX5_addsGarment_5 ?_
  refine n_top (enc_0 S (by decide)) ?_
  refine n_top hG ?_
  refine lv_istore (lv' := [(5, .int (nI G)), (0, .ref a), (1, .int x1), (2, .int x2), (3, .int x3), (4, .int x4)]) hx hb dX5_addsGarment_6 hl (by decide) rfl (fun ls hl => ?_)
  refine lv_aload_n hx hb dX5_addsGarment_8 rfl (lv_at hl 1 rfl) ?_
  refine lv_iload hx hb dX5_addsGarment_9 (lv_at hl 0 rfl) ?_
  refine lv_iconst (v := 0) hx hb dX5_addsGarment_11 (by decide) ?_
  refine lv_iload_n hx hb dX5_addsGarment_12 rfl (lv_at hl 2 rfl) ?_
  refine r_callVv hC hD hW hA lkX5_118 (c_X5_sews l E a b fs hf S G 0 x1 (by omega) (by omega)) rfl ⟨by decide, by decide, by decide, by decide⟩ [0, 1] rfl rfl rfl (fun _ => rfl) hl.1 rfl rfl (Nat.le_of_ble_eq_true rfl) dX5_addsGarment_13 (fun _ H locs hr_1 hW => ?_)
  have hW : Wd E A s.heap (MR E a b fs (st S 5 G x1)) H locs := hW
  refine lv_aload_n hx hb dX5_addsGarment_16 rfl (lv_at hl 1 rfl) ?_
  refine lv_iload hx hb dX5_addsGarment_17 (lv_at hl 0 rfl) ?_
  refine lv_iconst (v := 1) hx hb dX5_addsGarment_19 (by decide) ?_
  refine lv_iload_n hx hb dX5_addsGarment_20 rfl (lv_at hl 3 rfl) ?_
  refine r_callVv hC hD hW hA lkX5_118 (c_X5_sews l E a b fs hf (st S 5 G x1) G 1 x2 (by omega) (by omega)) rfl ⟨by decide, by decide, by decide, by decide⟩ [0, 1] rfl rfl rfl (fun _ => rfl) hl.1 rfl rfl (Nat.le_of_ble_eq_true rfl) dX5_addsGarment_21 (fun _ H locs hr_2 hW => ?_)
  have hW : Wd E A s.heap (MR E a b fs (st (st S 5 G x1) 6 G x2)) H locs := hW
  refine lv_aload_n hx hb dX5_addsGarment_24 rfl (lv_at hl 1 rfl) ?_
  refine lv_iload hx hb dX5_addsGarment_25 (lv_at hl 0 rfl) ?_
  refine lv_iconst (v := 2) hx hb dX5_addsGarment_27 (by decide) ?_
  refine lv_iload_n hx hb dX5_addsGarment_28 rfl (lv_at hl 4 rfl) ?_
  refine r_callVv hC hD hW hA lkX5_118 (c_X5_sews l E a b fs hf (st (st S 5 G x1) 6 G x2) G 2 x3 (by omega) (by omega)) rfl ⟨by decide, by decide, by decide, by decide⟩ [0, 1] rfl rfl rfl (fun _ => rfl) hl.1 rfl rfl (Nat.le_of_ble_eq_true rfl) dX5_addsGarment_29 (fun _ H locs hr_3 hW => ?_)
  have hW : Wd E A s.heap (MR E a b fs (st (st (st S 5 G x1) 6 G x2) 7 G x3)) H locs := hW
  refine lv_aload_n hx hb dX5_addsGarment_32 rfl (lv_at hl 1 rfl) ?_
  refine lv_iload hx hb dX5_addsGarment_33 (lv_at hl 0 rfl) ?_
  refine lv_iconst (v := 3) hx hb dX5_addsGarment_35 (by decide) ?_
  refine lv_iload hx hb dX5_addsGarment_36 (lv_at hl 5 rfl) ?_
  refine r_callVv hC hD hW hA lkX5_118 (c_X5_sews l E a b fs hf (st (st (st S 5 G x1) 6 G x2) 7 G x3) G 3 x4 (by omega) (by omega)) rfl ⟨by decide, by decide, by decide, by decide⟩ [0, 1] rfl rfl rfl (fun _ => rfl) hl.1 rfl rfl (Nat.le_of_ble_eq_true rfl) dX5_addsGarment_38 (fun _ H locs hr_4 hW => ?_)
  have hW : Wd E A s.heap (MR E a b fs (st (st (st (st S 5 G x1) 6 G x2) 7 G x3) 8 G x4)) H locs := hW
  refine lv_aload_n hx hb dX5_addsGarment_41 rfl (lv_at hl 1 rfl) ?_
  refine r_get hC hW flX5_7 0 rfl hf dX5_addsGarment_42 ?_
  refine lv_iconst (v := 3) hx hb dX5_addsGarment_45 (by decide) ?_
  refine lv_dup2_11 hx hb dX5_addsGarment_46 rfl rfl ?_
  refine r_iald hC hW 1 rfl 3 rfl (by omega) (by decide) dX5_addsGarment_47 ?_
  refine n_top (enc_0 (st (st (st (st S 5 G x1) 6 G x2) 7 G x3) 8 G x4) (by decide)) ?_
  refine n_top hG ?_
  refine lv_iconst (v := 1) hx hb dX5_addsGarment_48 (by decide) ?_
  refine n_iadd (v := (nI (G + 1))) hx hb dX5_addsGarment_49 (nI_add G 1) ?_
  refine r_iast (ws' := (MR E a b fs (addG S G x1 x2 x3 x4))) hC hD hW 1 rfl 3 rfl (by omega) (by decide) rfl (by rw [upd_0 _ (by decide)]; rfl) dX5_addsGarment_50 (fun H locs hW => ?_)
  exact r_vret hC hQ hD hW () trivial rfl rfl dX5_addsGarment_51
set_option maxHeartbeats 4000000 in
set_option maxRecDepth 100000 in
theorem c_X5_isSewing (l : Launch) (E : Ev) (a : Nat) (b : Nat) (fs : List Value) (hf : fs[0]? = some (.ref b)) (S : HS) (P : Nat) (hP : S 0 2 = nI P) (hP1 : P ≤ 6) (x1 : Int32) (x2 : Int32) : MI l E yX5_isSewing cX5_isSewing 3 .boolean 2 43 0 0 [.ref a, .int x1, .int x2] (MR E a b fs S) (fun (r : Int32) (_ : Unit) => bz ((x1 = 0 ∧ ∃ j, j < P ∧ x2 = nI j) ∨ (x1 = 1 ∧ 0 ≤ x2 ∧ x2 ≤ 2) ∨ (x1 = 2 ∧ 0 ≤ x2 ∧ x2 ≤ 99) ∨ (x1 = 3 ∧ (x2 = -1 ∨ ∃ j, j < P ∧ x2 = nI j))) r) (fun (_ : Unit) => (MR E a b fs S)) := by
  refine MI_intro RX5 (by decide) rfl (Nat.le_of_ble_eq_true rfl) ?_
  intro p e R s m args below meth c A Q hQ hC hD hW hA ls hl
  have hx := hC.1
  have hb := hC.2.1
  have hW : Wd E A s.heap (MR E a b fs S) s.heap [] := hW
  have hl : lv_has ls 3 [(0, .ref a), (1, .int x1), (2, .int x2)] := hl
  refine lv_iload_n hx hb dX5_isSewing_0 rfl (lv_at hl 1 rfl) ?_
  by_cases k_1 : x1 = 0
  · refine lv_tableIn (off := 27) (tgt := 28) hx hb dX5_isSewing_1 (by rw [k_1]; decide) (by rw [k_1]; decide) (by rw [k_1]; rfl) (by decide) ?_
    refine lv_aload_n hx hb dX5_isSewing_28 rfl (lv_at hl 0 rfl) ?_
    refine lv_iload_n hx hb dX5_isSewing_29 rfl (lv_at hl 2 rfl) ?_
    refine r_callVi hC hD hW hA lkX5_98 (c_X5_isOne l E a b fs hf S P hP hP1 x2) rfl ⟨by decide, by decide, by decide, by decide⟩ [0, 1] rfl rfl rfl (fun _ => rfl) hl.1 rfl rfl (Nat.le_of_ble_eq_true rfl) dX5_isSewing_30 (fun r_2 _ H locs hr_2 hW => ?_)
    have hW : Wd E A s.heap (MR E a b fs S) H locs := hW
    have hr_2 : bz (∃ j, j < P ∧ x2 = nI j) r_2 := hr_2
    exact r_zret hC hQ hD hW (bz_01 hr_2) () (bz_iff ⟨fun z => Or.inl ⟨k_1, z⟩, fun z => by rcases z with ⟨y, z⟩ | ⟨y, z⟩ | ⟨y, z⟩ | ⟨y, z⟩ <;> first | exact z | (rw [k_1] at y; exact absurd y (by decide))⟩ hr_2) rfl rfl dX5_isSewing_33
  by_cases k_4 : x1 = 1
  · refine lv_tableIn (off := 33) (tgt := 34) hx hb dX5_isSewing_1 (by rw [k_4]; decide) (by rw [k_4]; decide) (by rw [k_4]; rfl) (by decide) ?_
    refine lv_iload_n hx hb dX5_isSewing_34 rfl (lv_at hl 2 rfl) ?_
    refine lv_iconst (v := 0) hx hb dX5_isSewing_35 (by decide) ?_
    refine lv_iconst (v := 2) hx hb dX5_isSewing_36 (by decide) ?_
    refine r_callSi hC hD hW hA lkX5_45 (c_X5_in l E x2 0 2) ⟨by decide, by decide, by decide, by decide⟩ rfl hl.1 rfl rfl (Nat.le_of_ble_eq_true rfl) dX5_isSewing_37 (fun r_5 _ H locs hr_5 hW => ?_)
    have hW : Wd E A s.heap (MR E a b fs S) H locs := hW
    have hr_5 : bz (0 ≤ x2 ∧ x2 ≤ 2) r_5 := hr_5
    exact r_zret hC hQ hD hW (bz_01 hr_5) () (bz_iff ⟨fun z => Or.inr (Or.inl ⟨k_4, z⟩), fun z => by rcases z with ⟨y, z⟩ | ⟨y, z⟩ | ⟨y, z⟩ | ⟨y, z⟩ <;> first | exact z | (rw [k_4] at y; exact absurd y (by decide))⟩ hr_5) rfl rfl dX5_isSewing_40
  by_cases k_7 : x1 = 2
  · refine lv_tableIn (off := 40) (tgt := 41) hx hb dX5_isSewing_1 (by rw [k_7]; decide) (by rw [k_7]; decide) (by rw [k_7]; rfl) (by decide) ?_
    refine lv_iload_n hx hb dX5_isSewing_41 rfl (lv_at hl 2 rfl) ?_
    refine lv_iconst (v := 0) hx hb dX5_isSewing_42 (by decide) ?_
    refine lv_bipush (v := 99) hx hb dX5_isSewing_43 (by decide) ?_
    refine r_callSi hC hD hW hA lkX5_45 (c_X5_in l E x2 0 99) ⟨by decide, by decide, by decide, by decide⟩ rfl hl.1 rfl rfl (Nat.le_of_ble_eq_true rfl) dX5_isSewing_45 (fun r_8 _ H locs hr_8 hW => ?_)
    have hW : Wd E A s.heap (MR E a b fs S) H locs := hW
    have hr_8 : bz (0 ≤ x2 ∧ x2 ≤ 99) r_8 := hr_8
    exact r_zret hC hQ hD hW (bz_01 hr_8) () (bz_iff ⟨fun z => Or.inr (Or.inr (Or.inl ⟨k_7, z⟩)), fun z => by rcases z with ⟨y, z⟩ | ⟨y, z⟩ | ⟨y, z⟩ | ⟨y, z⟩ <;> first | exact z | (rw [k_7] at y; exact absurd y (by decide))⟩ hr_8) rfl rfl dX5_isSewing_48
  have sw_1 : (x1 : Int32).toInt < 0 ∨ 2 < (x1 : Int32).toInt := by
    have := sw_ne (k := 0) (z := 0) (by decide) k_1
    have := sw_ne (k := 1) (z := 1) (by decide) k_4
    have := sw_ne (k := 2) (z := 2) (by decide) k_7
    omega
  refine lv_tableOut (tgt := 49) hx hb dX5_isSewing_1 sw_1 (by decide) ?_
  refine lv_iload_n hx hb dX5_isSewing_49 rfl (lv_at hl 1 rfl) ?_
  refine lv_iconst (v := 3) hx hb dX5_isSewing_50 (by decide) ?_
  refine lv_icmp_ne (tgt := 71) hx hb dX5_isSewing_51 (by decide) (fun c_10 => ?_) (fun c_10 => ?_)
  · refine lv_iconst (v := 0) hx hb dX5_isSewing_71 (by decide) ?_
    exact r_zret hC hQ hD hW (by decide) () (bz_f (fun z => by rcases z with ⟨y, z⟩ | ⟨y, z⟩ | ⟨y, z⟩ | ⟨y, z⟩ <;> first | exact k_1 y | exact k_4 y | exact k_7 y | (exact c_10 y))) rfl rfl dX5_isSewing_72
  · refine lv_iload_n hx hb dX5_isSewing_54 rfl (lv_at hl 2 rfl) ?_
    refine lv_iconst (v := (-1)) hx hb dX5_isSewing_55 (by decide) ?_
    refine lv_icmp_eq (tgt := 67) hx hb dX5_isSewing_56 (by decide) (fun c_11 => ?_) (fun c_11 => ?_)
    · refine lv_iconst (v := 1) hx hb dX5_isSewing_67 (by decide) ?_
      refine lv_goto (tgt := 72) hx hb dX5_isSewing_68 (by decide) ?_
      exact r_zret hC hQ hD hW (by decide) () (bz_t (Or.inr (Or.inr (Or.inr ⟨c_10, Or.inl c_11⟩)))) rfl rfl dX5_isSewing_72
    · refine lv_aload_n hx hb dX5_isSewing_59 rfl (lv_at hl 0 rfl) ?_
      refine lv_iload_n hx hb dX5_isSewing_60 rfl (lv_at hl 2 rfl) ?_
      refine r_callVi hC hD hW hA lkX5_98 (c_X5_isOne l E a b fs hf S P hP hP1 x2) rfl ⟨by decide, by decide, by decide, by decide⟩ [0, 1] rfl rfl rfl (fun _ => rfl) hl.1 rfl rfl (Nat.le_of_ble_eq_true rfl) dX5_isSewing_61 (fun r_12 _ H locs hr_12 hW => ?_)
      have hW : Wd E A s.heap (MR E a b fs S) H locs := hW
      have hr_12 : bz (∃ j, j < P ∧ x2 = nI j) r_12 := hr_12
      rcases hr_12 with ⟨rfl, b_13⟩ | ⟨rfl, b_13⟩
      · refine lv_if_eq (tgt := 71) hx hb dX5_isSewing_64 (by decide) (fun _ => ?_) (fun c => absurd c (by decide))
        refine lv_iconst (v := 0) hx hb dX5_isSewing_71 (by decide) ?_
        exact r_zret hC hQ hD hW (by decide) () (bz_f (fun z => by rcases z with ⟨y, z⟩ | ⟨y, z⟩ | ⟨y, z⟩ | ⟨y, z⟩ <;> first | exact k_1 y | exact k_4 y | exact k_7 y | (exact z.elim c_11 b_13))) rfl rfl dX5_isSewing_72
      · refine lv_if_eq (tgt := 71) hx hb dX5_isSewing_64 (by decide) (fun c => absurd c (by decide)) (fun _ => ?_)
        refine lv_iconst (v := 1) hx hb dX5_isSewing_67 (by decide) ?_
        refine lv_goto (tgt := 72) hx hb dX5_isSewing_68 (by decide) ?_
        exact r_zret hC hQ hD hW (by decide) () (bz_t (Or.inr (Or.inr (Or.inr ⟨c_10, Or.inr b_13⟩)))) rfl rfl dX5_isSewing_72
set_option maxHeartbeats 4000000 in
set_option maxRecDepth 100000 in
theorem c_X5_washes (l : Launch) (E : Ev) (a : Nat) (b : Nat) (fs : List Value) (hf : fs[0]? = some (.ref b)) (S : HS) (P : Nat) (G : Nat) (hV : HV S P G) (g : Nat) (hg : g < G) : MV l E yX5_washes cX5_washes 3 2 47 0 0 [.ref a, .int (nI g)] (MR E a b fs S) (fun (_ : Unit) => True) (fun (_ : Unit) => (MR E a b fs (w1 S P g))) := by
  refine MV_intro RX5 (by decide) rfl (Nat.le_of_ble_eq_true rfl) ?_
  intro p e R s m args below meth c A Q hQ hC hnm hD hW hA ls hl
  have hx := hC.1
  have hb := hC.2.1
  have hW : Wd E A s.heap (MR E a b fs S) s.heap [] := hW
  have hl : lv_has ls 3 [(0, .ref a), (1, .int (nI g))] := hl
  have hP := hV.p
  have hP1 := hV.p6
  have hG := hV.g
  have hG1 := hV.g10
  have hfd := fdn_le (g := g) hV
  have hnm := hV.nm99 hg
  rcases (hV.gv hg).ho hP1 with h8 | ⟨h8, h8P⟩
  · refine lv_aload_n hx hb dX5_washes_0 rfl (lv_at hl 0 rfl) ?_
    refine lv_iload_n hx hb dX5_washes_1 rfl (lv_at hl 1 rfl) ?_
    refine lv_iconst (v := 3) hx hb dX5_washes_2 (by decide) ?_
    refine r_callVi hC hD hW hA lkX5_49 (c_X5_worn l E a b fs hf S g 3 (by omega) (by omega)) rfl ⟨by decide, by decide, by decide, by decide⟩ [0, 1] rfl rfl rfl (fun _ => rfl) hl.1 rfl rfl (Nat.le_of_ble_eq_true rfl) dX5_washes_3 (fun r_1 _ H locs hr_1 hW => ?_)
    have hW : Wd E A s.heap (MR E a b fs S) H locs := hW
    have hr_1 : r_1 = (S 8 g) := hr_1
    subst hr_1
    refine n_top h8 ?_
    refine lv_istore_n (lv' := [(2, .int (-1)), (0, .ref a), (1, .int (nI g))]) hx hb dX5_washes_6 rfl hl (by decide) rfl (fun ls hl => ?_)
    refine lv_iload_n hx hb dX5_washes_7 rfl (lv_at hl 0 rfl) ?_
    refine lv_if_ge (tgt := 12) hx hb dX5_washes_8 (by decide) (fun c => absurd c (by decide)) (fun _ => ?_)
    exact r_vret hC hQ hD hW () trivial (by rw [w1_no h8]) rfl dX5_washes_11
  · refine lv_aload_n hx hb dX5_washes_0 rfl (lv_at hl 0 rfl) ?_
    refine lv_iload_n hx hb dX5_washes_1 rfl (lv_at hl 1 rfl) ?_
    refine lv_iconst (v := 3) hx hb dX5_washes_2 (by decide) ?_
    refine r_callVi hC hD hW hA lkX5_49 (c_X5_worn l E a b fs hf S g 3 (by omega) (by omega)) rfl ⟨by decide, by decide, by decide, by decide⟩ [0, 1] rfl rfl rfl (fun _ => rfl) hl.1 rfl rfl (Nat.le_of_ble_eq_true rfl) dX5_washes_3 (fun r_2 _ H locs hr_2 hW => ?_)
    have hW : Wd E A s.heap (MR E a b fs S) H locs := hW
    have hr_2 : r_2 = (S 8 g) := hr_2
    subst hr_2
    refine n_top h8 ?_
    refine lv_istore_n (lv' := [(2, .int (nI (ho S g))), (0, .ref a), (1, .int (nI g))]) hx hb dX5_washes_6 rfl hl (by decide) rfl (fun ls hl => ?_)
    refine lv_iload_n hx hb dX5_washes_7 rfl (lv_at hl 0 rfl) ?_
    refine lv_if_ge (tgt := 12) hx hb dX5_washes_8 (by decide) (fun c_3 => ?_) (fun c_3 => absurd c_3 (fun z => z (nI_pos' (by omega))))
    have c_3 : 0 ≤ ho S g := (nI_leI (a := 0) (b := ho S g) (by omega) (by omega)).mp c_3
    refine lv_aload_n hx hb dX5_washes_12 rfl (lv_at hl 1 rfl) ?_
    refine lv_iload_n hx hb dX5_washes_13 rfl (lv_at hl 2 rfl) ?_
    refine lv_iconst (v := 2) hx hb dX5_washes_14 (by decide) ?_
    refine lv_aload_n hx hb dX5_washes_15 rfl (lv_at hl 1 rfl) ?_
    refine lv_iload_n hx hb dX5_washes_16 rfl (lv_at hl 2 rfl) ?_
    refine lv_iconst (v := 2) hx hb dX5_washes_17 (by decide) ?_
    refine r_callVi hC hD hW hA lkX5_49 (c_X5_worn l E a b fs hf S g 2 (by omega) (by omega)) rfl ⟨by decide, by decide, by decide, by decide⟩ [0, 1] rfl rfl rfl (fun _ => rfl) hl.1 rfl rfl (Nat.le_of_ble_eq_true rfl) dX5_washes_18 (fun r_4 _ H locs hr_4 hW => ?_)
    have hW : Wd E A s.heap (MR E a b fs S) H locs := hW
    have hr_4 : r_4 = (S 7 g) := hr_4
    subst hr_4
    refine n_top (hV.nmv hg) ?_
    refine lv_aload_n hx hb dX5_washes_21 rfl (lv_at hl 1 rfl) ?_
    refine lv_iload_n hx hb dX5_washes_22 rfl (lv_at hl 2 rfl) ?_
    refine r_callVi hC hD hW hA lkX5_128 (c_X5_fades l E a b fs hf S P G hV g (by omega)) rfl ⟨by decide, by decide, by decide, by decide⟩ [0, 1] rfl rfl rfl (fun _ => rfl) hl.1 rfl rfl (Nat.le_of_ble_eq_true rfl) dX5_washes_23 (fun r_5 _ H locs hr_5 hW => ?_)
    have hW : Wd E A s.heap (MR E a b fs S) H locs := hW
    have hr_5 : r_5 = (nI (fdn S g)) := hr_5
    subst hr_5
    refine n_isub (v := ((nI (nm S g)) - (nI (fdn S g)))) hx hb dX5_washes_26 rfl ?_
    refine lv_iconst (v := 0) hx hb dX5_washes_27 (by decide) ?_
    refine lv_bipush (v := 99) hx hb dX5_washes_28 (by decide) ?_
    refine r_callSi hC hD hW hA lkX5_134 (c_X5_held l E ((nI (nm S g)) - (nI (fdn S g))) 0 99) ⟨by decide, by decide, by decide, by decide⟩ rfl hl.1 rfl rfl (Nat.le_of_ble_eq_true rfl) dX5_washes_30 (fun r_6 _ H locs hr_6 hW => ?_)
    have hW : Wd E A s.heap (MR E a b fs S) H locs := hW
    have hr_6 : r_6 = (if ((nI (nm S g)) - (nI (fdn S g))) < 0 then 0 else if 99 < ((nI (nm S g)) - (nI (fdn S g))) then 99 else ((nI (nm S g)) - (nI (fdn S g)))) := hr_6
    subst hr_6
    refine n_top (held_sub _ (by omega) _ (by omega)) ?_
    refine r_callVv hC hD hW hA lkX5_118 (c_X5_sews l E a b fs hf S g 2 (nI (nm S g - fdn S g)) (by omega) (by omega)) rfl ⟨by decide, by decide, by decide, by decide⟩ [0, 1] rfl rfl rfl (fun _ => rfl) hl.1 rfl rfl (Nat.le_of_ble_eq_true rfl) dX5_washes_33 (fun _ H locs hr_7 hW => ?_)
    have hW : Wd E A s.heap (MR E a b fs (fade S g)) H locs := hW
    refine lv_iload_n hx hb dX5_washes_36 rfl (lv_at hl 0 rfl) ?_
    refine lv_aload_n hx hb dX5_washes_37 rfl (lv_at hl 1 rfl) ?_
    refine lv_iload_n hx hb dX5_washes_38 rfl (lv_at hl 2 rfl) ?_
    refine lv_iconst (v := 0) hx hb dX5_washes_39 (by decide) ?_
    refine r_callVi hC hD hW hA lkX5_49 (c_X5_worn l E a b fs hf (fade S g) g 0 (by omega) (by omega)) rfl ⟨by decide, by decide, by decide, by decide⟩ [0, 1] rfl rfl rfl (fun _ => rfl) hl.1 rfl rfl (Nat.le_of_ble_eq_true rfl) dX5_washes_40 (fun r_8 _ H locs hr_8 hW => ?_)
    have hW : Wd E A s.heap (MR E a b fs (fade S g)) H locs := hW
    have hr_8 : r_8 = ((fade S g) 5 g) := hr_8
    subst hr_8
    refine n_top (show fade S g 5 g = S 5 g from rfl) ?_
    refine lv_icmp_eq (tgt := 65) hx hb dX5_washes_43 (by decide) (fun c_9 => ?_) (fun c_9 => ?_)
    · refine lv_aload_n hx hb dX5_washes_65 rfl (lv_at hl 1 rfl) ?_
      refine lv_iload_n hx hb dX5_washes_66 rfl (lv_at hl 2 rfl) ?_
      refine lv_iconst (v := 3) hx hb dX5_washes_67 (by decide) ?_
      refine lv_aload_n hx hb dX5_washes_68 rfl (lv_at hl 1 rfl) ?_
      refine lv_iload_n hx hb dX5_washes_69 rfl (lv_at hl 2 rfl) ?_
      refine r_callVi hC hD hW hA lkX5_125 (c_X5_reads l E a b fs hf (fade S g) P G (HV_fade hV hg) g (by omega)) rfl ⟨by decide, by decide, by decide, by decide⟩ [0, 1] rfl rfl rfl (fun _ => rfl) hl.1 rfl rfl (Nat.le_of_ble_eq_true rfl) dX5_washes_70 (fun r_10 _ H locs hr_10 hW => ?_)
      have hW : Wd E A s.heap (MR E a b fs (fade S g)) H locs := hW
      have hr_10 : r_10 = (rdI (fade S g) P g) := hr_10
      subst hr_10
      refine r_callVv hC hD hW hA lkX5_118 (c_X5_sews l E a b fs hf (fade S g) g 3 (rdI (fade S g) P g) (by omega) (by omega)) rfl ⟨by decide, by decide, by decide, by decide⟩ [0, 1] rfl rfl rfl (fun _ => rfl) hl.1 rfl rfl (Nat.le_of_ble_eq_true rfl) dX5_washes_73 (fun _ H locs hr_11 hW => ?_)
      have hW : Wd E A s.heap (MR E a b fs (st (fade S g) 8 g (rdI (fade S g) P g))) H locs := hW
      exact r_vret hC hQ hD hW () trivial (by rw [w1_y (ho_ne h8 (by omega)) (Or.inl (h8.trans c_9))]) rfl dX5_washes_76
    · refine lv_aload_n hx hb dX5_washes_46 rfl (lv_at hl 1 rfl) ?_
      refine lv_iload_n hx hb dX5_washes_47 rfl (lv_at hl 0 rfl) ?_
      refine lv_iconst (v := 3) hx hb dX5_washes_48 (by decide) ?_
      refine r_callVi hC hD hW hA lkX5_57 (c_X5_its l E a b fs hf (fade S g) (ho S g) 3 (by omega) (by omega)) rfl ⟨by decide, by decide, by decide, by decide⟩ [0, 1] rfl rfl rfl (fun _ => rfl) hl.1 rfl rfl (Nat.le_of_ble_eq_true rfl) dX5_washes_49 (fun r_12 _ H locs hr_12 hW => ?_)
      have hW : Wd E A s.heap (MR E a b fs (fade S g)) H locs := hW
      have hr_12 : r_12 = ((fade S g) 4 (ho S g)) := hr_12
      subst hr_12
      refine n_top (show fade S g 4 (ho S g) = S 4 (ho S g) from rfl) ?_
      refine lv_iconst (v := 1) hx hb dX5_washes_52 (by decide) ?_
      refine lv_icmp_eq (tgt := 65) hx hb dX5_washes_53 (by decide) (fun c_13 => ?_) (fun c_13 => ?_)
      · refine lv_aload_n hx hb dX5_washes_65 rfl (lv_at hl 1 rfl) ?_
        refine lv_iload_n hx hb dX5_washes_66 rfl (lv_at hl 2 rfl) ?_
        refine lv_iconst (v := 3) hx hb dX5_washes_67 (by decide) ?_
        refine lv_aload_n hx hb dX5_washes_68 rfl (lv_at hl 1 rfl) ?_
        refine lv_iload_n hx hb dX5_washes_69 rfl (lv_at hl 2 rfl) ?_
        refine r_callVi hC hD hW hA lkX5_125 (c_X5_reads l E a b fs hf (fade S g) P G (HV_fade hV hg) g (by omega)) rfl ⟨by decide, by decide, by decide, by decide⟩ [0, 1] rfl rfl rfl (fun _ => rfl) hl.1 rfl rfl (Nat.le_of_ble_eq_true rfl) dX5_washes_70 (fun r_14 _ H locs hr_14 hW => ?_)
        have hW : Wd E A s.heap (MR E a b fs (fade S g)) H locs := hW
        have hr_14 : r_14 = (rdI (fade S g) P g) := hr_14
        subst hr_14
        refine r_callVv hC hD hW hA lkX5_118 (c_X5_sews l E a b fs hf (fade S g) g 3 (rdI (fade S g) P g) (by omega) (by omega)) rfl ⟨by decide, by decide, by decide, by decide⟩ [0, 1] rfl rfl rfl (fun _ => rfl) hl.1 rfl rfl (Nat.le_of_ble_eq_true rfl) dX5_washes_73 (fun _ H locs hr_15 hW => ?_)
        have hW : Wd E A s.heap (MR E a b fs (st (fade S g) 8 g (rdI (fade S g) P g))) H locs := hW
        exact r_vret hC hQ hD hW () trivial (by rw [w1_y (ho_ne h8 (by omega)) (Or.inr (Or.inl c_13))]) rfl dX5_washes_76
      · refine lv_aload_n hx hb dX5_washes_56 rfl (lv_at hl 1 rfl) ?_
        refine lv_iload_n hx hb dX5_washes_57 rfl (lv_at hl 0 rfl) ?_
        refine lv_iload_n hx hb dX5_washes_58 rfl (lv_at hl 2 rfl) ?_
        refine r_callVi hC hD hW hA lkX5_111 (c_X5_isGiving l E a b fs hf (fade S g) P G (HV_fade hV hg) (ho S g) g (by omega) (by omega)) rfl ⟨by decide, by decide, by decide, by decide⟩ [0, 1] rfl rfl rfl (fun _ => rfl) hl.1 rfl rfl (Nat.le_of_ble_eq_true rfl) dX5_washes_59 (fun r_16 _ H locs hr_16 hW => ?_)
        have hW : Wd E A s.heap (MR E a b fs (fade S g)) H locs := hW
        have hr_16 : bz (giv (fade S g) (ho S g) g) r_16 := hr_16
        rcases hr_16 with ⟨rfl, b_17⟩ | ⟨rfl, b_17⟩
        · refine lv_if_eq (tgt := 76) hx hb dX5_washes_62 (by decide) (fun _ => ?_) (fun c => absurd c (by decide))
          exact r_vret hC hQ hD hW () trivial (by rw [w1_n (ho_ne h8 (by omega)) (fun z => c_9 (h8.symm.trans z)) c_13 b_17]) rfl dX5_washes_76
        · refine lv_if_eq (tgt := 76) hx hb dX5_washes_62 (by decide) (fun c => absurd c (by decide)) (fun _ => ?_)
          refine lv_aload_n hx hb dX5_washes_65 rfl (lv_at hl 1 rfl) ?_
          refine lv_iload_n hx hb dX5_washes_66 rfl (lv_at hl 2 rfl) ?_
          refine lv_iconst (v := 3) hx hb dX5_washes_67 (by decide) ?_
          refine lv_aload_n hx hb dX5_washes_68 rfl (lv_at hl 1 rfl) ?_
          refine lv_iload_n hx hb dX5_washes_69 rfl (lv_at hl 2 rfl) ?_
          refine r_callVi hC hD hW hA lkX5_125 (c_X5_reads l E a b fs hf (fade S g) P G (HV_fade hV hg) g (by omega)) rfl ⟨by decide, by decide, by decide, by decide⟩ [0, 1] rfl rfl rfl (fun _ => rfl) hl.1 rfl rfl (Nat.le_of_ble_eq_true rfl) dX5_washes_70 (fun r_18 _ H locs hr_18 hW => ?_)
          have hW : Wd E A s.heap (MR E a b fs (fade S g)) H locs := hW
          have hr_18 : r_18 = (rdI (fade S g) P g) := hr_18
          subst hr_18
          refine r_callVv hC hD hW hA lkX5_118 (c_X5_sews l E a b fs hf (fade S g) g 3 (rdI (fade S g) P g) (by omega) (by omega)) rfl ⟨by decide, by decide, by decide, by decide⟩ [0, 1] rfl rfl rfl (fun _ => rfl) hl.1 rfl rfl (Nat.le_of_ble_eq_true rfl) dX5_washes_73 (fun _ H locs hr_19 hW => ?_)
          have hW : Wd E A s.heap (MR E a b fs (st (fade S g) 8 g (rdI (fade S g) P g))) H locs := hW
          exact r_vret hC hQ hD hW () trivial (by rw [w1_y (ho_ne h8 (by omega)) (Or.inr (Or.inr (giB_t.mpr b_17)))]) rfl dX5_washes_76
set_option maxHeartbeats 4000000 in
set_option maxRecDepth 100000 in
theorem c_X5_lies (l : Launch) (E : Ev) (a : Nat) (b : Nat) (fs : List Value) (hf : fs[0]? = some (.ref b)) (S : HS) (P : Nat) (G : Nat) (hV : HV S P G) (g : Nat) (hg : g < G) : MV l E yX5_lies cX5_lies 4 3 69 0 0 [.ref a, .int (nI g)] (MR E a b fs S) (fun (_ : Unit) => True) (fun (_ : Unit) => (MR E a b fs (y1 S P G g))) := by
  refine MV_intro RX5 (by decide) rfl (Nat.le_of_ble_eq_true rfl) ?_
  intro p e R s m args below meth c A Q hQ hC hnm hD hW hA ls hl
  have hx := hC.1
  have hb := hC.2.1
  have hW : Wd E A s.heap (MR E a b fs S) s.heap [] := hW
  have hl : lv_has ls 4 [(0, .ref a), (1, .int (nI g))] := hl
  have hP := hV.p
  have hP1 := hV.p6
  have hG := hV.g
  have hG1 := hV.g10
  rcases (hV.gv hg).ho hP1 with h8 | ⟨h8, h8P⟩
  · refine lv_aload_n hx hb dX5_lies_0 rfl (lv_at hl 0 rfl) ?_
    refine lv_iload_n hx hb dX5_lies_1 rfl (lv_at hl 1 rfl) ?_
    refine lv_iconst (v := 3) hx hb dX5_lies_2 (by decide) ?_
    refine r_callVi hC hD hW hA lkX5_49 (c_X5_worn l E a b fs hf S g 3 (by omega) (by omega)) rfl ⟨by decide, by decide, by decide, by decide⟩ [0, 1] rfl rfl rfl (fun _ => rfl) hl.1 rfl rfl (Nat.le_of_ble_eq_true rfl) dX5_lies_3 (fun r_1 _ H locs hr_1 hW => ?_)
    have hW : Wd E A s.heap (MR E a b fs S) H locs := hW
    have hr_1 : r_1 = (S 8 g) := hr_1
    subst hr_1
    refine n_top h8 ?_
    refine lv_if_lt (tgt := 10) hx hb dX5_lies_6 (by decide) (fun _ => ?_) (fun c => absurd c (by decide))
    refine lv_iconst (v := (-1)) hx hb dX5_lies_10 (by decide) ?_
    refine lv_istore_n (lv' := [(2, .int (-1)), (0, .ref a), (1, .int (nI g))]) hx hb dX5_lies_11 rfl hl (by decide) rfl (fun ls hl => ?_)
    refine lv_aload_n hx hb dX5_lies_12 rfl (lv_at hl 1 rfl) ?_
    refine r_get hC hW flX5_7 0 rfl hf dX5_lies_13 ?_
    refine lv_iconst (v := 2) hx hb dX5_lies_16 (by decide) ?_
    refine r_iald hC hW 1 rfl 2 rfl (by omega) (by decide) dX5_lies_17 ?_
    refine n_top (enc_0 S (by decide)) ?_
    refine n_top hV.p ?_
    refine lv_iconst (v := 1) hx hb dX5_lies_18 (by decide) ?_
    refine n_isub (v := ((nI P) - 1)) hx hb dX5_lies_19 rfl ?_
    refine lv_istore_n (lv' := [(3, .int ((nI P) - 1)), (2, .int (-1)), (0, .ref a), (1, .int (nI g))]) hx hb dX5_lies_20 rfl hl (by decide) rfl (fun ls hl => ?_)
    have L21 : ∀ (n_ : Nat) (q : Nat) (x : Int32) (H : Heap) (locs : List Loc) (ls : Array Slot), q < n_ → q ≤ P → LSq (cls S g G) q P x → Wd E A s.heap (MR E a b fs S) H locs → lv_has ls 4 [(0, .ref a), (1, .int (nI g)), (2, .int x), (3, .int (nI q - 1))] → W p l e R s m args below meth c H locs 0 0 Q (F0 m 21 ls []) := by
      intro n_
      induction n_ with
      | zero => intro q x H locs ls hm; exact absurd hm (Nat.not_lt_zero _)
      | succ n_ ih =>
        intro q x H locs ls hm hq hX1 hW hl
        rcases q with _ | q
        · have hl : lv_has ls 4 [(0, .ref a), (1, .int (nI g)), (2, .int x), (3, .int (-1))] := hl
          refine lv_iload_n hx hb dX5_lies_21 rfl (lv_at hl 3 rfl) ?_
          refine lv_if_lt (tgt := 55) hx hb dX5_lies_22 (by decide) (fun _ => ?_) (fun c => absurd c (by decide))
          refine lv_aload_n hx hb dX5_lies_55 rfl (lv_at hl 0 rfl) ?_
          refine lv_iload_n hx hb dX5_lies_56 rfl (lv_at hl 1 rfl) ?_
          refine lv_iconst (v := 3) hx hb dX5_lies_57 (by decide) ?_
          refine lv_iload_n hx hb dX5_lies_58 rfl (lv_at hl 2 rfl) ?_
          refine r_callVv hC hD hW hA lkX5_118 (c_X5_sews l E a b fs hf S g 3 x (by omega) (by omega)) rfl ⟨by decide, by decide, by decide, by decide⟩ [0, 1] rfl rfl rfl (fun _ => rfl) hl.1 rfl rfl (Nat.le_of_ble_eq_true rfl) dX5_lies_59 (fun _ H locs hr_2 hW => ?_)
          have hW : Wd E A s.heap (MR E a b fs (st S 8 g x)) H locs := hW
          exact r_vret hC hQ hD hW () trivial (by rw [y1_y h8, ← LSq_0 (by omega) hX1]) rfl dX5_lies_62
        · rw [show nI (q + 1) - 1 = nI q from nI_pred q] at hl
          refine lv_iload_n hx hb dX5_lies_21 rfl (lv_at hl 3 rfl) ?_
          refine lv_if_lt (tgt := 55) hx hb dX5_lies_22 (by decide) (fun c_3 => absurd c_3 (nI_pos (by omega))) (fun c_3 => ?_)
          have c_3 : ¬ q < 0 := fun z_ => c_3 ((nI_ltI (a := q) (b := 0) (by omega) (by omega)).mpr z_)
          refine lv_aload_n hx hb dX5_lies_25 rfl (lv_at hl 0 rfl) ?_
          refine lv_iload_n hx hb dX5_lies_26 rfl (lv_at hl 3 rfl) ?_
          refine lv_iconst (v := 3) hx hb dX5_lies_27 (by decide) ?_
          refine r_callVi hC hD hW hA lkX5_57 (c_X5_its l E a b fs hf S q 3 (by omega) (by omega)) rfl ⟨by decide, by decide, by decide, by decide⟩ [0, 1] rfl rfl rfl (fun _ => rfl) hl.1 rfl rfl (Nat.le_of_ble_eq_true rfl) dX5_lies_28 (fun r_4 _ H locs hr_4 hW => ?_)
          have hW : Wd E A s.heap (MR E a b fs S) H locs := hW
          have hr_4 : r_4 = (S 4 q) := hr_4
          subst hr_4
          refine lv_if_ne (tgt := 47) hx hb dX5_lies_31 (by decide) (fun c_5 => ?_) (fun c_5 => ?_)
          · refine lv_iload_n hx hb dX5_lies_47 rfl (lv_at hl 2 rfl) ?_
            refine lv_istore_n (lv' := [(2, .int x), (0, .ref a), (1, .int (nI g)), (3, .int (nI q))]) hx hb dX5_lies_48 rfl hl (by decide) rfl (fun ls hl => ?_)
            refine lv_iinc (v := (nI q - 1)) (lv' := [(3, .int (nI q - 1)), (2, .int x), (0, .ref a), (1, .int (nI g))]) (k := 3) hx hb dX5_lies_49 hl rfl (nI_dec q) (by decide) rfl (fun ls hl => ?_)
            refine lv_goto (tgt := 21) hx hb dX5_lies_52 (by decide) ?_
            exact ih q x _ _ _ (by omega) (by omega) (LSq_f (cls_f1 c_5) hX1) hW (lv_sub hl [2, 3, 1, 0] rfl)
          · refine lv_aload_n hx hb dX5_lies_34 rfl (lv_at hl 0 rfl) ?_
            refine lv_iload_n hx hb dX5_lies_35 rfl (lv_at hl 3 rfl) ?_
            refine lv_iload_n hx hb dX5_lies_36 rfl (lv_at hl 1 rfl) ?_
            refine r_callVi hC hD hW hA lkX5_114 (c_X5_isClaiming l E a b fs hf S P G hV q g (by omega) (by omega)) rfl ⟨by decide, by decide, by decide, by decide⟩ [0, 1] rfl rfl rfl (fun _ => rfl) hl.1 rfl rfl (Nat.le_of_ble_eq_true rfl) dX5_lies_37 (fun r_6 _ H locs hr_6 hW => ?_)
            have hW : Wd E A s.heap (MR E a b fs S) H locs := hW
            have hr_6 : bz (clm S q g G) r_6 := hr_6
            rcases hr_6 with ⟨rfl, b_7⟩ | ⟨rfl, b_7⟩
            · refine lv_if_eq (tgt := 47) hx hb dX5_lies_40 (by decide) (fun _ => ?_) (fun c => absurd c (by decide))
              refine lv_iload_n hx hb dX5_lies_47 rfl (lv_at hl 2 rfl) ?_
              refine lv_istore_n (lv' := [(2, .int x), (0, .ref a), (1, .int (nI g)), (3, .int (nI q))]) hx hb dX5_lies_48 rfl hl (by decide) rfl (fun ls hl => ?_)
              refine lv_iinc (v := (nI q - 1)) (lv' := [(3, .int (nI q - 1)), (2, .int x), (0, .ref a), (1, .int (nI g))]) (k := 3) hx hb dX5_lies_49 hl rfl (nI_dec q) (by decide) rfl (fun ls hl => ?_)
              refine lv_goto (tgt := 21) hx hb dX5_lies_52 (by decide) ?_
              exact ih q x _ _ _ (by omega) (by omega) (LSq_f (cls_f2 b_7) hX1) hW (lv_sub hl [2, 3, 1, 0] rfl)
            · refine lv_if_eq (tgt := 47) hx hb dX5_lies_40 (by decide) (fun c => absurd c (by decide)) (fun _ => ?_)
              refine lv_iload_n hx hb dX5_lies_43 rfl (lv_at hl 3 rfl) ?_
              refine lv_goto (tgt := 48) hx hb dX5_lies_44 (by decide) ?_
              refine lv_istore_n (lv' := [(2, .int (nI q)), (0, .ref a), (1, .int (nI g)), (3, .int (nI q))]) hx hb dX5_lies_48 rfl hl (by decide) rfl (fun ls hl => ?_)
              refine lv_iinc (v := (nI q - 1)) (lv' := [(3, .int (nI q - 1)), (2, .int (nI q)), (0, .ref a), (1, .int (nI g))]) (k := 3) hx hb dX5_lies_49 hl rfl (nI_dec q) (by decide) rfl (fun ls hl => ?_)
              refine lv_goto (tgt := 21) hx hb dX5_lies_52 (by decide) ?_
              exact ih q (nI q) _ _ _ (by omega) (by omega) (LSq_t (cls_t c_5 b_7) (by omega)) hW (lv_sub hl [2, 3, 1, 0] rfl)
    exact L21 (P + 1) P (-1) _ _ _ (Nat.lt_succ_self _) (by omega) (LSq_init _ P) hW (lv_sub hl [2, 3, 1, 0] rfl)
  · refine lv_aload_n hx hb dX5_lies_0 rfl (lv_at hl 0 rfl) ?_
    refine lv_iload_n hx hb dX5_lies_1 rfl (lv_at hl 1 rfl) ?_
    refine lv_iconst (v := 3) hx hb dX5_lies_2 (by decide) ?_
    refine r_callVi hC hD hW hA lkX5_49 (c_X5_worn l E a b fs hf S g 3 (by omega) (by omega)) rfl ⟨by decide, by decide, by decide, by decide⟩ [0, 1] rfl rfl rfl (fun _ => rfl) hl.1 rfl rfl (Nat.le_of_ble_eq_true rfl) dX5_lies_3 (fun r_8 _ H locs hr_8 hW => ?_)
    have hW : Wd E A s.heap (MR E a b fs S) H locs := hW
    have hr_8 : r_8 = (S 8 g) := hr_8
    subst hr_8
    refine n_top h8 ?_
    refine lv_if_lt (tgt := 10) hx hb dX5_lies_6 (by decide) (fun c_9 => absurd c_9 (nI_pos (by omega))) (fun c_9 => ?_)
    have c_9 : ¬ ho S g < 0 := fun z_ => c_9 ((nI_ltI (a := ho S g) (b := 0) (by omega) (by omega)).mpr z_)
    exact r_vret hC hQ hD hW () trivial (by rw [y1_n (ho_ne h8 (by omega))]) rfl dX5_lies_9
set_option maxHeartbeats 4000000 in
set_option maxRecDepth 100000 in
theorem c_X5_oneWeek (l : Launch) (E : Ev) (a : Nat) (b : Nat) (fs : List Value) (hf : fs[0]? = some (.ref b)) (S : HS) (P : Nat) (G : Nat) (hV : HV S P G) : MV l E yX5_oneWeek cX5_oneWeek 2 4 92 0 0 [.ref a] (MR E a b fs S) (fun (_ : Unit) => True) (fun (_ : Unit) => (MR E a b fs (wk S P G))) := by
  refine MV_intro RX5 (by decide) rfl (Nat.le_of_ble_eq_true rfl) ?_
  intro p e R s m args below meth c A Q hQ hC hnm hD hW hA ls hl
  have hx := hC.1
  have hb := hC.2.1
  have hW : Wd E A s.heap (MR E a b fs S) s.heap [] := hW
  have hl : lv_has ls 2 [(0, .ref a)] := hl
  have hP := hV.p
  have hP1 := hV.p6
  have hG := hV.g
  have hG1 := hV.g10
  refine lv_iconst (v := 0) hx hb dX5_oneWeek_0 (by decide) ?_
  refine lv_istore_n (lv' := [(1, .int 0), (0, .ref a)]) hx hb dX5_oneWeek_1 rfl hl (by decide) rfl (fun ls hl => ?_)
  have L2 : ∀ (n_ : Nat) (i : Nat) (H : Heap) (locs : List Loc) (ls : Array Slot), G - i < n_ → i ≤ G → Wd E A s.heap (MR E a b fs (wN S P i)) H locs → lv_has ls 2 [(0, .ref a), (1, .int (nI i))] → W p l e R s m args below meth c H locs 0 0 Q (F0 m 2 ls []) := by
    intro n_
    induction n_ with
    | zero => intro i H locs ls hm; exact absurd hm (Nat.not_lt_zero _)
    | succ n_ ih =>
      intro i H locs ls hm hi hW hl
      refine lv_iload_n hx hb dX5_oneWeek_2 rfl (lv_at hl 1 rfl) ?_
      refine lv_aload_n hx hb dX5_oneWeek_3 rfl (lv_at hl 0 rfl) ?_
      refine r_get hC hW flX5_7 0 rfl hf dX5_oneWeek_4 ?_
      refine lv_iconst (v := 3) hx hb dX5_oneWeek_7 (by decide) ?_
      refine r_iald hC hW 1 rfl 3 rfl (by omega) (by decide) dX5_oneWeek_8 ?_
      refine n_top (enc_0 (wN S P i) (by decide)) ?_
      refine n_top (HV_wN hV i hi).g ?_
      refine lv_icmp_ge (tgt := 23) hx hb dX5_oneWeek_9 (by decide) (fun c_1 => ?_) (fun c_1 => ?_)
      · have c_1 : G ≤ i := (nI_leI (a := G) (b := i) (by omega) (by omega)).mp c_1
        have hW : Wd E A s.heap (MR E a b fs (wN S P G)) H locs := by rw [show wN S P G = wN S P i by rw [show i = G by omega]]; exact hW
        refine lv_iconst (v := 0) hx hb dX5_oneWeek_23 (by decide) ?_
        refine lv_istore_n (lv' := [(1, .int 0), (0, .ref a)]) hx hb dX5_oneWeek_24 rfl hl (by decide) rfl (fun ls hl => ?_)
        have L25 : ∀ (n_ : Nat) (i : Nat) (H : Heap) (locs : List Loc) (ls : Array Slot), G - i < n_ → i ≤ G → (i = 0 ∨ wN S P G 0 0 - wN S P G 0 0 / 2 * 2 = 1) → Wd E A s.heap (MR E a b fs (yN (wN S P G) P G i)) H locs → lv_has ls 2 [(0, .ref a), (1, .int (nI i))] → W p l e R s m args below meth c H locs 0 0 Q (F0 m 25 ls []) := by
          intro n_
          induction n_ with
          | zero => intro i H locs ls hm; exact absurd hm (Nat.not_lt_zero _)
          | succ n_ ih =>
            intro i H locs ls hm hi hod hW hl
            refine lv_iload_n hx hb dX5_oneWeek_25 rfl (lv_at hl 1 rfl) ?_
            refine lv_aload_n hx hb dX5_oneWeek_26 rfl (lv_at hl 0 rfl) ?_
            refine r_get hC hW flX5_7 0 rfl hf dX5_oneWeek_27 ?_
            refine lv_iconst (v := 3) hx hb dX5_oneWeek_30 (by decide) ?_
            refine r_iald hC hW 1 rfl 3 rfl (by omega) (by decide) dX5_oneWeek_31 ?_
            refine n_top (enc_0 (yN (wN S P G) P G i) (by decide)) ?_
            refine n_top (HV_yN (HV_wN hV G (Nat.le_refl G)) i).g ?_
            refine lv_icmp_ge (tgt := 58) hx hb dX5_oneWeek_32 (by decide) (fun c_2 => ?_) (fun c_2 => ?_)
            · have c_2 : G ≤ i := (nI_leI (a := G) (b := i) (by omega) (by omega)).mp c_2
              have hW : Wd E A s.heap (MR E a b fs (yT (wN S P G) P G)) H locs := by rw [yT_end (by omega) hod]; exact hW
              refine lv_iconst (v := 0) hx hb dX5_oneWeek_58 (by decide) ?_
              refine lv_istore_n (lv' := [(1, .int 0), (0, .ref a)]) hx hb dX5_oneWeek_59 rfl hl (by decide) rfl (fun ls hl => ?_)
              have L60 : ∀ (n_ : Nat) (i : Nat) (H : Heap) (locs : List Loc) (ls : Array Slot), P - i < n_ → i ≤ P → Wd E A s.heap (MR E a b fs (kN (yT (wN S P G) P G) G i)) H locs → lv_has ls 2 [(0, .ref a), (1, .int (nI i))] → W p l e R s m args below meth c H locs 0 0 Q (F0 m 60 ls []) := by
                intro n_
                induction n_ with
                | zero => intro i H locs ls hm; exact absurd hm (Nat.not_lt_zero _)
                | succ n_ ih =>
                  intro i H locs ls hm hi hW hl
                  refine lv_iload_n hx hb dX5_oneWeek_60 rfl (lv_at hl 1 rfl) ?_
                  refine lv_aload_n hx hb dX5_oneWeek_61 rfl (lv_at hl 0 rfl) ?_
                  refine r_get hC hW flX5_7 0 rfl hf dX5_oneWeek_62 ?_
                  refine lv_iconst (v := 2) hx hb dX5_oneWeek_65 (by decide) ?_
                  refine r_iald hC hW 1 rfl 2 rfl (by omega) (by decide) dX5_oneWeek_66 ?_
                  refine n_top (enc_0 (kN (yT (wN S P G) P G) G i) (by decide)) ?_
                  refine n_top (HV_kN (HV_yT (HV_wN hV G (Nat.le_refl G))) i).p ?_
                  refine lv_icmp_ge (tgt := 112) hx hb dX5_oneWeek_67 (by decide) (fun c_3 => ?_) (fun c_3 => ?_)
                  · have c_3 : P ≤ i := (nI_leI (a := P) (b := i) (by omega) (by omega)).mp c_3
                    have hW : Wd E A s.heap (MR E a b fs (kN (yT (wN S P G) P G) G P)) H locs := by rw [show kN (yT (wN S P G) P G) G P = kN (yT (wN S P G) P G) G i by rw [show i = P by omega]]; exact hW
                    refine lv_aload_n hx hb dX5_oneWeek_112 rfl (lv_at hl 0 rfl) ?_
                    refine r_get hC hW flX5_7 0 rfl hf dX5_oneWeek_113 ?_
                    refine lv_iconst (v := 0) hx hb dX5_oneWeek_116 (by decide) ?_
                    refine lv_dup2_11 hx hb dX5_oneWeek_117 rfl rfl ?_
                    refine r_iald hC hW 1 rfl 0 rfl (by omega) (by decide) dX5_oneWeek_118 ?_
                    refine n_top (enc_0 (kN (yT (wN S P G) P G) G P) (by decide)) ?_
                    refine lv_iconst (v := 1) hx hb dX5_oneWeek_119 (by decide) ?_
                    refine n_iadd (v := (((kN (yT (wN S P G) P G) G P) 0 0) + 1)) hx hb dX5_oneWeek_120 rfl ?_
                    refine r_iast (ws' := (MR E a b fs (wk S P G))) hC hD hW 1 rfl 0 rfl (by omega) (by decide) rfl (by rw [upd_0 _ (by decide)]; rfl) dX5_oneWeek_121 (fun H locs hW => ?_)
                    exact r_vret hC hQ hD hW () trivial rfl rfl dX5_oneWeek_122
                  · have c_3 : ¬ P ≤ i := fun z_ => c_3 ((nI_leI (a := P) (b := i) (by omega) (by omega)).mpr z_)
                    refine lv_aload_n hx hb dX5_oneWeek_70 rfl (lv_at hl 0 rfl) ?_
                    refine lv_iload_n hx hb dX5_oneWeek_71 rfl (lv_at hl 1 rfl) ?_
                    refine lv_iconst (v := 3) hx hb dX5_oneWeek_72 (by decide) ?_
                    refine r_callVi hC hD hW hA lkX5_57 (c_X5_its l E a b fs hf (kN (yT (wN S P G) P G) G i) i 3 (by omega) (by omega)) rfl ⟨by decide, by decide, by decide, by decide⟩ [0, 1] rfl rfl rfl (fun _ => rfl) hl.1 rfl rfl (Nat.le_of_ble_eq_true rfl) dX5_oneWeek_73 (fun r_4 _ H locs hr_4 hW => ?_)
                    have hW : Wd E A s.heap (MR E a b fs (kN (yT (wN S P G) P G) G i)) H locs := hW
                    have hr_4 : r_4 = ((kN (yT (wN S P G) P G) G i) 4 i) := hr_4
                    subst hr_4
                    refine lv_if_ne (tgt := 106) hx hb dX5_oneWeek_76 (by decide) (fun c_5 => ?_) (fun c_5 => ?_)
                    · have hW : Wd E A s.heap (MR E a b fs (kN (yT (wN S P G) P G) G (i + 1))) H locs := by rw [kN_f c_5]; exact hW
                      refine lv_iinc (v := (nI (i + 1))) (lv' := [(1, .int (nI (i + 1))), (0, .ref a)]) (k := 1) hx hb dX5_oneWeek_106 hl rfl (nI_inc i 1) (by decide) rfl (fun ls hl => ?_)
                      refine lv_goto (tgt := 60) hx hb dX5_oneWeek_109 (by decide) ?_
                      exact ih (i + 1) _ _ _ (by omega) (by omega) hW (lv_sub hl [1, 0] rfl)
                    · refine lv_aload_n hx hb dX5_oneWeek_79 rfl (lv_at hl 0 rfl) ?_
                      refine lv_iload_n hx hb dX5_oneWeek_80 rfl (lv_at hl 1 rfl) ?_
                      refine lv_iconst (v := 2) hx hb dX5_oneWeek_81 (by decide) ?_
                      refine lv_aload_n hx hb dX5_oneWeek_82 rfl (lv_at hl 0 rfl) ?_
                      refine lv_iload_n hx hb dX5_oneWeek_83 rfl (lv_at hl 1 rfl) ?_
                      refine lv_iconst (v := 2) hx hb dX5_oneWeek_84 (by decide) ?_
                      refine r_callVi hC hD hW hA lkX5_57 (c_X5_its l E a b fs hf (kN (yT (wN S P G) P G) G i) i 2 (by omega) (by omega)) rfl ⟨by decide, by decide, by decide, by decide⟩ [0, 1] rfl rfl rfl (fun _ => rfl) hl.1 rfl rfl (Nat.le_of_ble_eq_true rfl) dX5_oneWeek_85 (fun r_6 _ H locs hr_6 hW => ?_)
                      have hW : Wd E A s.heap (MR E a b fs (kN (yT (wN S P G) P G) G i)) H locs := hW
                      have hr_6 : r_6 = ((kN (yT (wN S P G) P G) G i) 3 i) := hr_6
                      subst hr_6
                      refine lv_aload_n hx hb dX5_oneWeek_88 rfl (lv_at hl 0 rfl) ?_
                      refine lv_iload_n hx hb dX5_oneWeek_89 rfl (lv_at hl 1 rfl) ?_
                      refine r_callVi hC hD hW hA lkX5_101 (c_X5_minds l E a b fs hf (kN (yT (wN S P G) P G) G i) P G (HV_kN (HV_yT (HV_wN hV G (Nat.le_refl G))) i) i (by omega)) rfl ⟨by decide, by decide, by decide, by decide⟩ [0, 1] rfl rfl rfl (fun _ => rfl) hl.1 rfl rfl (Nat.le_of_ble_eq_true rfl) dX5_oneWeek_90 (fun r_7 _ H locs hr_7 hW => ?_)
                      have hW : Wd E A s.heap (MR E a b fs (kN (yT (wN S P G) P G) G i)) H locs := hW
                      have hr_7 : r_7 = (mnd (kN (yT (wN S P G) P G) G i) i G) := hr_7
                      subst hr_7
                      refine n_iadd (v := (((kN (yT (wN S P G) P G) G i) 3 i) + (mnd (kN (yT (wN S P G) P G) G i) i G))) hx hb dX5_oneWeek_93 rfl ?_
                      refine lv_sipush (v := (-999)) hx hb dX5_oneWeek_94 (by decide) ?_
                      refine lv_sipush (v := 999) hx hb dX5_oneWeek_97 (by decide) ?_
                      refine r_callSi hC hD hW hA lkX5_134 (c_X5_held l E (((kN (yT (wN S P G) P G) G i) 3 i) + (mnd (kN (yT (wN S P G) P G) G i) i G)) (-999) 999) ⟨by decide, by decide, by decide, by decide⟩ rfl hl.1 rfl rfl (Nat.le_of_ble_eq_true rfl) dX5_oneWeek_100 (fun r_8 _ H locs hr_8 hW => ?_)
                      have hW : Wd E A s.heap (MR E a b fs (kN (yT (wN S P G) P G) G i)) H locs := hW
                      have hr_8 : r_8 = (if (((kN (yT (wN S P G) P G) G i) 3 i) + (mnd (kN (yT (wN S P G) P G) G i) i G)) < (-999) then (-999) else if 999 < (((kN (yT (wN S P G) P G) G i) 3 i) + (mnd (kN (yT (wN S P G) P G) G i) i G)) then 999 else (((kN (yT (wN S P G) P G) G i) 3 i) + (mnd (kN (yT (wN S P G) P G) G i) i G))) := hr_8
                      subst hr_8
                      refine n_top rfl ?_
                      refine r_callVv hC hD hW hA lkX5_86 (c_X5_puts l E a b fs hf (kN (yT (wN S P G) P G) G i) i 2 (hld ((kN (yT (wN S P G) P G) G i) 3 i + mnd (kN (yT (wN S P G) P G) G i) i G)) (by omega) (by omega)) rfl ⟨by decide, by decide, by decide, by decide⟩ [0, 1] rfl rfl rfl (fun _ => rfl) hl.1 rfl rfl (Nat.le_of_ble_eq_true rfl) dX5_oneWeek_103 (fun _ H locs hr_9 hW => ?_)
                      have hW : Wd E A s.heap (MR E a b fs (st (kN (yT (wN S P G) P G) G i) 3 i (hld ((kN (yT (wN S P G) P G) G i) 3 i + mnd (kN (yT (wN S P G) P G) G i) i G)))) H locs := hW
                      have hW : Wd E A s.heap (MR E a b fs (kN (yT (wN S P G) P G) G (i + 1))) H locs := by rw [kN_t c_5]; exact hW
                      refine lv_iinc (v := (nI (i + 1))) (lv' := [(1, .int (nI (i + 1))), (0, .ref a)]) (k := 1) hx hb dX5_oneWeek_106 hl rfl (nI_inc i 1) (by decide) rfl (fun ls hl => ?_)
                      refine lv_goto (tgt := 60) hx hb dX5_oneWeek_109 (by decide) ?_
                      exact ih (i + 1) _ _ _ (by omega) (by omega) hW (lv_sub hl [1, 0] rfl)
              exact L60 (P - 0 + 1) 0 _ _ _ (Nat.lt_succ_self _) (by omega) hW (lv_sub hl [1, 0] rfl)
            · have c_2 : ¬ G ≤ i := fun z_ => c_2 ((nI_leI (a := G) (b := i) (by omega) (by omega)).mpr z_)
              refine lv_aload_n hx hb dX5_oneWeek_35 rfl (lv_at hl 0 rfl) ?_
              refine r_get hC hW flX5_7 0 rfl hf dX5_oneWeek_36 ?_
              refine lv_iconst (v := 0) hx hb dX5_oneWeek_39 (by decide) ?_
              refine r_iald hC hW 1 rfl 0 rfl (by omega) (by decide) dX5_oneWeek_40 ?_
              refine n_top (enc_0 (yN (wN S P G) P G i) (by decide)) ?_
              refine n_top (congrFun (yN_row (by decide) i) 0) ?_
              refine lv_iconst (v := 2) hx hb dX5_oneWeek_41 (by decide) ?_
              refine n_irem (v := ((wN S P G 0 0) - (wN S P G 0 0) / 2 * 2)) hx hb dX5_oneWeek_42 (by decide) rfl ?_
              refine lv_iconst (v := 1) hx hb dX5_oneWeek_43 (by decide) ?_
              refine lv_icmp_ne (tgt := 58) hx hb dX5_oneWeek_44 (by decide) (fun c_10 => ?_) (fun c_10 => ?_)
              · have hW : Wd E A s.heap (MR E a b fs (yT (wN S P G) P G)) H locs := by rw [yT_no c_10 hod]; exact hW
                refine lv_iconst (v := 0) hx hb dX5_oneWeek_58 (by decide) ?_
                refine lv_istore_n (lv' := [(1, .int 0), (0, .ref a)]) hx hb dX5_oneWeek_59 rfl hl (by decide) rfl (fun ls hl => ?_)
                have L60 : ∀ (n_ : Nat) (i : Nat) (H : Heap) (locs : List Loc) (ls : Array Slot), P - i < n_ → i ≤ P → Wd E A s.heap (MR E a b fs (kN (yT (wN S P G) P G) G i)) H locs → lv_has ls 2 [(0, .ref a), (1, .int (nI i))] → W p l e R s m args below meth c H locs 0 0 Q (F0 m 60 ls []) := by
                  intro n_
                  induction n_ with
                  | zero => intro i H locs ls hm; exact absurd hm (Nat.not_lt_zero _)
                  | succ n_ ih =>
                    intro i H locs ls hm hi hW hl
                    refine lv_iload_n hx hb dX5_oneWeek_60 rfl (lv_at hl 1 rfl) ?_
                    refine lv_aload_n hx hb dX5_oneWeek_61 rfl (lv_at hl 0 rfl) ?_
                    refine r_get hC hW flX5_7 0 rfl hf dX5_oneWeek_62 ?_
                    refine lv_iconst (v := 2) hx hb dX5_oneWeek_65 (by decide) ?_
                    refine r_iald hC hW 1 rfl 2 rfl (by omega) (by decide) dX5_oneWeek_66 ?_
                    refine n_top (enc_0 (kN (yT (wN S P G) P G) G i) (by decide)) ?_
                    refine n_top (HV_kN (HV_yT (HV_wN hV G (Nat.le_refl G))) i).p ?_
                    refine lv_icmp_ge (tgt := 112) hx hb dX5_oneWeek_67 (by decide) (fun c_11 => ?_) (fun c_11 => ?_)
                    · have c_11 : P ≤ i := (nI_leI (a := P) (b := i) (by omega) (by omega)).mp c_11
                      have hW : Wd E A s.heap (MR E a b fs (kN (yT (wN S P G) P G) G P)) H locs := by rw [show kN (yT (wN S P G) P G) G P = kN (yT (wN S P G) P G) G i by rw [show i = P by omega]]; exact hW
                      refine lv_aload_n hx hb dX5_oneWeek_112 rfl (lv_at hl 0 rfl) ?_
                      refine r_get hC hW flX5_7 0 rfl hf dX5_oneWeek_113 ?_
                      refine lv_iconst (v := 0) hx hb dX5_oneWeek_116 (by decide) ?_
                      refine lv_dup2_11 hx hb dX5_oneWeek_117 rfl rfl ?_
                      refine r_iald hC hW 1 rfl 0 rfl (by omega) (by decide) dX5_oneWeek_118 ?_
                      refine n_top (enc_0 (kN (yT (wN S P G) P G) G P) (by decide)) ?_
                      refine lv_iconst (v := 1) hx hb dX5_oneWeek_119 (by decide) ?_
                      refine n_iadd (v := (((kN (yT (wN S P G) P G) G P) 0 0) + 1)) hx hb dX5_oneWeek_120 rfl ?_
                      refine r_iast (ws' := (MR E a b fs (wk S P G))) hC hD hW 1 rfl 0 rfl (by omega) (by decide) rfl (by rw [upd_0 _ (by decide)]; rfl) dX5_oneWeek_121 (fun H locs hW => ?_)
                      exact r_vret hC hQ hD hW () trivial rfl rfl dX5_oneWeek_122
                    · have c_11 : ¬ P ≤ i := fun z_ => c_11 ((nI_leI (a := P) (b := i) (by omega) (by omega)).mpr z_)
                      refine lv_aload_n hx hb dX5_oneWeek_70 rfl (lv_at hl 0 rfl) ?_
                      refine lv_iload_n hx hb dX5_oneWeek_71 rfl (lv_at hl 1 rfl) ?_
                      refine lv_iconst (v := 3) hx hb dX5_oneWeek_72 (by decide) ?_
                      refine r_callVi hC hD hW hA lkX5_57 (c_X5_its l E a b fs hf (kN (yT (wN S P G) P G) G i) i 3 (by omega) (by omega)) rfl ⟨by decide, by decide, by decide, by decide⟩ [0, 1] rfl rfl rfl (fun _ => rfl) hl.1 rfl rfl (Nat.le_of_ble_eq_true rfl) dX5_oneWeek_73 (fun r_12 _ H locs hr_12 hW => ?_)
                      have hW : Wd E A s.heap (MR E a b fs (kN (yT (wN S P G) P G) G i)) H locs := hW
                      have hr_12 : r_12 = ((kN (yT (wN S P G) P G) G i) 4 i) := hr_12
                      subst hr_12
                      refine lv_if_ne (tgt := 106) hx hb dX5_oneWeek_76 (by decide) (fun c_13 => ?_) (fun c_13 => ?_)
                      · have hW : Wd E A s.heap (MR E a b fs (kN (yT (wN S P G) P G) G (i + 1))) H locs := by rw [kN_f c_13]; exact hW
                        refine lv_iinc (v := (nI (i + 1))) (lv' := [(1, .int (nI (i + 1))), (0, .ref a)]) (k := 1) hx hb dX5_oneWeek_106 hl rfl (nI_inc i 1) (by decide) rfl (fun ls hl => ?_)
                        refine lv_goto (tgt := 60) hx hb dX5_oneWeek_109 (by decide) ?_
                        exact ih (i + 1) _ _ _ (by omega) (by omega) hW (lv_sub hl [1, 0] rfl)
                      · refine lv_aload_n hx hb dX5_oneWeek_79 rfl (lv_at hl 0 rfl) ?_
                        refine lv_iload_n hx hb dX5_oneWeek_80 rfl (lv_at hl 1 rfl) ?_
                        refine lv_iconst (v := 2) hx hb dX5_oneWeek_81 (by decide) ?_
                        refine lv_aload_n hx hb dX5_oneWeek_82 rfl (lv_at hl 0 rfl) ?_
                        refine lv_iload_n hx hb dX5_oneWeek_83 rfl (lv_at hl 1 rfl) ?_
                        refine lv_iconst (v := 2) hx hb dX5_oneWeek_84 (by decide) ?_
                        refine r_callVi hC hD hW hA lkX5_57 (c_X5_its l E a b fs hf (kN (yT (wN S P G) P G) G i) i 2 (by omega) (by omega)) rfl ⟨by decide, by decide, by decide, by decide⟩ [0, 1] rfl rfl rfl (fun _ => rfl) hl.1 rfl rfl (Nat.le_of_ble_eq_true rfl) dX5_oneWeek_85 (fun r_14 _ H locs hr_14 hW => ?_)
                        have hW : Wd E A s.heap (MR E a b fs (kN (yT (wN S P G) P G) G i)) H locs := hW
                        have hr_14 : r_14 = ((kN (yT (wN S P G) P G) G i) 3 i) := hr_14
                        subst hr_14
                        refine lv_aload_n hx hb dX5_oneWeek_88 rfl (lv_at hl 0 rfl) ?_
                        refine lv_iload_n hx hb dX5_oneWeek_89 rfl (lv_at hl 1 rfl) ?_
                        refine r_callVi hC hD hW hA lkX5_101 (c_X5_minds l E a b fs hf (kN (yT (wN S P G) P G) G i) P G (HV_kN (HV_yT (HV_wN hV G (Nat.le_refl G))) i) i (by omega)) rfl ⟨by decide, by decide, by decide, by decide⟩ [0, 1] rfl rfl rfl (fun _ => rfl) hl.1 rfl rfl (Nat.le_of_ble_eq_true rfl) dX5_oneWeek_90 (fun r_15 _ H locs hr_15 hW => ?_)
                        have hW : Wd E A s.heap (MR E a b fs (kN (yT (wN S P G) P G) G i)) H locs := hW
                        have hr_15 : r_15 = (mnd (kN (yT (wN S P G) P G) G i) i G) := hr_15
                        subst hr_15
                        refine n_iadd (v := (((kN (yT (wN S P G) P G) G i) 3 i) + (mnd (kN (yT (wN S P G) P G) G i) i G))) hx hb dX5_oneWeek_93 rfl ?_
                        refine lv_sipush (v := (-999)) hx hb dX5_oneWeek_94 (by decide) ?_
                        refine lv_sipush (v := 999) hx hb dX5_oneWeek_97 (by decide) ?_
                        refine r_callSi hC hD hW hA lkX5_134 (c_X5_held l E (((kN (yT (wN S P G) P G) G i) 3 i) + (mnd (kN (yT (wN S P G) P G) G i) i G)) (-999) 999) ⟨by decide, by decide, by decide, by decide⟩ rfl hl.1 rfl rfl (Nat.le_of_ble_eq_true rfl) dX5_oneWeek_100 (fun r_16 _ H locs hr_16 hW => ?_)
                        have hW : Wd E A s.heap (MR E a b fs (kN (yT (wN S P G) P G) G i)) H locs := hW
                        have hr_16 : r_16 = (if (((kN (yT (wN S P G) P G) G i) 3 i) + (mnd (kN (yT (wN S P G) P G) G i) i G)) < (-999) then (-999) else if 999 < (((kN (yT (wN S P G) P G) G i) 3 i) + (mnd (kN (yT (wN S P G) P G) G i) i G)) then 999 else (((kN (yT (wN S P G) P G) G i) 3 i) + (mnd (kN (yT (wN S P G) P G) G i) i G))) := hr_16
                        subst hr_16
                        refine n_top rfl ?_
                        refine r_callVv hC hD hW hA lkX5_86 (c_X5_puts l E a b fs hf (kN (yT (wN S P G) P G) G i) i 2 (hld ((kN (yT (wN S P G) P G) G i) 3 i + mnd (kN (yT (wN S P G) P G) G i) i G)) (by omega) (by omega)) rfl ⟨by decide, by decide, by decide, by decide⟩ [0, 1] rfl rfl rfl (fun _ => rfl) hl.1 rfl rfl (Nat.le_of_ble_eq_true rfl) dX5_oneWeek_103 (fun _ H locs hr_17 hW => ?_)
                        have hW : Wd E A s.heap (MR E a b fs (st (kN (yT (wN S P G) P G) G i) 3 i (hld ((kN (yT (wN S P G) P G) G i) 3 i + mnd (kN (yT (wN S P G) P G) G i) i G)))) H locs := hW
                        have hW : Wd E A s.heap (MR E a b fs (kN (yT (wN S P G) P G) G (i + 1))) H locs := by rw [kN_t c_13]; exact hW
                        refine lv_iinc (v := (nI (i + 1))) (lv' := [(1, .int (nI (i + 1))), (0, .ref a)]) (k := 1) hx hb dX5_oneWeek_106 hl rfl (nI_inc i 1) (by decide) rfl (fun ls hl => ?_)
                        refine lv_goto (tgt := 60) hx hb dX5_oneWeek_109 (by decide) ?_
                        exact ih (i + 1) _ _ _ (by omega) (by omega) hW (lv_sub hl [1, 0] rfl)
                exact L60 (P - 0 + 1) 0 _ _ _ (Nat.lt_succ_self _) (by omega) hW (lv_sub hl [1, 0] rfl)
              · refine lv_aload_n hx hb dX5_oneWeek_47 rfl (lv_at hl 0 rfl) ?_
                refine lv_iload_n hx hb dX5_oneWeek_48 rfl (lv_at hl 1 rfl) ?_
                refine r_callVv hC hD hW hA lkX5_142 (c_X5_lies l E a b fs hf (yN (wN S P G) P G i) P G (HV_yN (HV_wN hV G (Nat.le_refl G)) i) i (by omega)) rfl ⟨by decide, by decide, by decide, by decide⟩ [0, 1] rfl rfl rfl (fun _ => rfl) hl.1 rfl rfl (Nat.le_of_ble_eq_true rfl) dX5_oneWeek_49 (fun _ H locs hr_18 hW => ?_)
                have hW : Wd E A s.heap (MR E a b fs (yN (wN S P G) P G (i + 1))) H locs := hW
                refine lv_iinc (v := (nI (i + 1))) (lv' := [(1, .int (nI (i + 1))), (0, .ref a)]) (k := 1) hx hb dX5_oneWeek_52 hl rfl (nI_inc i 1) (by decide) rfl (fun ls hl => ?_)
                refine lv_goto (tgt := 25) hx hb dX5_oneWeek_55 (by decide) ?_
                exact ih (i + 1) _ _ _ (by omega) (by omega) (Or.inr c_10) hW (lv_sub hl [1, 0] rfl)
        exact L25 (G - 0 + 1) 0 _ _ _ (Nat.lt_succ_self _) (by omega) (Or.inl rfl) hW (lv_sub hl [1, 0] rfl)
      · have c_1 : ¬ G ≤ i := fun z_ => c_1 ((nI_leI (a := G) (b := i) (by omega) (by omega)).mpr z_)
        refine lv_aload_n hx hb dX5_oneWeek_12 rfl (lv_at hl 0 rfl) ?_
        refine lv_iload_n hx hb dX5_oneWeek_13 rfl (lv_at hl 1 rfl) ?_
        refine r_callVv hC hD hW hA lkX5_138 (c_X5_washes l E a b fs hf (wN S P i) P G (HV_wN hV i hi) i (by omega)) rfl ⟨by decide, by decide, by decide, by decide⟩ [0, 1] rfl rfl rfl (fun _ => rfl) hl.1 rfl rfl (Nat.le_of_ble_eq_true rfl) dX5_oneWeek_14 (fun _ H locs hr_19 hW => ?_)
        have hW : Wd E A s.heap (MR E a b fs (wN S P (i + 1))) H locs := hW
        refine lv_iinc (v := (nI (i + 1))) (lv' := [(1, .int (nI (i + 1))), (0, .ref a)]) (k := 1) hx hb dX5_oneWeek_17 hl rfl (nI_inc i 1) (by decide) rfl (fun ls hl => ?_)
        refine lv_goto (tgt := 2) hx hb dX5_oneWeek_20 (by decide) ?_
        exact ih (i + 1) _ _ _ (by omega) (by omega) hW (lv_sub hl [1, 0] rfl)
  exact L2 (G - 0 + 1) 0 _ _ _ (Nat.lt_succ_self _) (by omega) hW (lv_sub hl [1, 0] rfl)
set_option maxHeartbeats 4000000 in
set_option maxRecDepth 100000 in
theorem c_X5_passes (l : Launch) (E : Ev) (a : Nat) (b : Nat) (fs : List Value) (hf : fs[0]? = some (.ref b)) (S : HS) (P : Nat) (G : Nat) (hV : HV S P G) (n : Nat) (hn : n ≤ 100) : MV l E yX5_passes cX5_passes 3 5 113 0 0 [.ref a, .int (nI n)] (MR E a b fs S) (fun (_ : Unit) => True) (fun (_ : Unit) => (MR E a b fs (wks S P G n))) := by
  refine MV_intro RX5 (by decide) rfl (Nat.le_of_ble_eq_true rfl) ?_
  intro p e R s m args below meth c A Q hQ hC hnm hD hW hA ls hl
  have hx := hC.1
  have hb := hC.2.1
  have hW : Wd E A s.heap (MR E a b fs S) s.heap [] := hW
  have hl : lv_has ls 3 [(0, .ref a), (1, .int (nI n))] := hl
  have hP := hV.p
  have hP1 := hV.p6
  have hG := hV.g
  have hG1 := hV.g10
  refine lv_iconst (v := 0) hx hb dX5_passes_0 (by decide) ?_
  refine lv_istore_n (lv' := [(2, .int 0), (0, .ref a), (1, .int (nI n))]) hx hb dX5_passes_1 rfl hl (by decide) rfl (fun ls hl => ?_)
  have L2 : ∀ (n_ : Nat) (i : Nat) (H : Heap) (locs : List Loc) (ls : Array Slot), n - i < n_ → i ≤ n → Wd E A s.heap (MR E a b fs (wks S P G i)) H locs → lv_has ls 3 [(0, .ref a), (1, .int (nI n)), (2, .int (nI i))] → W p l e R s m args below meth c H locs 0 0 Q (F0 m 2 ls []) := by
    intro n_
    induction n_ with
    | zero => intro i H locs ls hm; exact absurd hm (Nat.not_lt_zero _)
    | succ n_ ih =>
      intro i H locs ls hm hi hW hl
      refine lv_iload_n hx hb dX5_passes_2 rfl (lv_at hl 2 rfl) ?_
      refine lv_iload_n hx hb dX5_passes_3 rfl (lv_at hl 1 rfl) ?_
      refine lv_icmp_ge (tgt := 17) hx hb dX5_passes_4 (by decide) (fun c_1 => ?_) (fun c_1 => ?_)
      · have c_1 : n ≤ i := (nI_leI (a := n) (b := i) (by omega) (by omega)).mp c_1
        exact r_vret hC hQ hD hW () trivial (by rw [show i = n by omega]) rfl dX5_passes_17
      · have c_1 : ¬ n ≤ i := fun z_ => c_1 ((nI_leI (a := n) (b := i) (by omega) (by omega)).mpr z_)
        refine lv_aload_n hx hb dX5_passes_7 rfl (lv_at hl 0 rfl) ?_
        refine r_callVv hC hD hW hA lkX5_145 (c_X5_oneWeek l E a b fs hf (wks S P G i) P G (HV_wks hV i)) rfl ⟨by decide, by decide, by decide, by decide⟩ [0, 1] rfl rfl rfl (fun _ => rfl) hl.1 rfl rfl (Nat.le_of_ble_eq_true rfl) dX5_passes_8 (fun _ H locs hr_2 hW => ?_)
        have hW : Wd E A s.heap (MR E a b fs (wks S P G (i + 1))) H locs := hW
        refine lv_iinc (v := (nI (i + 1))) (lv' := [(2, .int (nI (i + 1))), (0, .ref a), (1, .int (nI n))]) (k := 2) hx hb dX5_passes_11 hl rfl (nI_inc i 1) (by decide) rfl (fun ls hl => ?_)
        refine lv_goto (tgt := 2) hx hb dX5_passes_14 (by decide) ?_
        exact ih (i + 1) _ _ _ (by omega) (by omega) hW (lv_sub hl [1, 2, 0] rfl)
  exact L2 (n - 0 + 1) 0 _ _ _ (Nat.lt_succ_self _) (by omega) hW (lv_sub hl [1, 2, 0] rfl)
end
