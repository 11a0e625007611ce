-- ===== PART A: goes FIRST, ahead of the names: the tables' words, and 'selects' of the private methods out of them =====
/-- a private method of a class that the tables say can be made, by its rows of tables_1 -/
def lw_okq (q : MethodName × Nat) : Prop := (q.1.cls ≠ "java/lang/invoke/MethodHandle" ∧ q.1.cls ≠ "java/lang/invoke/VarHandle") ∧ Cond.instantiable q.1.cls q.2 ∈ tables_1 ∧ Cond.privateMethod q.1 ∈ tables_1 ∧ Cond.instanceMethod q.1 ∈ tables_1
theorem lw_p0 : lw_okq (⟨"MendedWithTheWord$Reade\x72", "look", "()V"⟩, 10) := ⟨⟨by decide +kernel, by decide +kernel⟩, List.mem_of_getElem? (i := 51) (by decide +kernel), List.mem_of_getElem? (i := 224) (by decide +kernel), List.mem_of_getElem? (i := 225) (by decide +kernel)⟩
theorem lw_p1 : lw_okq (⟨"MendedWithTheWord$Reade\x72", "lookAtWord", "()V"⟩, 10) := ⟨⟨by decide +kernel, by decide +kernel⟩, List.mem_of_getElem? (i := 51) (by decide +kernel), List.mem_of_getElem? (i := 231) (by decide +kernel), List.mem_of_getElem? (i := 232) (by decide +kernel)⟩
theorem lw_p2 : lw_okq (⟨"MendedWithTheWord$Reade\x72", "isWord", "(Ljava/lang/String;)Z"⟩, 10) := ⟨⟨by decide +kernel, by decide +kernel⟩, List.mem_of_getElem? (i := 51) (by decide +kernel), List.mem_of_getElem? (i := 236) (by decide +kernel), List.mem_of_getElem? (i := 237) (by decide +kernel)⟩
theorem lw_p3 : lw_okq (⟨"MendedWithTheWord$Reade\x72", "lookAtDigits", "()V"⟩, 10) := ⟨⟨by decide +kernel, by decide +kernel⟩, List.mem_of_getElem? (i := 51) (by decide +kernel), List.mem_of_getElem? (i := 256) (by decide +kernel), List.mem_of_getElem? (i := 257) (by decide +kernel)⟩
theorem lw_p4 : lw_okq (⟨"MendedWithTheWord$Reade\x72", "readOrs", "()Z"⟩, 10) := ⟨⟨by decide +kernel, by decide +kernel⟩, List.mem_of_getElem? (i := 51) (by decide +kernel), List.mem_of_getElem? (i := 263) (by decide +kernel), List.mem_of_getElem? (i := 264) (by decide +kernel)⟩
theorem lw_p5 : lw_okq (⟨"MendedWithTheWord$Reade\x72", "readAnds", "()Z"⟩, 10) := ⟨⟨by decide +kernel, by decide +kernel⟩, List.mem_of_getElem? (i := 51) (by decide +kernel), List.mem_of_getElem? (i := 267) (by decide +kernel), List.mem_of_getElem? (i := 268) (by decide +kernel)⟩
theorem lw_p6 : lw_okq (⟨"MendedWithTheWord$Reade\x72", "readNot", "()Z"⟩, 10) := ⟨⟨by decide +kernel, by decide +kernel⟩, List.mem_of_getElem? (i := 51) (by decide +kernel), List.mem_of_getElem? (i := 271) (by decide +kernel), List.mem_of_getElem? (i := 272) (by decide +kernel)⟩
theorem lw_p7 : lw_okq (⟨"MendedWithTheWord$Reade\x72", "readCompared", "()Z"⟩, 10) := ⟨⟨by decide +kernel, by decide +kernel⟩, List.mem_of_getElem? (i := 51) (by decide +kernel), List.mem_of_getElem? (i := 275) (by decide +kernel), List.mem_of_getElem? (i := 276) (by decide +kernel)⟩
theorem lw_p8 : lw_okq (⟨"MendedWithTheWord$Reade\x72", "readSum", "()Z"⟩, 10) := ⟨⟨by decide +kernel, by decide +kernel⟩, List.mem_of_getElem? (i := 51) (by decide +kernel), List.mem_of_getElem? (i := 279) (by decide +kernel), List.mem_of_getElem? (i := 280) (by decide +kernel)⟩
theorem lw_p9 : lw_okq (⟨"MendedWithTheWord$Reade\x72", "readTerm", "()Z"⟩, 10) := ⟨⟨by decide +kernel, by decide +kernel⟩, List.mem_of_getElem? (i := 51) (by decide +kernel), List.mem_of_getElem? (i := 283) (by decide +kernel), List.mem_of_getElem? (i := 284) (by decide +kernel)⟩
theorem lw_p10 : lw_okq (⟨"MendedWithTheWord$Reade\x72", "readOne", "()Z"⟩, 10) := ⟨⟨by decide +kernel, by decide +kernel⟩, List.mem_of_getElem? (i := 51) (by decide +kernel), List.mem_of_getElem? (i := 287) (by decide +kernel), List.mem_of_getElem? (i := 288) (by decide +kernel)⟩
theorem lw_p11 : lw_okq (⟨"MendedWithTheWord$Reade\x72", "write", "(I)V"⟩, 10) := ⟨⟨by decide +kernel, by decide +kernel⟩, List.mem_of_getElem? (i := 51) (by decide +kernel), List.mem_of_getElem? (i := 294) (by decide +kernel), List.mem_of_getElem? (i := 295) (by decide +kernel)⟩
theorem lw_p12 : lw_okq (⟨"MendedWithTheWord$Reade\x72", "readInside", "()Z"⟩, 10) := ⟨⟨by decide +kernel, by decide +kernel⟩, List.mem_of_getElem? (i := 51) (by decide +kernel), List.mem_of_getElem? (i := 298) (by decide +kernel), List.mem_of_getElem? (i := 299) (by decide +kernel)⟩
theorem lw_p13 : lw_okq (⟨"MendedWithTheWord", "least", "(I)I"⟩, 7) := ⟨⟨by decide +kernel, by decide +kernel⟩, List.mem_of_getElem? (i := 19) (by decide +kernel), List.mem_of_getElem? (i := 382) (by decide +kernel), List.mem_of_getElem? (i := 383) (by decide +kernel)⟩
theorem lw_p14 : lw_okq (⟨"MendedWithTheWord", "most", "(I)I"⟩, 7) := ⟨⟨by decide +kernel, by decide +kernel⟩, List.mem_of_getElem? (i := 19) (by decide +kernel), List.mem_of_getElem? (i := 386) (by decide +kernel), List.mem_of_getElem? (i := 387) (by decide +kernel)⟩
theorem lw_p15 : lw_okq (⟨"MendedWithTheWord$Vase", "telling", "(II)I"⟩, 14) := ⟨⟨by decide +kernel, by decide +kernel⟩, List.mem_of_getElem? (i := 89) (by decide +kernel), List.mem_of_getElem? (i := 399) (by decide +kernel), List.mem_of_getElem? (i := 400) (by decide +kernel)⟩
def lw_privs_1 : List (MethodName × Nat) := [(⟨"MendedWithTheWord$Reade\x72", "look", "()V"⟩, 10), (⟨"MendedWithTheWord$Reade\x72", "lookAtWord", "()V"⟩, 10), (⟨"MendedWithTheWord$Reade\x72", "isWord", "(Ljava/lang/String;)Z"⟩, 10), (⟨"MendedWithTheWord$Reade\x72", "lookAtDigits", "()V"⟩, 10), (⟨"MendedWithTheWord$Reade\x72", "readOrs", "()Z"⟩, 10), (⟨"MendedWithTheWord$Reade\x72", "readAnds", "()Z"⟩, 10), (⟨"MendedWithTheWord$Reade\x72", "readNot", "()Z"⟩, 10), (⟨"MendedWithTheWord$Reade\x72", "readCompared", "()Z"⟩, 10), (⟨"MendedWithTheWord$Reade\x72", "readSum", "()Z"⟩, 10), (⟨"MendedWithTheWord$Reade\x72", "readTerm", "()Z"⟩, 10), (⟨"MendedWithTheWord$Reade\x72", "readOne", "()Z"⟩, 10), (⟨"MendedWithTheWord$Reade\x72", "write", "(I)V"⟩, 10), (⟨"MendedWithTheWord$Reade\x72", "readInside", "()Z"⟩, 10), (⟨"MendedWithTheWord", "least", "(I)I"⟩, 7), (⟨"MendedWithTheWord", "most", "(I)I"⟩, 7), (⟨"MendedWithTheWord$Vase", "telling", "(II)I"⟩, 14)]
theorem lw_r1 : ∀ q ∈ lw_privs_1, lw_okq q := List.forall_mem_cons.mpr ⟨lw_p0, List.forall_mem_cons.mpr ⟨lw_p1, List.forall_mem_cons.mpr ⟨lw_p2, List.forall_mem_cons.mpr ⟨lw_p3, List.forall_mem_cons.mpr ⟨lw_p4, List.forall_mem_cons.mpr ⟨lw_p5, List.forall_mem_cons.mpr ⟨lw_p6, List.forall_mem_cons.mpr ⟨lw_p7, List.forall_mem_cons.mpr ⟨lw_p8, List.forall_mem_cons.mpr ⟨lw_p9, List.forall_mem_cons.mpr ⟨lw_p10, List.forall_mem_cons.mpr ⟨lw_p11, List.forall_mem_cons.mpr ⟨lw_p12, List.forall_mem_cons.mpr ⟨lw_p13, List.forall_mem_cons.mpr ⟨lw_p14, List.forall_mem_cons.mpr ⟨lw_p15, fun _ h => absurd h List.not_mem_nil⟩⟩⟩⟩⟩⟩⟩⟩⟩⟩⟩⟩⟩⟩⟩⟩
theorem lw_p16 : lw_okq (⟨"MendedWithTheWord$Rules", "worth", "(III)I"⟩, 4) := ⟨⟨by decide +kernel, by decide +kernel⟩, List.mem_of_getElem? (i := 27) (by decide +kernel), List.mem_of_getElem? (i := 426) (by decide +kernel), List.mem_of_getElem? (i := 427) (by decide +kernel)⟩
theorem lw_p17 : lw_okq (⟨"MendedWithTheWord$Vase", "holdsFo\x72", "(I)I"⟩, 14) := ⟨⟨by decide +kernel, by decide +kernel⟩, List.mem_of_getElem? (i := 89) (by decide +kernel), List.mem_of_getElem? (i := 510) (by decide +kernel), List.mem_of_getElem? (i := 511) (by decide +kernel)⟩
theorem lw_p18 : lw_okq (⟨"MendedWithTheWord$Vase", "hasItsPieces", "(I)Z"⟩, 14) := ⟨⟨by decide +kernel, by decide +kernel⟩, List.mem_of_getElem? (i := 89) (by decide +kernel), List.mem_of_getElem? (i := 533) (by decide +kernel), List.mem_of_getElem? (i := 534) (by decide +kernel)⟩
theorem lw_p19 : lw_okq (⟨"MendedWithTheWordModel", "spell", "(IIIIIIIII)V"⟩, 47) := ⟨⟨by decide +kernel, by decide +kernel⟩, List.mem_of_getElem? (i := 707) (by decide +kernel), List.mem_of_getElem? (i := 713) (by decide +kernel), List.mem_of_getElem? (i := 714) (by decide +kernel)⟩
theorem lw_p20 : lw_okq (⟨"MendedWithTheWordModel", "isOf", "(II)Z"⟩, 47) := ⟨⟨by decide +kernel, by decide +kernel⟩, List.mem_of_getElem? (i := 707) (by decide +kernel), List.mem_of_getElem? (i := 867) (by decide +kernel), List.mem_of_getElem? (i := 868) (by decide +kernel)⟩
theorem lw_p21 : lw_okq (⟨"MendedWithTheWordModel", "isOne", "(I)Z"⟩, 47) := ⟨⟨by decide +kernel, by decide +kernel⟩, List.mem_of_getElem? (i := 707) (by decide +kernel), List.mem_of_getElem? (i := 871) (by decide +kernel), List.mem_of_getElem? (i := 872) (by decide +kernel)⟩
theorem lw_p22 : lw_okq (⟨"MendedWithTheWordModel", "isSeam", "(I)Z"⟩, 47) := ⟨⟨by decide +kernel, by decide +kernel⟩, List.mem_of_getElem? (i := 707) (by decide +kernel), List.mem_of_getElem? (i := 875) (by decide +kernel), List.mem_of_getElem? (i := 876) (by decide +kernel)⟩
theorem lw_p23 : lw_okq (⟨"MendedWithTheWordModel", "isValue", "(II)Z"⟩, 47) := ⟨⟨by decide +kernel, by decide +kernel⟩, List.mem_of_getElem? (i := 707) (by decide +kernel), List.mem_of_getElem? (i := 879) (by decide +kernel), List.mem_of_getElem? (i := 880) (by decide +kernel)⟩
theorem lw_p24 : lw_okq (⟨"MendedWithTheWordModel", "saysOf", "(III)I"⟩, 47) := ⟨⟨by decide +kernel, by decide +kernel⟩, List.mem_of_getElem? (i := 707) (by decide +kernel), List.mem_of_getElem? (i := 891) (by decide +kernel), List.mem_of_getElem? (i := 892) (by decide +kernel)⟩
theorem lw_p25 : lw_okq (⟨"MendedWithTheWordModel", "asks", "(IIII)I"⟩, 47) := ⟨⟨by decide +kernel, by decide +kernel⟩, List.mem_of_getElem? (i := 707) (by decide +kernel), List.mem_of_getElem? (i := 895) (by decide +kernel), List.mem_of_getElem? (i := 896) (by decide +kernel)⟩
theorem lw_p26 : lw_okq (⟨"MendedWithTheWordModel", "mendedMany", "()I"⟩, 47) := ⟨⟨by decide +kernel, by decide +kernel⟩, List.mem_of_getElem? (i := 707) (by decide +kernel), List.mem_of_getElem? (i := 899) (by decide +kernel), List.mem_of_getElem? (i := 900) (by decide +kernel)⟩
theorem lw_p27 : lw_okq (⟨"MendedWithTheWordModel", "read", "(II)I"⟩, 47) := ⟨⟨by decide +kernel, by decide +kernel⟩, List.mem_of_getElem? (i := 707) (by decide +kernel), List.mem_of_getElem? (i := 903) (by decide +kernel), List.mem_of_getElem? (i := 904) (by decide +kernel)⟩
theorem lw_p28 : lw_okq (⟨"MendedWithTheWordModel", "next", "()V"⟩, 47) := ⟨⟨by decide +kernel, by decide +kernel⟩, List.mem_of_getElem? (i := 707) (by decide +kernel), List.mem_of_getElem? (i := 907) (by decide +kernel), List.mem_of_getElem? (i := 908) (by decide +kernel)⟩
theorem lw_p29 : lw_okq (⟨"MendedWithTheWordModel", "byteAt", "(I)I"⟩, 47) := ⟨⟨by decide +kernel, by decide +kernel⟩, List.mem_of_getElem? (i := 707) (by decide +kernel), List.mem_of_getElem? (i := 911) (by decide +kernel), List.mem_of_getElem? (i := 912) (by decide +kernel)⟩
theorem lw_p30 : lw_okq (⟨"MendedWithTheWordModel", "isWord", "(IIIIIIII)Z"⟩, 47) := ⟨⟨by decide +kernel, by decide +kernel⟩, List.mem_of_getElem? (i := 707) (by decide +kernel), List.mem_of_getElem? (i := 920) (by decide +kernel), List.mem_of_getElem? (i := 921) (by decide +kernel)⟩
theorem lw_p31 : lw_okq (⟨"MendedWithTheWordModel", "isLette\x72", "(II)Z"⟩, 47) := ⟨⟨by decide +kernel, by decide +kernel⟩, List.mem_of_getElem? (i := 707) (by decide +kernel), List.mem_of_getElem? (i := 924) (by decide +kernel), List.mem_of_getElem? (i := 925) (by decide +kernel)⟩
def lw_privs_2 : List (MethodName × Nat) := [(⟨"MendedWithTheWord$Rules", "worth", "(III)I"⟩, 4), (⟨"MendedWithTheWord$Vase", "holdsFo\x72", "(I)I"⟩, 14), (⟨"MendedWithTheWord$Vase", "hasItsPieces", "(I)Z"⟩, 14), (⟨"MendedWithTheWordModel", "spell", "(IIIIIIIII)V"⟩, 47), (⟨"MendedWithTheWordModel", "isOf", "(II)Z"⟩, 47), (⟨"MendedWithTheWordModel", "isOne", "(I)Z"⟩, 47), (⟨"MendedWithTheWordModel", "isSeam", "(I)Z"⟩, 47), (⟨"MendedWithTheWordModel", "isValue", "(II)Z"⟩, 47), (⟨"MendedWithTheWordModel", "saysOf", "(III)I"⟩, 47), (⟨"MendedWithTheWordModel", "asks", "(IIII)I"⟩, 47), (⟨"MendedWithTheWordModel", "mendedMany", "()I"⟩, 47), (⟨"MendedWithTheWordModel", "read", "(II)I"⟩, 47), (⟨"MendedWithTheWordModel", "next", "()V"⟩, 47), (⟨"MendedWithTheWordModel", "byteAt", "(I)I"⟩, 47), (⟨"MendedWithTheWordModel", "isWord", "(IIIIIIII)Z"⟩, 47), (⟨"MendedWithTheWordModel", "isLette\x72", "(II)Z"⟩, 47)]
theorem lw_r2 : ∀ q ∈ lw_privs_2, lw_okq q := List.forall_mem_cons.mpr ⟨lw_p16, List.forall_mem_cons.mpr ⟨lw_p17, List.forall_mem_cons.mpr ⟨lw_p18, List.forall_mem_cons.mpr ⟨lw_p19, List.forall_mem_cons.mpr ⟨lw_p20, List.forall_mem_cons.mpr ⟨lw_p21, List.forall_mem_cons.mpr ⟨lw_p22, List.forall_mem_cons.mpr ⟨lw_p23, List.forall_mem_cons.mpr ⟨lw_p24, List.forall_mem_cons.mpr ⟨lw_p25, List.forall_mem_cons.mpr ⟨lw_p26, List.forall_mem_cons.mpr ⟨lw_p27, List.forall_mem_cons.mpr ⟨lw_p28, List.forall_mem_cons.mpr ⟨lw_p29, List.forall_mem_cons.mpr ⟨lw_p30, List.forall_mem_cons.mpr ⟨lw_p31, fun _ h => absurd h List.not_mem_nil⟩⟩⟩⟩⟩⟩⟩⟩⟩⟩⟩⟩⟩⟩⟩⟩
theorem lw_p32 : lw_okq (⟨"MendedWithTheWordModel", "part", "(Z)I"⟩, 47) := ⟨⟨by decide +kernel, by decide +kernel⟩, List.mem_of_getElem? (i := 707) (by decide +kernel), List.mem_of_getElem? (i := 928) (by decide +kernel), List.mem_of_getElem? (i := 929) (by decide +kernel)⟩
theorem lw_p33 : lw_okq (⟨"MendedWithTheWordModel", "fail", "()V"⟩, 47) := ⟨⟨by decide +kernel, by decide +kernel⟩, List.mem_of_getElem? (i := 707) (by decide +kernel), List.mem_of_getElem? (i := 932) (by decide +kernel), List.mem_of_getElem? (i := 933) (by decide +kernel)⟩
theorem lw_p34 : lw_okq (⟨"MendedWithTheWordModel", "either0", "()I"⟩, 47) := ⟨⟨by decide +kernel, by decide +kernel⟩, List.mem_of_getElem? (i := 707) (by decide +kernel), List.mem_of_getElem? (i := 936) (by decide +kernel), List.mem_of_getElem? (i := 937) (by decide +kernel)⟩
theorem lw_p35 : lw_okq (⟨"MendedWithTheWordModel", "both0", "()I"⟩, 47) := ⟨⟨by decide +kernel, by decide +kernel⟩, List.mem_of_getElem? (i := 707) (by decide +kernel), List.mem_of_getElem? (i := 940) (by decide +kernel), List.mem_of_getElem? (i := 941) (by decide +kernel)⟩
theorem lw_p36 : lw_okq (⟨"MendedWithTheWordModel", "not0", "()I"⟩, 47) := ⟨⟨by decide +kernel, by decide +kernel⟩, List.mem_of_getElem? (i := 707) (by decide +kernel), List.mem_of_getElem? (i := 944) (by decide +kernel), List.mem_of_getElem? (i := 945) (by decide +kernel)⟩
theorem lw_p37 : lw_okq (⟨"MendedWithTheWordModel", "opens", "()Z"⟩, 47) := ⟨⟨by decide +kernel, by decide +kernel⟩, List.mem_of_getElem? (i := 707) (by decide +kernel), List.mem_of_getElem? (i := 948) (by decide +kernel), List.mem_of_getElem? (i := 949) (by decide +kernel)⟩
theorem lw_p38 : lw_okq (⟨"MendedWithTheWordModel", "not1", "()I"⟩, 47) := ⟨⟨by decide +kernel, by decide +kernel⟩, List.mem_of_getElem? (i := 707) (by decide +kernel), List.mem_of_getElem? (i := 952) (by decide +kernel), List.mem_of_getElem? (i := 953) (by decide +kernel)⟩
theorem lw_p39 : lw_okq (⟨"MendedWithTheWordModel", "not2", "()I"⟩, 47) := ⟨⟨by decide +kernel, by decide +kernel⟩, List.mem_of_getElem? (i := 707) (by decide +kernel), List.mem_of_getElem? (i := 956) (by decide +kernel), List.mem_of_getElem? (i := 957) (by decide +kernel)⟩
theorem lw_p40 : lw_okq (⟨"MendedWithTheWordModel", "not3", "()I"⟩, 47) := ⟨⟨by decide +kernel, by decide +kernel⟩, List.mem_of_getElem? (i := 707) (by decide +kernel), List.mem_of_getElem? (i := 960) (by decide +kernel), List.mem_of_getElem? (i := 961) (by decide +kernel)⟩
theorem lw_p41 : lw_okq (⟨"MendedWithTheWordModel", "not4", "()I"⟩, 47) := ⟨⟨by decide +kernel, by decide +kernel⟩, List.mem_of_getElem? (i := 707) (by decide +kernel), List.mem_of_getElem? (i := 964) (by decide +kernel), List.mem_of_getElem? (i := 965) (by decide +kernel)⟩
theorem lw_p42 : lw_okq (⟨"MendedWithTheWordModel", "not5", "()I"⟩, 47) := ⟨⟨by decide +kernel, by decide +kernel⟩, List.mem_of_getElem? (i := 707) (by decide +kernel), List.mem_of_getElem? (i := 968) (by decide +kernel), List.mem_of_getElem? (i := 969) (by decide +kernel)⟩
theorem lw_p43 : lw_okq (⟨"MendedWithTheWordModel", "added5", "()I"⟩, 47) := ⟨⟨by decide +kernel, by decide +kernel⟩, List.mem_of_getElem? (i := 707) (by decide +kernel), List.mem_of_getElem? (i := 972) (by decide +kernel), List.mem_of_getElem? (i := 973) (by decide +kernel)⟩
theorem lw_p44 : lw_okq (⟨"MendedWithTheWordModel", "term5", "()I"⟩, 47) := ⟨⟨by decide +kernel, by decide +kernel⟩, List.mem_of_getElem? (i := 707) (by decide +kernel), List.mem_of_getElem? (i := 976) (by decide +kernel), List.mem_of_getElem? (i := 977) (by decide +kernel)⟩
theorem lw_p45 : lw_okq (⟨"MendedWithTheWordModel", "atom5", "()I"⟩, 47) := ⟨⟨by decide +kernel, by decide +kernel⟩, List.mem_of_getElem? (i := 707) (by decide +kernel), List.mem_of_getElem? (i := 980) (by decide +kernel), List.mem_of_getElem? (i := 981) (by decide +kernel)⟩
theorem lw_p46 : lw_okq (⟨"MendedWithTheWordModel", "isSign", "(I)Z"⟩, 47) := ⟨⟨by decide +kernel, by decide +kernel⟩, List.mem_of_getElem? (i := 707) (by decide +kernel), List.mem_of_getElem? (i := 984) (by decide +kernel), List.mem_of_getElem? (i := 985) (by decide +kernel)⟩
theorem lw_p47 : lw_okq (⟨"MendedWithTheWordModel", "name", "()I"⟩, 47) := ⟨⟨by decide +kernel, by decide +kernel⟩, List.mem_of_getElem? (i := 707) (by decide +kernel), List.mem_of_getElem? (i := 988) (by decide +kernel), List.mem_of_getElem? (i := 989) (by decide +kernel)⟩
def lw_privs_3 : List (MethodName × Nat) := [(⟨"MendedWithTheWordModel", "part", "(Z)I"⟩, 47), (⟨"MendedWithTheWordModel", "fail", "()V"⟩, 47), (⟨"MendedWithTheWordModel", "either0", "()I"⟩, 47), (⟨"MendedWithTheWordModel", "both0", "()I"⟩, 47), (⟨"MendedWithTheWordModel", "not0", "()I"⟩, 47), (⟨"MendedWithTheWordModel", "opens", "()Z"⟩, 47), (⟨"MendedWithTheWordModel", "not1", "()I"⟩, 47), (⟨"MendedWithTheWordModel", "not2", "()I"⟩, 47), (⟨"MendedWithTheWordModel", "not3", "()I"⟩, 47), (⟨"MendedWithTheWordModel", "not4", "()I"⟩, 47), (⟨"MendedWithTheWordModel", "not5", "()I"⟩, 47), (⟨"MendedWithTheWordModel", "added5", "()I"⟩, 47), (⟨"MendedWithTheWordModel", "term5", "()I"⟩, 47), (⟨"MendedWithTheWordModel", "atom5", "()I"⟩, 47), (⟨"MendedWithTheWordModel", "isSign", "(I)Z"⟩, 47), (⟨"MendedWithTheWordModel", "name", "()I"⟩, 47)]
theorem lw_r3 : ∀ q ∈ lw_privs_3, lw_okq q := List.forall_mem_cons.mpr ⟨lw_p32, List.forall_mem_cons.mpr ⟨lw_p33, List.forall_mem_cons.mpr ⟨lw_p34, List.forall_mem_cons.mpr ⟨lw_p35, List.forall_mem_cons.mpr ⟨lw_p36, List.forall_mem_cons.mpr ⟨lw_p37, List.forall_mem_cons.mpr ⟨lw_p38, List.forall_mem_cons.mpr ⟨lw_p39, List.forall_mem_cons.mpr ⟨lw_p40, List.forall_mem_cons.mpr ⟨lw_p41, List.forall_mem_cons.mpr ⟨lw_p42, List.forall_mem_cons.mpr ⟨lw_p43, List.forall_mem_cons.mpr ⟨lw_p44, List.forall_mem_cons.mpr ⟨lw_p45, List.forall_mem_cons.mpr ⟨lw_p46, List.forall_mem_cons.mpr ⟨lw_p47, fun _ h => absurd h List.not_mem_nil⟩⟩⟩⟩⟩⟩⟩⟩⟩⟩⟩⟩⟩⟩⟩⟩
theorem lw_p48 : lw_okq (⟨"MendedWithTheWordModel", "added4", "()I"⟩, 47) := ⟨⟨by decide +kernel, by decide +kernel⟩, List.mem_of_getElem? (i := 707) (by decide +kernel), List.mem_of_getElem? (i := 994) (by decide +kernel), List.mem_of_getElem? (i := 995) (by decide +kernel)⟩
theorem lw_p49 : lw_okq (⟨"MendedWithTheWordModel", "term4", "()I"⟩, 47) := ⟨⟨by decide +kernel, by decide +kernel⟩, List.mem_of_getElem? (i := 707) (by decide +kernel), List.mem_of_getElem? (i := 998) (by decide +kernel), List.mem_of_getElem? (i := 999) (by decide +kernel)⟩
theorem lw_p50 : lw_okq (⟨"MendedWithTheWordModel", "atom4", "()I"⟩, 47) := ⟨⟨by decide +kernel, by decide +kernel⟩, List.mem_of_getElem? (i := 707) (by decide +kernel), List.mem_of_getElem? (i := 1002) (by decide +kernel), List.mem_of_getElem? (i := 1003) (by decide +kernel)⟩
theorem lw_p51 : lw_okq (⟨"MendedWithTheWordModel", "either5", "()I"⟩, 47) := ⟨⟨by decide +kernel, by decide +kernel⟩, List.mem_of_getElem? (i := 707) (by decide +kernel), List.mem_of_getElem? (i := 1006) (by decide +kernel), List.mem_of_getElem? (i := 1007) (by decide +kernel)⟩
theorem lw_p52 : lw_okq (⟨"MendedWithTheWordModel", "both5", "()I"⟩, 47) := ⟨⟨by decide +kernel, by decide +kernel⟩, List.mem_of_getElem? (i := 707) (by decide +kernel), List.mem_of_getElem? (i := 1010) (by decide +kernel), List.mem_of_getElem? (i := 1011) (by decide +kernel)⟩
theorem lw_p53 : lw_okq (⟨"MendedWithTheWordModel", "added3", "()I"⟩, 47) := ⟨⟨by decide +kernel, by decide +kernel⟩, List.mem_of_getElem? (i := 707) (by decide +kernel), List.mem_of_getElem? (i := 1014) (by decide +kernel), List.mem_of_getElem? (i := 1015) (by decide +kernel)⟩
theorem lw_p54 : lw_okq (⟨"MendedWithTheWordModel", "term3", "()I"⟩, 47) := ⟨⟨by decide +kernel, by decide +kernel⟩, List.mem_of_getElem? (i := 707) (by decide +kernel), List.mem_of_getElem? (i := 1018) (by decide +kernel), List.mem_of_getElem? (i := 1019) (by decide +kernel)⟩
theorem lw_p55 : lw_okq (⟨"MendedWithTheWordModel", "atom3", "()I"⟩, 47) := ⟨⟨by decide +kernel, by decide +kernel⟩, List.mem_of_getElem? (i := 707) (by decide +kernel), List.mem_of_getElem? (i := 1022) (by decide +kernel), List.mem_of_getElem? (i := 1023) (by decide +kernel)⟩
theorem lw_p56 : lw_okq (⟨"MendedWithTheWordModel", "either4", "()I"⟩, 47) := ⟨⟨by decide +kernel, by decide +kernel⟩, List.mem_of_getElem? (i := 707) (by decide +kernel), List.mem_of_getElem? (i := 1026) (by decide +kernel), List.mem_of_getElem? (i := 1027) (by decide +kernel)⟩
theorem lw_p57 : lw_okq (⟨"MendedWithTheWordModel", "both4", "()I"⟩, 47) := ⟨⟨by decide +kernel, by decide +kernel⟩, List.mem_of_getElem? (i := 707) (by decide +kernel), List.mem_of_getElem? (i := 1030) (by decide +kernel), List.mem_of_getElem? (i := 1031) (by decide +kernel)⟩
theorem lw_p58 : lw_okq (⟨"MendedWithTheWordModel", "added2", "()I"⟩, 47) := ⟨⟨by decide +kernel, by decide +kernel⟩, List.mem_of_getElem? (i := 707) (by decide +kernel), List.mem_of_getElem? (i := 1034) (by decide +kernel), List.mem_of_getElem? (i := 1035) (by decide +kernel)⟩
theorem lw_p59 : lw_okq (⟨"MendedWithTheWordModel", "term2", "()I"⟩, 47) := ⟨⟨by decide +kernel, by decide +kernel⟩, List.mem_of_getElem? (i := 707) (by decide +kernel), List.mem_of_getElem? (i := 1038) (by decide +kernel), List.mem_of_getElem? (i := 1039) (by decide +kernel)⟩
theorem lw_p60 : lw_okq (⟨"MendedWithTheWordModel", "atom2", "()I"⟩, 47) := ⟨⟨by decide +kernel, by decide +kernel⟩, List.mem_of_getElem? (i := 707) (by decide +kernel), List.mem_of_getElem? (i := 1042) (by decide +kernel), List.mem_of_getElem? (i := 1043) (by decide +kernel)⟩
theorem lw_p61 : lw_okq (⟨"MendedWithTheWordModel", "either3", "()I"⟩, 47) := ⟨⟨by decide +kernel, by decide +kernel⟩, List.mem_of_getElem? (i := 707) (by decide +kernel), List.mem_of_getElem? (i := 1046) (by decide +kernel), List.mem_of_getElem? (i := 1047) (by decide +kernel)⟩
theorem lw_p62 : lw_okq (⟨"MendedWithTheWordModel", "both3", "()I"⟩, 47) := ⟨⟨by decide +kernel, by decide +kernel⟩, List.mem_of_getElem? (i := 707) (by decide +kernel), List.mem_of_getElem? (i := 1050) (by decide +kernel), List.mem_of_getElem? (i := 1051) (by decide +kernel)⟩
theorem lw_p63 : lw_okq (⟨"MendedWithTheWordModel", "added1", "()I"⟩, 47) := ⟨⟨by decide +kernel, by decide +kernel⟩, List.mem_of_getElem? (i := 707) (by decide +kernel), List.mem_of_getElem? (i := 1054) (by decide +kernel), List.mem_of_getElem? (i := 1055) (by decide +kernel)⟩
def lw_privs_4 : List (MethodName × Nat) := [(⟨"MendedWithTheWordModel", "added4", "()I"⟩, 47), (⟨"MendedWithTheWordModel", "term4", "()I"⟩, 47), (⟨"MendedWithTheWordModel", "atom4", "()I"⟩, 47), (⟨"MendedWithTheWordModel", "either5", "()I"⟩, 47), (⟨"MendedWithTheWordModel", "both5", "()I"⟩, 47), (⟨"MendedWithTheWordModel", "added3", "()I"⟩, 47), (⟨"MendedWithTheWordModel", "term3", "()I"⟩, 47), (⟨"MendedWithTheWordModel", "atom3", "()I"⟩, 47), (⟨"MendedWithTheWordModel", "either4", "()I"⟩, 47), (⟨"MendedWithTheWordModel", "both4", "()I"⟩, 47), (⟨"MendedWithTheWordModel", "added2", "()I"⟩, 47), (⟨"MendedWithTheWordModel", "term2", "()I"⟩, 47), (⟨"MendedWithTheWordModel", "atom2", "()I"⟩, 47), (⟨"MendedWithTheWordModel", "either3", "()I"⟩, 47), (⟨"MendedWithTheWordModel", "both3", "()I"⟩, 47), (⟨"MendedWithTheWordModel", "added1", "()I"⟩, 47)]
theorem lw_r4 : ∀ q ∈ lw_privs_4, lw_okq q := List.forall_mem_cons.mpr ⟨lw_p48, List.forall_mem_cons.mpr ⟨lw_p49, List.forall_mem_cons.mpr ⟨lw_p50, List.forall_mem_cons.mpr ⟨lw_p51, List.forall_mem_cons.mpr ⟨lw_p52, List.forall_mem_cons.mpr ⟨lw_p53, List.forall_mem_cons.mpr ⟨lw_p54, List.forall_mem_cons.mpr ⟨lw_p55, List.forall_mem_cons.mpr ⟨lw_p56, List.forall_mem_cons.mpr ⟨lw_p57, List.forall_mem_cons.mpr ⟨lw_p58, List.forall_mem_cons.mpr ⟨lw_p59, List.forall_mem_cons.mpr ⟨lw_p60, List.forall_mem_cons.mpr ⟨lw_p61, List.forall_mem_cons.mpr ⟨lw_p62, List.forall_mem_cons.mpr ⟨lw_p63, fun _ h => absurd h List.not_mem_nil⟩⟩⟩⟩⟩⟩⟩⟩⟩⟩⟩⟩⟩⟩⟩⟩
theorem lw_p64 : lw_okq (⟨"MendedWithTheWordModel", "term1", "()I"⟩, 47) := ⟨⟨by decide +kernel, by decide +kernel⟩, List.mem_of_getElem? (i := 707) (by decide +kernel), List.mem_of_getElem? (i := 1058) (by decide +kernel), List.mem_of_getElem? (i := 1059) (by decide +kernel)⟩
theorem lw_p65 : lw_okq (⟨"MendedWithTheWordModel", "atom1", "()I"⟩, 47) := ⟨⟨by decide +kernel, by decide +kernel⟩, List.mem_of_getElem? (i := 707) (by decide +kernel), List.mem_of_getElem? (i := 1062) (by decide +kernel), List.mem_of_getElem? (i := 1063) (by decide +kernel)⟩
theorem lw_p66 : lw_okq (⟨"MendedWithTheWordModel", "either2", "()I"⟩, 47) := ⟨⟨by decide +kernel, by decide +kernel⟩, List.mem_of_getElem? (i := 707) (by decide +kernel), List.mem_of_getElem? (i := 1066) (by decide +kernel), List.mem_of_getElem? (i := 1067) (by decide +kernel)⟩
theorem lw_p67 : lw_okq (⟨"MendedWithTheWordModel", "both2", "()I"⟩, 47) := ⟨⟨by decide +kernel, by decide +kernel⟩, List.mem_of_getElem? (i := 707) (by decide +kernel), List.mem_of_getElem? (i := 1070) (by decide +kernel), List.mem_of_getElem? (i := 1071) (by decide +kernel)⟩
theorem lw_p68 : lw_okq (⟨"MendedWithTheWordModel", "added0", "()I"⟩, 47) := ⟨⟨by decide +kernel, by decide +kernel⟩, List.mem_of_getElem? (i := 707) (by decide +kernel), List.mem_of_getElem? (i := 1074) (by decide +kernel), List.mem_of_getElem? (i := 1075) (by decide +kernel)⟩
theorem lw_p69 : lw_okq (⟨"MendedWithTheWordModel", "term0", "()I"⟩, 47) := ⟨⟨by decide +kernel, by decide +kernel⟩, List.mem_of_getElem? (i := 707) (by decide +kernel), List.mem_of_getElem? (i := 1078) (by decide +kernel), List.mem_of_getElem? (i := 1079) (by decide +kernel)⟩
theorem lw_p70 : lw_okq (⟨"MendedWithTheWordModel", "atom0", "()I"⟩, 47) := ⟨⟨by decide +kernel, by decide +kernel⟩, List.mem_of_getElem? (i := 707) (by decide +kernel), List.mem_of_getElem? (i := 1082) (by decide +kernel), List.mem_of_getElem? (i := 1083) (by decide +kernel)⟩
theorem lw_p71 : lw_okq (⟨"MendedWithTheWordModel", "either1", "()I"⟩, 47) := ⟨⟨by decide +kernel, by decide +kernel⟩, List.mem_of_getElem? (i := 707) (by decide +kernel), List.mem_of_getElem? (i := 1086) (by decide +kernel), List.mem_of_getElem? (i := 1087) (by decide +kernel)⟩
theorem lw_p72 : lw_okq (⟨"MendedWithTheWordModel", "both1", "()I"⟩, 47) := ⟨⟨by decide +kernel, by decide +kernel⟩, List.mem_of_getElem? (i := 707) (by decide +kernel), List.mem_of_getElem? (i := 1090) (by decide +kernel), List.mem_of_getElem? (i := 1091) (by decide +kernel)⟩
theorem lw_p73 : lw_okq (⟨"MendedWithTheWordModel", "slackOf", "(II)I"⟩, 47) := ⟨⟨by decide +kernel, by decide +kernel⟩, List.mem_of_getElem? (i := 707) (by decide +kernel), List.mem_of_getElem? (i := 1097) (by decide +kernel), List.mem_of_getElem? (i := 1098) (by decide +kernel)⟩
theorem lw_p74 : lw_okq (⟨"MendedWithTheWordModel", "takesOn", "(II)Z"⟩, 47) := ⟨⟨by decide +kernel, by decide +kernel⟩, List.mem_of_getElem? (i := 707) (by decide +kernel), List.mem_of_getElem? (i := 1101) (by decide +kernel), List.mem_of_getElem? (i := 1102) (by decide +kernel)⟩
theorem lw_p75 : lw_okq (⟨"MendedWithTheWordModel", "isHeld", "(I)Z"⟩, 47) := ⟨⟨by decide +kernel, by decide +kernel⟩, List.mem_of_getElem? (i := 707) (by decide +kernel), List.mem_of_getElem? (i := 1105) (by decide +kernel), List.mem_of_getElem? (i := 1106) (by decide +kernel)⟩
theorem lw_p76 : lw_okq (⟨"MendedWithTheWordModel", "lays", "(III)V"⟩, 47) := ⟨⟨by decide +kernel, by decide +kernel⟩, List.mem_of_getElem? (i := 707) (by decide +kernel), List.mem_of_getElem? (i := 1109) (by decide +kernel), List.mem_of_getElem? (i := 1110) (by decide +kernel)⟩
theorem lw_p77 : lw_okq (⟨"MendedWithTheWordModel", "calls", "(I)I"⟩, 47) := ⟨⟨by decide +kernel, by decide +kernel⟩, List.mem_of_getElem? (i := 707) (by decide +kernel), List.mem_of_getElem? (i := 1141) (by decide +kernel), List.mem_of_getElem? (i := 1142) (by decide +kernel)⟩
theorem lw_p78 : lw_okq (⟨"MendedWithTheWordModel", "holdsFo\x72", "(I)I"⟩, 47) := ⟨⟨by decide +kernel, by decide +kernel⟩, List.mem_of_getElem? (i := 707) (by decide +kernel), List.mem_of_getElem? (i := 1145) (by decide +kernel), List.mem_of_getElem? (i := 1146) (by decide +kernel)⟩
theorem lw_p79 : lw_okq (⟨"MendedWithTheWordModel", "partsNow", "()I"⟩, 47) := ⟨⟨by decide +kernel, by decide +kernel⟩, List.mem_of_getElem? (i := 707) (by decide +kernel), List.mem_of_getElem? (i := 1153) (by decide +kernel), List.mem_of_getElem? (i := 1154) (by decide +kernel)⟩
def lw_privs_5 : List (MethodName × Nat) := [(⟨"MendedWithTheWordModel", "term1", "()I"⟩, 47), (⟨"MendedWithTheWordModel", "atom1", "()I"⟩, 47), (⟨"MendedWithTheWordModel", "either2", "()I"⟩, 47), (⟨"MendedWithTheWordModel", "both2", "()I"⟩, 47), (⟨"MendedWithTheWordModel", "added0", "()I"⟩, 47), (⟨"MendedWithTheWordModel", "term0", "()I"⟩, 47), (⟨"MendedWithTheWordModel", "atom0", "()I"⟩, 47), (⟨"MendedWithTheWordModel", "either1", "()I"⟩, 47), (⟨"MendedWithTheWordModel", "both1", "()I"⟩, 47), (⟨"MendedWithTheWordModel", "slackOf", "(II)I"⟩, 47), (⟨"MendedWithTheWordModel", "takesOn", "(II)Z"⟩, 47), (⟨"MendedWithTheWordModel", "isHeld", "(I)Z"⟩, 47), (⟨"MendedWithTheWordModel", "lays", "(III)V"⟩, 47), (⟨"MendedWithTheWordModel", "calls", "(I)I"⟩, 47), (⟨"MendedWithTheWordModel", "holdsFo\x72", "(I)I"⟩, 47), (⟨"MendedWithTheWordModel", "partsNow", "()I"⟩, 47)]
theorem lw_r5 : ∀ q ∈ lw_privs_5, lw_okq q := List.forall_mem_cons.mpr ⟨lw_p64, List.forall_mem_cons.mpr ⟨lw_p65, List.forall_mem_cons.mpr ⟨lw_p66, List.forall_mem_cons.mpr ⟨lw_p67, List.forall_mem_cons.mpr ⟨lw_p68, List.forall_mem_cons.mpr ⟨lw_p69, List.forall_mem_cons.mpr ⟨lw_p70, List.forall_mem_cons.mpr ⟨lw_p71, List.forall_mem_cons.mpr ⟨lw_p72, List.forall_mem_cons.mpr ⟨lw_p73, List.forall_mem_cons.mpr ⟨lw_p74, List.forall_mem_cons.mpr ⟨lw_p75, List.forall_mem_cons.mpr ⟨lw_p76, List.forall_mem_cons.mpr ⟨lw_p77, List.forall_mem_cons.mpr ⟨lw_p78, List.forall_mem_cons.mpr ⟨lw_p79, fun _ h => absurd h List.not_mem_nil⟩⟩⟩⟩⟩⟩⟩⟩⟩⟩⟩⟩⟩⟩⟩⟩
theorem lw_p80 : lw_okq (⟨"MendedWithTheWordModel", "heldSet", "()I"⟩, 47) := ⟨⟨by decide +kernel, by decide +kernel⟩, List.mem_of_getElem? (i := 707) (by decide +kernel), List.mem_of_getElem? (i := 1157) (by decide +kernel), List.mem_of_getElem? (i := 1158) (by decide +kernel)⟩
theorem lw_p81 : lw_okq (⟨"MendedWithTheWordModel", "partsBy", "(I)I"⟩, 47) := ⟨⟨by decide +kernel, by decide +kernel⟩, List.mem_of_getElem? (i := 707) (by decide +kernel), List.mem_of_getElem? (i := 1161) (by decide +kernel), List.mem_of_getElem? (i := 1162) (by decide +kernel)⟩
theorem lw_p82 : lw_okq (⟨"MendedWithTheWordModel", "partBy", "(II)I"⟩, 47) := ⟨⟨by decide +kernel, by decide +kernel⟩, List.mem_of_getElem? (i := 707) (by decide +kernel), List.mem_of_getElem? (i := 1165) (by decide +kernel), List.mem_of_getElem? (i := 1166) (by decide +kernel)⟩
theorem lw_p83 : lw_okq (⟨"MendedWithTheWordModel", "takenSet", "()I"⟩, 47) := ⟨⟨by decide +kernel, by decide +kernel⟩, List.mem_of_getElem? (i := 707) (by decide +kernel), List.mem_of_getElem? (i := 1172) (by decide +kernel), List.mem_of_getElem? (i := 1173) (by decide +kernel)⟩
theorem lw_p84 : lw_okq (⟨"MendedWithTheWordModel", "lastSet", "()I"⟩, 47) := ⟨⟨by decide +kernel, by decide +kernel⟩, List.mem_of_getElem? (i := 707) (by decide +kernel), List.mem_of_getElem? (i := 1176) (by decide +kernel), List.mem_of_getElem? (i := 1177) (by decide +kernel)⟩
theorem lw_p85 : lw_okq (⟨"MendedWithTheWordModel", "partsIf", "(I)I"⟩, 47) := ⟨⟨by decide +kernel, by decide +kernel⟩, List.mem_of_getElem? (i := 707) (by decide +kernel), List.mem_of_getElem? (i := 1192) (by decide +kernel), List.mem_of_getElem? (i := 1193) (by decide +kernel)⟩
theorem lw_p86 : lw_okq (⟨"MendedWithTheWordModel", "laysAside", "()V"⟩, 47) := ⟨⟨by decide +kernel, by decide +kernel⟩, List.mem_of_getElem? (i := 707) (by decide +kernel), List.mem_of_getElem? (i := 1196) (by decide +kernel), List.mem_of_getElem? (i := 1197) (by decide +kernel)⟩
theorem lw_p87 : lw_okq (⟨"MendedWithTheWordModel", "laysBack", "()V"⟩, 47) := ⟨⟨by decide +kernel, by decide +kernel⟩, List.mem_of_getElem? (i := 707) (by decide +kernel), List.mem_of_getElem? (i := 1200) (by decide +kernel), List.mem_of_getElem? (i := 1201) (by decide +kernel)⟩
theorem lw_p88 : lw_okq (⟨"MendedWithTheWordModel", "everybody", "()I"⟩, 47) := ⟨⟨by decide +kernel, by decide +kernel⟩, List.mem_of_getElem? (i := 707) (by decide +kernel), List.mem_of_getElem? (i := 1208) (by decide +kernel), List.mem_of_getElem? (i := 1209) (by decide +kernel)⟩
theorem lw_p89 : lw_okq (⟨"MendedWithTheWordModel", "firstOthe\x72", "(III)I"⟩, 47) := ⟨⟨by decide +kernel, by decide +kernel⟩, List.mem_of_getElem? (i := 707) (by decide +kernel), List.mem_of_getElem? (i := 1229) (by decide +kernel), List.mem_of_getElem? (i := 1230) (by decide +kernel)⟩
theorem lw_p90 : lw_okq (⟨"MendedWithTheWordModel", "draws", "(I)V"⟩, 47) := ⟨⟨by decide +kernel, by decide +kernel⟩, List.mem_of_getElem? (i := 707) (by decide +kernel), List.mem_of_getElem? (i := 1248) (by decide +kernel), List.mem_of_getElem? (i := 1249) (by decide +kernel)⟩
theorem lw_p91 : lw_okq (⟨"MendedWithTheWordModel", "tonesAgain", "()V"⟩, 47) := ⟨⟨by decide +kernel, by decide +kernel⟩, List.mem_of_getElem? (i := 707) (by decide +kernel), List.mem_of_getElem? (i := 1253) (by decide +kernel), List.mem_of_getElem? (i := 1254) (by decide +kernel)⟩
def lw_privs_6 : List (MethodName × Nat) := [(⟨"MendedWithTheWordModel", "heldSet", "()I"⟩, 47), (⟨"MendedWithTheWordModel", "partsBy", "(I)I"⟩, 47), (⟨"MendedWithTheWordModel", "partBy", "(II)I"⟩, 47), (⟨"MendedWithTheWordModel", "takenSet", "()I"⟩, 47), (⟨"MendedWithTheWordModel", "lastSet", "()I"⟩, 47), (⟨"MendedWithTheWordModel", "partsIf", "(I)I"⟩, 47), (⟨"MendedWithTheWordModel", "laysAside", "()V"⟩, 47), (⟨"MendedWithTheWordModel", "laysBack", "()V"⟩, 47), (⟨"MendedWithTheWordModel", "everybody", "()I"⟩, 47), (⟨"MendedWithTheWordModel", "firstOthe\x72", "(III)I"⟩, 47), (⟨"MendedWithTheWordModel", "draws", "(I)V"⟩, 47), (⟨"MendedWithTheWordModel", "tonesAgain", "()V"⟩, 47)]
theorem lw_r6 : ∀ q ∈ lw_privs_6, lw_okq q := List.forall_mem_cons.mpr ⟨lw_p80, List.forall_mem_cons.mpr ⟨lw_p81, List.forall_mem_cons.mpr ⟨lw_p82, List.forall_mem_cons.mpr ⟨lw_p83, List.forall_mem_cons.mpr ⟨lw_p84, List.forall_mem_cons.mpr ⟨lw_p85, List.forall_mem_cons.mpr ⟨lw_p86, List.forall_mem_cons.mpr ⟨lw_p87, List.forall_mem_cons.mpr ⟨lw_p88, List.forall_mem_cons.mpr ⟨lw_p89, List.forall_mem_cons.mpr ⟨lw_p90, List.forall_mem_cons.mpr ⟨lw_p91, fun _ h => absurd h List.not_mem_nil⟩⟩⟩⟩⟩⟩⟩⟩⟩⟩⟩⟩
def lw_privs : List (MethodName × Nat) := lw_privs_1 ++ (lw_privs_2 ++ (lw_privs_3 ++ (lw_privs_4 ++ (lw_privs_5 ++ (lw_privs_6)))))
def lw_tbl : List Cond := k2_sels lw_privs ++ tables_1
theorem lw_privs_ok : ∀ q ∈ lw_privs, lw_okq q := by
  show ∀ q ∈ lw_privs_1 ++ (lw_privs_2 ++ (lw_privs_3 ++ (lw_privs_4 ++ (lw_privs_5 ++ (lw_privs_6))))), lw_okq q
  exact List.forall_mem_append.mpr ⟨lw_r1, List.forall_mem_append.mpr ⟨lw_r2, List.forall_mem_append.mpr ⟨lw_r3, List.forall_mem_append.mpr ⟨lw_r4, List.forall_mem_append.mpr ⟨lw_r5, lw_r6⟩⟩⟩⟩⟩
def RX1 : String := "MendedWithTheWord$Reade\x72"
def TX1 : u_T := fun k => match k with
  | 0 => ("MendedWithTheWord$Reade\x72", "tape", "[I", true)
  | 1 => ("MendedWithTheWord$Reade\x72", "size", "I", false)
  | 2 => ("MendedWithTheWord$Reade\x72", "place", "I", false)
  | 3 => ("MendedWithTheWord$Reade\x72", "token", "I", false)
  | 4 => ("MendedWithTheWord$Reade\x72", "start", "I", false)
  | 5 => ("MendedWithTheWord$Reade\x72", "digits", "I", false)
  | 6 => ("MendedWithTheWord$Reade\x72", "open", "I", false)
  | 7 => ("MendedWithTheWord$Reade\x72", "code", "[I", true)
  | 8 => ("MendedWithTheWord$Reade\x72", "length", "I", false)
  | _ => ("MendedWithTheWord$Reade\x72", "starts", "[I", true)
def tyX1 : Nat → FieldType := fun k => match k with
  | 0 => .array .int
  | 1 => .int
  | 2 => .int
  | 3 => .int
  | 4 => .int
  | 5 => .int
  | 6 => .int
  | 7 => .array .int
  | 8 => .int
  | _ => .array .int
abbrev wsX10 : List Cond := u_ws RX1 TX1 10
theorem nmX1 : ∀ a, a < 10 → ∀ b, b < 10 → a ≠ b → (TX1 a).2.1 ≠ (TX1 b).2.1 := by decide +kernel
theorem tyX1_ok : ∀ k, k < 10 → parseFieldDescriptor (TX1 k).2.2.1 = some (tyX1 k) := by decide +kernel
def RX2 : String := "MendedWithTheWord$Rules"
def TX2 : u_T := fun k => match k with
  | 0 => ("MendedWithTheWord$Rules", "texts", "[LMendedWithTheWord$Text;", true)
  | 1 => ("MendedWithTheWord$Rules", "size", "I", false)
  | 2 => ("MendedWithTheWord$Rules", "names", "[I", true)
  | _ => ("MendedWithTheWord$Rules", "stack", "[I", true)
def tyX2 : Nat → FieldType := fun k => match k with
  | 0 => .array (.object "MendedWithTheWord$Text")
  | 1 => .int
  | 2 => .array .int
  | _ => .array .int
abbrev wsX20 : List Cond := u_ws RX2 TX2 4
theorem nmX2 : ∀ a, a < 4 → ∀ b, b < 4 → a ≠ b → (TX2 a).2.1 ≠ (TX2 b).2.1 := by decide +kernel
theorem tyX2_ok : ∀ k, k < 4 → parseFieldDescriptor (TX2 k).2.2.1 = some (tyX2 k) := by decide +kernel
def RX3 : String := "MendedWithTheWord$Sheet"
def TX3 : u_T := fun k => match k with
  | 0 => ("MendedWithTheWord$Sheet", "sort", "I", false)
  | 1 => ("MendedWithTheWord$Sheet", "size", "I", false)
  | _ => ("MendedWithTheWord$Sheet", "items", "[I", true)
def tyX3 : Nat → FieldType := fun k => match k with
  | 0 => .int
  | 1 => .int
  | _ => .array .int
abbrev wsX30 : List Cond := u_ws RX3 TX3 3
theorem nmX3 : ∀ a, a < 3 → ∀ b, b < 3 → a ≠ b → (TX3 a).2.1 ≠ (TX3 b).2.1 := by decide +kernel
theorem tyX3_ok : ∀ k, k < 3 → parseFieldDescriptor (TX3 k).2.2.1 = some (tyX3 k) := by decide +kernel
def RX4 : String := "MendedWithTheWord$Text"
def TX4 : u_T := fun k => match k with
  | 0 => ("MendedWithTheWord$Text", "code", "[I", true)
  | 1 => ("MendedWithTheWord$Text", "slacksStart", "I", true)
  | _ => ("MendedWithTheWord$Text", "holdsStart", "I", true)
def tyX4 : Nat → FieldType := fun k => match k with
  | 0 => .array .int
  | 1 => .int
  | _ => .int
abbrev wsX40 : List Cond := u_ws RX4 TX4 3
theorem nmX4 : ∀ a, a < 3 → ∀ b, b < 3 → a ≠ b → (TX4 a).2.1 ≠ (TX4 b).2.1 := by decide +kernel
theorem tyX4_ok : ∀ k, k < 3 → parseFieldDescriptor (TX4 k).2.2.1 = some (tyX4 k) := by decide +kernel
def RX6 : String := "MendedWithTheWord$Vase"
def TX6 : u_T := fun k => match k with
  | 0 => ("MendedWithTheWord$Vase", "rules", "LMendedWithTheWord$Rules;", true)
  | 1 => ("MendedWithTheWord$Vase", "day", "I", false)
  | 2 => ("MendedWithTheWord$Vase", "pieces", "I", false)
  | 3 => ("MendedWithTheWord$Vase", "people", "I", false)
  | 4 => ("MendedWithTheWord$Vase", "kind", "[I", true)
  | 5 => ("MendedWithTheWord$Vase", "numbe\x72", "[I", true)
  | 6 => ("MendedWithTheWord$Vase", "seams", "I", false)
  | 7 => ("MendedWithTheWord$Vase", "two", "[I", true)
  | 8 => ("MendedWithTheWord$Vase", "broke", "[I", true)
  | 9 => ("MendedWithTheWord$Vase", "tone", "[I", true)
  | 10 => ("MendedWithTheWord$Vase", "force", "[I", true)
  | 11 => ("MendedWithTheWord$Vase", "till", "[I", true)
  | 12 => ("MendedWithTheWord$Vase", "rule", "I", false)
  | _ => ("MendedWithTheWord$Vase", "moreSlack", "I", false)
def tyX6 : Nat → FieldType := fun k => match k with
  | 0 => .object "MendedWithTheWord$Rules"
  | 1 => .int
  | 2 => .int
  | 3 => .int
  | 4 => .array .int
  | 5 => .array .int
  | 6 => .int
  | 7 => .array .int
  | 8 => .array .int
  | 9 => .array .int
  | 10 => .array .int
  | 11 => .array .int
  | 12 => .int
  | _ => .int
abbrev wsX60 : List Cond := u_ws RX6 TX6 14
theorem nmX6 : ∀ a, a < 14 → ∀ b, b < 14 → a ≠ b → (TX6 a).2.1 ≠ (TX6 b).2.1 := by decide +kernel
theorem tyX6_ok : ∀ k, k < 14 → parseFieldDescriptor (TX6 k).2.2.1 = some (tyX6 k) := by decide +kernel
def RX7 : String := "MendedWithTheWord"
def TX7 : u_T := fun k => match k with
  | 0 => ("MendedWithTheWord", "rules", "LMendedWithTheWord$Rules;", true)
  | 1 => ("MendedWithTheWord", "reade\x72", "LMendedWithTheWord$Reader;", true)
  | 2 => ("MendedWithTheWord", "now", "LMendedWithTheWord$Vase;", true)
  | 3 => ("MendedWithTheWord", "kept", "LMendedWithTheWord$Vase;", true)
  | 4 => ("MendedWithTheWord", "trial", "LMendedWithTheWord$Vase;", true)
  | 5 => ("MendedWithTheWord", "sheets", "[LMendedWithTheWord$Sheet;", true)
  | _ => ("MendedWithTheWord", "hasImage", "Z", false)
def tyX7 : Nat → FieldType := fun k => match k with
  | 0 => .object "MendedWithTheWord$Rules"
  | 1 => .object "MendedWithTheWord$Reade\x72"
  | 2 => .object "MendedWithTheWord$Vase"
  | 3 => .object "MendedWithTheWord$Vase"
  | 4 => .object "MendedWithTheWord$Vase"
  | 5 => .array (.object "MendedWithTheWord$Sheet")
  | _ => .boolean
abbrev wsX70 : List Cond := u_ws RX7 TX7 7
theorem nmX7 : ∀ a, a < 7 → ∀ b, b < 7 → a ≠ b → (TX7 a).2.1 ≠ (TX7 b).2.1 := by decide +kernel
theorem tyX7_ok : ∀ k, k < 7 → parseFieldDescriptor (TX7 k).2.2.1 = some (tyX7 k) := by decide +kernel
def RX8 : String := "MendedWithTheWordModel"
def TX8 : u_T := fun k => match k with
  | 0 => ("MendedWithTheWordModel", "thrown", "I", false)
  | 1 => ("MendedWithTheWordModel", "texts", "[I", true)
  | 2 => ("MendedWithTheWordModel", "textSize", "[I", true)
  | 3 => ("MendedWithTheWordModel", "textCount", "I", false)
  | 4 => ("MendedWithTheWordModel", "rule", "I", false)
  | 5 => ("MendedWithTheWordModel", "tape", "[I", true)
  | 6 => ("MendedWithTheWordModel", "taped", "I", false)
  | 7 => ("MendedWithTheWordModel", "dayNow", "I", false)
  | 8 => ("MendedWithTheWordModel", "pieceMany", "I", false)
  | 9 => ("MendedWithTheWordModel", "kinds", "[I", true)
  | 10 => ("MendedWithTheWordModel", "numbers", "[I", true)
  | 11 => ("MendedWithTheWordModel", "many", "I", false)
  | 12 => ("MendedWithTheWordModel", "rows", "[I", true)
  | 13 => ("MendedWithTheWordModel", "twos", "[I", true)
  | 14 => ("MendedWithTheWordModel", "till", "[I", true)
  | 15 => ("MendedWithTheWordModel", "seamMany", "I", false)
  | 16 => ("MendedWithTheWordModel", "ofTone", "I", false)
  | 17 => ("MendedWithTheWordModel", "ofDay", "I", false)
  | 18 => ("MendedWithTheWordModel", "ofNumbe\x72", "I", false)
  | 19 => ("MendedWithTheWordModel", "ofForce", "I", false)
  | 20 => ("MendedWithTheWordModel", "ofMended", "I", false)
  | 21 => ("MendedWithTheWordModel", "ofSeam", "I", false)
  | 22 => ("MendedWithTheWordModel", "from", "I", false)
  | 23 => ("MendedWithTheWordModel", "size", "I", false)
  | 24 => ("MendedWithTheWordModel", "here", "I", false)
  | 25 => ("MendedWithTheWordModel", "token", "I", false)
  | 26 => ("MendedWithTheWordModel", "tokenAt", "I", false)
  | 27 => ("MendedWithTheWordModel", "tokenWorth", "J", false)
  | 28 => ("MendedWithTheWordModel", "open", "I", false)
  | 29 => ("MendedWithTheWordModel", "bad", "Z", false)
  | 30 => ("MendedWithTheWordModel", "fault", "I", false)
  | 31 => ("MendedWithTheWordModel", "gentle", "I", false)
  | 32 => ("MendedWithTheWordModel", "tillWas", "[I", true)
  | 33 => ("MendedWithTheWordModel", "tillFirst", "[I", true)
  | 34 => ("MendedWithTheWordModel", "tonesWas", "[I", true)
  | 35 => ("MendedWithTheWordModel", "numbersKept", "[I", true)
  | 36 => ("MendedWithTheWordModel", "rowsKept", "[I", true)
  | 37 => ("MendedWithTheWordModel", "tillKept", "[I", true)
  | 38 => ("MendedWithTheWordModel", "manyKept", "I", false)
  | 39 => ("MendedWithTheWordModel", "seamsKept", "I", false)
  | 40 => ("MendedWithTheWordModel", "dayKept", "I", false)
  | 41 => ("MendedWithTheWordModel", "piecesKept", "I", false)
  | 42 => ("MendedWithTheWordModel", "ruleKept", "I", false)
  | 43 => ("MendedWithTheWordModel", "isThere", "[Z", true)
  | 44 => ("MendedWithTheWordModel", "sorts", "[I", true)
  | 45 => ("MendedWithTheWordModel", "sheetSize", "[I", true)
  | _ => ("MendedWithTheWordModel", "items", "[I", true)
def tyX8 : Nat → FieldType := fun k => match k with
  | 0 => .int
  | 1 => .array .int
  | 2 => .array .int
  | 3 => .int
  | 4 => .int
  | 5 => .array .int
  | 6 => .int
  | 7 => .int
  | 8 => .int
  | 9 => .array .int
  | 10 => .array .int
  | 11 => .int
  | 12 => .array .int
  | 13 => .array .int
  | 14 => .array .int
  | 15 => .int
  | 16 => .int
  | 17 => .int
  | 18 => .int
  | 19 => .int
  | 20 => .int
  | 21 => .int
  | 22 => .int
  | 23 => .int
  | 24 => .int
  | 25 => .int
  | 26 => .int
  | 27 => .long
  | 28 => .int
  | 29 => .boolean
  | 30 => .int
  | 31 => .int
  | 32 => .array .int
  | 33 => .array .int
  | 34 => .array .int
  | 35 => .array .int
  | 36 => .array .int
  | 37 => .array .int
  | 38 => .int
  | 39 => .int
  | 40 => .int
  | 41 => .int
  | 42 => .int
  | 43 => .array .boolean
  | 44 => .array .int
  | 45 => .array .int
  | _ => .array .int
abbrev wsX80 : List Cond := u_ws RX8 TX8 47
theorem nmX8 : ∀ a, a < 47 → ∀ b, b < 47 → a ≠ b → (TX8 a).2.1 ≠ (TX8 b).2.1 := by decide +kernel
theorem tyX8_ok : ∀ k, k < 47 → parseFieldDescriptor (TX8 k).2.2.1 = some (tyX8 k) := by decide +kernel
abbrev vwCl : List vw_C := [(RX1, TX1, 10), (RX2, TX2, 4), (RX3, TX3, 3), (RX4, TX4, 3), (RX6, TX6, 14), (RX7, TX7, 7), (RX8, TX8, 47)]
/-- the classes of the methods, by numbers -/
def mm_cls : List String := ["MendedWithTheWord", "MendedWithTheWord$Kinds", "MendedWithTheWord$Reade\x72", "MendedWithTheWord$Rules", "MendedWithTheWord$Sheet", "MendedWithTheWord$Text", "MendedWithTheWord$Token", "MendedWithTheWord$Vase", "MendedWithTheWordModel", "MendedWithTheWordLaw", "java/lang/Intege\x72", "java/lang/Math", "java/lang/String", "java/lang/StringLatin1", "java/util/Arrays", "jdk/internal/util/Preconditions"]
/-- methods: name, code, locals, answer, class, parameters, kind (0 of an object, 1 static, 2 constructor) -/
abbrev mm_MT : Type := MethodName × ByteArray × Nat × Option FieldType × Nat × Nat × Nat
def mm_ch (k : Nat) : List Cond := match k with | 0 => tables_1_1 | 1 => tables_1_2 | 2 => tables_1_3 | 3 => tables_1_4 | 4 => tables_1_5 | _ => tables_1_6
/-- where a method's code stands (part of the tables, place), its class, parameters, kind; where initialized, static or instance, selects stand -/
def mm_src_0 : List (Nat × Nat × Nat × Nat × Nat × Nat × Nat × Nat) := [(0, 22, 0, 0, 2, 93, 113, 0), (1, 128, 0, 3, 0, 93, 458, 459), (1, 224, 0, 2, 0, 93, 554, 555), (1, 232, 0, 3, 0, 93, 562, 563), (2, 4, 0, 2, 0, 93, 574, 575), (2, 8, 0, 1, 0, 93, 578, 579), (2, 12, 0, 0, 0, 93, 582, 583), (2, 20, 0, 1, 0, 93, 590, 591), (2, 24, 0, 1, 0, 93, 594, 595), (2, 39, 0, 1, 0, 93, 609, 610), (2, 79, 0, 1, 0, 93, 649, 650), (2, 84, 0, 1, 0, 93, 654, 655), (2, 97, 0, 1, 0, 93, 667, 668), (2, 105, 0, 1, 0, 93, 675, 676), (2, 109, 0, 0, 0, 93, 679, 680), (2, 113, 0, 0, 0, 93, 683, 684), (2, 117, 0, 4, 0, 93, 687, 688), (2, 147, 0, 4, 0, 93, 717, 718), (2, 167, 0, 1, 0, 93, 737, 738), (2, 176, 0, 3, 0, 93, 746, 747)]
def mm_src_1 : List (Nat × Nat × Nat × Nat × Nat × Nat × Nat × Nat) := [(2, 184, 0, 0, 0, 93, 754, 755), (2, 188, 0, 0, 0, 93, 758, 759), (2, 192, 0, 1, 0, 93, 762, 763), (2, 197, 0, 3, 0, 93, 767, 768), (2, 204, 0, 3, 0, 93, 774, 775), (2, 209, 0, 5, 0, 93, 779, 780), (2, 214, 0, 4, 0, 93, 784, 785), (2, 219, 0, 2, 0, 93, 789, 790), (1, 144, 0, 1, 0, 93, 475, 13), (1, 148, 0, 1, 0, 93, 479, 14), (1, 235, 0, 1, 1, 93, 566, 0), (2, 120, 0, 1, 1, 93, 691, 0), (2, 200, 0, 1, 1, 93, 771, 0), (1, 191, 0, 1, 1, 93, 522, 0), (2, 180, 0, 2, 1, 93, 751, 0), (1, 194, 1, 4, 1, 108, 525, 0), (1, 205, 1, 4, 1, 108, 536, 0), (2, 35, 1, 2, 1, 108, 606, 0), (2, 222, 1, 2, 1, 108, 793, 0), (2, 225, 1, 1, 1, 108, 796, 0)]
def mm_src_2 : List (Nat × Nat × Nat × Nat × Nat × Nat × Nat × Nat) := [(1, 197, 1, 3, 1, 108, 528, 0), (0, 54, 2, 0, 2, 95, 145, 0), (0, 218, 2, 1, 0, 95, 308, 309), (1, 102, 2, 0, 0, 95, 432, 433), (2, 16, 2, 0, 0, 95, 586, 587), (0, 222, 2, 0, 0, 95, 312, 313), (1, 25, 2, 0, 0, 95, 356, 4), (1, 29, 2, 0, 0, 95, 360, 5), (1, 33, 2, 0, 0, 95, 364, 6), (1, 37, 2, 0, 0, 95, 368, 7), (1, 41, 2, 0, 0, 95, 372, 8), (1, 45, 2, 0, 0, 95, 376, 9), (1, 49, 2, 0, 0, 95, 380, 10), (1, 60, 2, 0, 0, 95, 391, 12), (1, 56, 2, 1, 0, 95, 387, 11), (0, 226, 2, 0, 0, 95, 317, 0), (1, 18, 2, 0, 0, 95, 349, 3), (0, 233, 2, 0, 0, 95, 324, 1), (0, 238, 2, 1, 0, 95, 329, 2), (0, 229, 2, 1, 1, 95, 320, 0)]
def mm_src_3 : List (Nat × Nat × Nat × Nat × Nat × Nat × Nat × Nat) := [(1, 14, 2, 1, 1, 95, 345, 0), (0, 30, 3, 0, 2, 94, 121, 0), (1, 98, 3, 1, 0, 94, 428, 429), (1, 169, 3, 6, 0, 94, 499, 500), (1, 173, 3, 2, 0, 94, 503, 504), (1, 188, 3, 3, 0, 94, 519, 16), (0, 150, 4, 0, 2, 97, 241, 0), (2, 125, 4, 0, 0, 97, 695, 696), (2, 151, 4, 2, 0, 97, 721, 722), (2, 163, 4, 2, 0, 97, 733, 734), (2, 159, 4, 2, 0, 97, 729, 730), (1, 81, 5, 3, 2, 103, 412, 0), (1, 181, 5, 1, 0, 103, 511, 512), (1, 177, 5, 1, 0, 103, 507, 508), (1, 52, 6, 1, 1, 102, 383, 0), (1, 21, 6, 1, 1, 102, 352, 0), (1, 184, 6, 1, 1, 102, 515, 0), (0, 92, 7, 1, 2, 96, 183, 0), (2, 92, 7, 1, 0, 96, 662, 663), (1, 136, 7, 1, 0, 96, 466, 467)]
def mm_src_4 : List (Nat × Nat × Nat × Nat × Nat × Nat × Nat × Nat) := [(1, 140, 7, 1, 0, 96, 470, 471), (2, 101, 7, 0, 0, 96, 671, 672), (1, 228, 7, 2, 0, 96, 558, 559), (2, 0, 7, 4, 0, 96, 570, 571), (1, 132, 7, 2, 0, 96, 462, 463), (1, 152, 7, 2, 0, 96, 482, 483), (1, 220, 7, 3, 0, 96, 550, 551), (1, 165, 7, 0, 0, 96, 495, 496), (1, 157, 7, 1, 0, 96, 487, 488), (1, 202, 7, 1, 0, 96, 532, 533), (1, 209, 7, 1, 0, 96, 539, 540), (1, 216, 7, 1, 0, 96, 546, 547), (2, 32, 7, 1, 0, 96, 603, 17), (1, 161, 7, 2, 0, 96, 492, 15), (2, 43, 7, 0, 0, 96, 613, 614), (2, 71, 7, 0, 0, 96, 641, 642), (2, 88, 7, 1, 0, 96, 658, 659), (2, 28, 7, 1, 0, 96, 598, 599), (2, 55, 7, 1, 0, 96, 626, 18), (2, 51, 7, 2, 0, 96, 621, 622)]
def mm_src_5 : List (Nat × Nat × Nat × Nat × Nat × Nat × Nat × Nat) := [(2, 47, 7, 1, 0, 96, 617, 618), (2, 59, 7, 0, 0, 96, 629, 630), (2, 75, 7, 0, 0, 96, 645, 646), (2, 129, 7, 2, 0, 96, 699, 700), (2, 133, 7, 4, 0, 96, 703, 704), (2, 139, 7, 2, 0, 96, 709, 710), (2, 143, 7, 2, 0, 96, 713, 714), (2, 171, 7, 1, 0, 96, 741, 742), (3, 145, 8, 3, 1, 107, 956, 0), (4, 135, 8, 3, 1, 107, 1186, 0), (2, 230, 8, 0, 2, 107, 801, 0), (2, 235, 8, 9, 0, 107, 806, 19), (3, 153, 8, 1, 0, 107, 964, 21), (3, 157, 8, 1, 0, 107, 968, 22), (3, 149, 8, 2, 0, 107, 960, 20), (3, 161, 8, 2, 0, 107, 972, 23), (3, 141, 8, 3, 0, 107, 951, 952), (4, 151, 8, 3, 0, 107, 1202, 76), (4, 155, 8, 2, 0, 107, 1205, 1206), (4, 159, 8, 3, 0, 107, 1209, 1210)]
def mm_src_6 : List (Nat × Nat × Nat × Nat × Nat × Nat × Nat × Nat) := [(3, 168, 8, 2, 0, 107, 978, 979), (4, 166, 8, 1, 0, 107, 1216, 1217), (3, 193, 8, 1, 0, 107, 1004, 29), (3, 189, 8, 0, 0, 107, 1000, 28), (3, 214, 8, 0, 0, 107, 1025, 33), (3, 206, 8, 2, 0, 107, 1017, 31), (3, 202, 8, 8, 0, 107, 1013, 30), (4, 26, 8, 1, 0, 107, 1077, 46), (3, 230, 8, 0, 0, 107, 1041, 37), (4, 30, 8, 0, 0, 107, 1081, 47), (4, 22, 8, 0, 0, 107, 1073, 45), (4, 18, 8, 0, 0, 107, 1069, 44), (4, 14, 8, 0, 0, 107, 1065, 43), (4, 10, 8, 0, 0, 107, 1061, 42), (4, 52, 8, 0, 0, 107, 1103, 52), (4, 48, 8, 0, 0, 107, 1099, 51), (4, 44, 8, 0, 0, 107, 1095, 50), (4, 40, 8, 0, 0, 107, 1091, 49), (4, 36, 8, 0, 0, 107, 1087, 48), (4, 6, 8, 0, 0, 107, 1057, 41)]
def mm_src_7 : List (Nat × Nat × Nat × Nat × Nat × Nat × Nat × Nat) := [(4, 72, 8, 0, 0, 107, 1123, 57), (4, 68, 8, 0, 0, 107, 1119, 56), (4, 64, 8, 0, 0, 107, 1115, 55), (4, 60, 8, 0, 0, 107, 1111, 54), (4, 56, 8, 0, 0, 107, 1107, 53), (4, 2, 8, 0, 0, 107, 1053, 40), (4, 92, 8, 0, 0, 107, 1143, 62), (4, 88, 8, 0, 0, 107, 1139, 61), (4, 84, 8, 0, 0, 107, 1135, 60), (4, 80, 8, 0, 0, 107, 1131, 59), (4, 76, 8, 0, 0, 107, 1127, 58), (3, 238, 8, 0, 0, 107, 1049, 39), (4, 112, 8, 0, 0, 107, 1163, 67), (4, 108, 8, 0, 0, 107, 1159, 66), (4, 104, 8, 0, 0, 107, 1155, 65), (4, 100, 8, 0, 0, 107, 1151, 64), (4, 96, 8, 0, 0, 107, 1147, 63), (3, 234, 8, 0, 0, 107, 1045, 38), (4, 132, 8, 0, 0, 107, 1183, 72), (4, 128, 8, 0, 0, 107, 1179, 71)]
def mm_src_8 : List (Nat × Nat × Nat × Nat × Nat × Nat × Nat × Nat) := [(4, 124, 8, 0, 0, 107, 1175, 70), (4, 120, 8, 0, 0, 107, 1171, 69), (4, 116, 8, 0, 0, 107, 1167, 68), (3, 226, 8, 0, 0, 107, 1037, 36), (3, 222, 8, 0, 0, 107, 1033, 35), (3, 218, 8, 0, 0, 107, 1029, 34), (3, 210, 8, 1, 0, 107, 1021, 32), (3, 185, 8, 2, 0, 107, 996, 27), (4, 171, 8, 0, 0, 107, 1221, 1222), (4, 175, 8, 1, 0, 107, 1225, 1226), (3, 181, 8, 0, 0, 107, 992, 26), (3, 177, 8, 4, 0, 107, 988, 25), (3, 173, 8, 3, 0, 107, 984, 24), (4, 139, 8, 2, 0, 107, 1190, 73), (4, 187, 8, 1, 0, 107, 1238, 78), (4, 143, 8, 2, 0, 107, 1194, 74), (4, 147, 8, 1, 0, 107, 1198, 75), (4, 199, 8, 0, 0, 107, 1250, 80), (4, 214, 8, 0, 0, 107, 1265, 83), (4, 210, 8, 1, 1, 107, 1261, 0)]
def mm_src_9 : List (Nat × Nat × Nat × Nat × Nat × Nat × Nat × Nat) := [(4, 207, 8, 2, 0, 107, 1258, 82), (4, 203, 8, 1, 0, 107, 1254, 81), (4, 195, 8, 0, 0, 107, 1246, 79), (4, 183, 8, 1, 0, 107, 1234, 77), (4, 179, 8, 1, 0, 107, 1229, 1230), (4, 218, 8, 0, 0, 107, 1269, 84), (4, 191, 8, 1, 0, 107, 1241, 1242), (4, 222, 8, 1, 0, 107, 1272, 1273), (4, 226, 8, 1, 0, 107, 1276, 1277), (4, 238, 8, 0, 0, 107, 1289, 86), (5, 2, 8, 0, 0, 107, 1293, 87), (4, 234, 8, 1, 0, 107, 1285, 85), (4, 230, 8, 1, 0, 107, 1280, 1281), (5, 10, 8, 0, 0, 107, 1301, 88), (5, 6, 8, 1, 0, 107, 1296, 1297), (5, 14, 8, 0, 0, 107, 1304, 1305), (5, 18, 8, 0, 0, 107, 1308, 1309), (5, 31, 8, 3, 0, 107, 1322, 89), (5, 22, 8, 4, 0, 107, 1312, 1313), (5, 35, 8, 4, 0, 107, 1325, 1326)]
def mm_src_10 : List (Nat × Nat × Nat × Nat × Nat × Nat × Nat × Nat) := [(5, 50, 8, 1, 0, 107, 1341, 90), (5, 55, 8, 0, 0, 107, 1346, 91), (5, 46, 8, 1, 0, 107, 1336, 1337), (5, 59, 8, 3, 0, 107, 1349, 1350), (5, 65, 8, 0, 0, 107, 1355, 1356), (5, 69, 8, 0, 0, 107, 1359, 1360), (5, 73, 8, 1, 0, 107, 1363, 1364), (5, 25, 8, 1, 1, 107, 1316, 0), (5, 40, 8, 3, 0, 107, 1330, 1331), (5, 78, 8, 3, 0, 107, 1368, 1369), (5, 82, 8, 5, 0, 107, 1372, 1373), (5, 86, 8, 4, 0, 107, 1376, 1377), (5, 94, 8, 1, 1, 107, 1385, 0), (5, 91, 8, 2, 0, 107, 1381, 1382), (2, 64, 10, 1, 1, 109, 635, 0), (0, 170, 12, 0, 0, 98, 260, 261), (0, 180, 12, 1, 0, 98, 270, 271), (0, 174, 12, 0, 0, 98, 264, 265), (0, 184, 12, 0, 0, 98, 274, 275), (0, 190, 12, 2, 1, 98, 281, 0)]
def mm_src_11 : List (Nat × Nat × Nat × Nat × Nat × Nat × Nat × Nat) := [(0, 187, 13, 2, 1, 99, 278, 0), (2, 154, 14, 2, 1, 104, 725, 0), (1, 65, 14, 2, 1, 104, 396, 0), (0, 195, 15, 3, 1, 100, 286, 0)]
def mm_src : List (Nat × Nat × Nat × Nat × Nat × Nat × Nat × Nat) := mm_src_0 ++ (mm_src_1 ++ (mm_src_2 ++ (mm_src_3 ++ (mm_src_4 ++ (mm_src_5 ++ (mm_src_6 ++ (mm_src_7 ++ (mm_src_8 ++ (mm_src_9 ++ (mm_src_10 ++ (mm_src_11)))))))))))
def mm_get (q : Nat × Nat × Nat × Nat × Nat × Nat × Nat × Nat) : mm_MT := match (mm_ch q.1)[q.2.1]? with
  | some (.code y b n r) => (y, b, n, r, q.2.2.1, q.2.2.2.1, q.2.2.2.2.1)
  | _ => (⟨"", "", ""⟩, ⟨#[]⟩, 0, none, 0, 0, 9)
def mm_tab : List mm_MT := mm_src.map mm_get ++ [(⟨"MendedWithTheWordLaw", "law", "([I)Z"⟩, code, 4, some .boolean, 9, 1, 1)]
/-- call sites: class, place in the pool, method, of a nest mate, where the word stands -/
def mm_ct_0 : List (Nat × Nat × Nat × Bool × Nat) := [(9, 9, 0, false, 112), (0, 9, 61, true, 120), (0, 18, 41, true, 144), (0, 25, 77, false, 182), (0, 44, 66, true, 240), (0, 47, 215, false, 259), (12, 335, 217, false, 263), (0, 53, 216, false, 269), (12, 492, 218, false, 273), (12, 495, 220, false, 277), (13, 9, 219, false, 280), (12, 1059, 223, false, 285), (0, 57, 42, false, 307), (0, 61, 45, false, 311), (2, 37, 55, false, 315), (2, 92, 59, false, 319), (2, 95, 57, false, 322), (2, 109, 58, false, 327), (2, 135, 215, false, 331), (2, 140, 216, false, 332), (2, 98, 60, false, 344), (2, 101, 56, false, 347), (2, 104, 75, false, 351), (2, 45, 46, false, 354), (2, 60, 47, false, 358), (2, 67, 48, false, 362), (2, 70, 49, false, 366), (2, 73, 50, false, 370), (2, 76, 51, false, 374), (2, 79, 52, false, 378), (2, 82, 74, false, 382), (2, 63, 54, false, 385), (2, 89, 53, false, 389), (2, 51, 222, false, 395), (2, 57, 71, false, 411), (0, 65, 62, false, 427), (0, 68, 43, false, 431), (9, 13, 1, false, 457), (0, 71, 84, false, 461), (7, 62, 79, false, 465)]
def mm_ct_1 : List (Nat × Nat × Nat × Bool × Nat) := [(7, 66, 80, false, 469), (0, 75, 28, false, 473), (0, 78, 29, false, 477), (0, 81, 85, false, 481), (7, 69, 84, false, 485), (7, 73, 88, false, 486), (7, 86, 93, false, 490), (7, 104, 87, false, 494), (7, 108, 63, false, 498), (7, 114, 64, false, 502), (3, 30, 73, false, 506), (3, 34, 72, false, 510), (3, 40, 76, false, 514), (3, 43, 65, false, 517), (3, 47, 33, true, 521), (7, 90, 35, false, 524), (1, 9, 40, false, 527), (1, 15, 33, true, 530), (7, 77, 89, false, 531), (7, 95, 36, false, 535), (7, 80, 90, false, 538), (7, 83, 91, false, 545), (0, 85, 86, false, 549), (9, 18, 2, false, 553), (0, 89, 82, false, 557), (9, 23, 3, false, 561), (0, 92, 30, false, 565), (0, 96, 79, false, 568), (0, 99, 83, false, 569), (9, 27, 4, false, 573), (9, 31, 5, false, 577), (9, 36, 6, false, 581), (0, 107, 44, false, 585), (9, 41, 7, false, 589), (9, 45, 8, false, 593), (0, 113, 97, false, 597), (7, 117, 92, false, 601), (7, 102, 37, false, 605), (9, 49, 9, false, 608), (0, 116, 94, false, 612)]
def mm_ct_2 : List (Nat × Nat × Nat × Bool × Nat) := [(0, 119, 100, false, 616), (7, 123, 99, false, 620), (7, 120, 98, false, 624), (0, 122, 101, false, 628), (7, 126, 94, false, 632), (7, 129, 100, false, 633), (0, 126, 214, false, 634), (0, 131, 95, false, 640), (0, 134, 102, false, 644), (9, 53, 10, false, 648), (0, 140, 99, false, 652), (9, 57, 11, false, 653), (0, 143, 96, false, 657), (0, 146, 78, false, 661), (9, 61, 12, false, 666), (0, 153, 81, false, 670), (9, 65, 13, false, 674), (9, 69, 14, false, 678), (9, 73, 15, false, 682), (9, 77, 16, false, 686), (0, 162, 31, false, 690), (0, 165, 80, false, 693), (0, 168, 67, false, 694), (0, 171, 103, false, 698), (0, 175, 104, false, 702), (7, 141, 86, false, 706), (7, 145, 103, false, 707), (0, 179, 105, false, 708), (0, 182, 106, false, 712), (9, 82, 17, false, 716), (0, 185, 68, false, 720), (4, 22, 221, false, 724), (0, 188, 88, false, 727), (0, 191, 70, false, 728), (4, 28, 69, false, 732), (9, 86, 18, false, 736), (0, 193, 107, false, 740), (9, 90, 19, false, 745), (0, 199, 34, false, 750), (9, 95, 20, false, 753)]
def mm_ct_3 : List (Nat × Nat × Nat × Bool × Nat) := [(9, 99, 21, false, 757), (9, 103, 22, false, 761), (0, 209, 87, false, 765), (9, 107, 23, false, 766), (0, 213, 32, false, 770), (9, 111, 24, false, 773), (0, 216, 69, false, 777), (9, 115, 25, false, 778), (9, 120, 26, false, 783), (0, 232, 2, false, 787), (9, 124, 27, false, 788), (0, 238, 38, false, 792), (1, 19, 39, false, 795), (9, 12, 110, false, 800), (8, 75, 111, false, 804), (9, 17, 116, false, 950), (8, 85, 108, false, 955), (8, 107, 114, false, 958), (8, 92, 112, false, 962), (8, 96, 113, false, 966), (8, 111, 115, false, 970), (8, 114, 120, false, 977), (8, 134, 172, false, 982), (8, 362, 171, false, 986), (8, 356, 170, false, 990), (8, 353, 167, false, 994), (8, 201, 123, false, 998), (8, 161, 122, false, 1002), (8, 204, 126, false, 1011), (8, 192, 125, false, 1015), (8, 349, 166, false, 1019), (8, 198, 124, false, 1023), (8, 346, 165, false, 1027), (8, 343, 164, false, 1031), (8, 340, 163, false, 1035), (8, 229, 128, false, 1039), (8, 322, 157, false, 1043), (8, 304, 151, false, 1047), (8, 286, 145, false, 1051), (8, 268, 139, false, 1055)]
def mm_ct_4 : List (Nat × Nat × Nat × Bool × Nat) := [(8, 250, 133, false, 1059), (8, 245, 132, false, 1063), (8, 240, 131, false, 1067), (8, 237, 130, false, 1071), (8, 226, 127, false, 1075), (8, 233, 129, false, 1079), (8, 265, 138, false, 1085), (8, 262, 137, false, 1089), (8, 259, 136, false, 1093), (8, 256, 135, false, 1097), (8, 253, 134, false, 1101), (8, 283, 144, false, 1105), (8, 280, 143, false, 1109), (8, 277, 142, false, 1113), (8, 274, 141, false, 1117), (8, 271, 140, false, 1121), (8, 301, 150, false, 1125), (8, 298, 149, false, 1129), (8, 295, 148, false, 1133), (8, 292, 147, false, 1137), (8, 289, 146, false, 1141), (8, 319, 156, false, 1145), (8, 316, 155, false, 1149), (8, 313, 154, false, 1153), (8, 310, 153, false, 1157), (8, 307, 152, false, 1161), (8, 337, 162, false, 1165), (8, 334, 161, false, 1169), (8, 331, 160, false, 1173), (8, 328, 159, false, 1177), (8, 325, 158, false, 1181), (8, 359, 109, false, 1185), (8, 138, 173, false, 1188), (8, 141, 175, false, 1192), (8, 144, 176, false, 1196), (8, 118, 117, false, 1200), (9, 22, 118, false, 1204), (9, 26, 119, false, 1208), (9, 30, 120, false, 1214), (9, 35, 121, false, 1215)]
def mm_ct_5 : List (Nat × Nat × Nat × Bool × Nat) := [(9, 40, 168, false, 1220), (9, 44, 169, false, 1224), (9, 48, 184, false, 1228), (8, 381, 183, false, 1232), (8, 378, 174, false, 1236), (9, 52, 186, false, 1240), (8, 384, 182, false, 1244), (8, 372, 177, false, 1248), (8, 375, 181, false, 1252), (8, 369, 180, false, 1256), (8, 387, 179, false, 1260), (8, 390, 178, false, 1263), (8, 393, 185, false, 1267), (9, 56, 187, false, 1271), (9, 60, 188, false, 1275), (9, 64, 192, false, 1279), (8, 402, 191, false, 1283), (8, 396, 189, false, 1287), (8, 399, 190, false, 1291), (9, 68, 194, false, 1295), (8, 405, 193, false, 1299), (9, 72, 195, false, 1303), (9, 76, 196, false, 1307), (9, 81, 198, false, 1311), (8, 408, 207, false, 1315), (8, 413, 197, false, 1320), (9, 85, 199, false, 1324), (8, 418, 208, false, 1329), (9, 89, 202, false, 1335), (8, 422, 200, false, 1339), (8, 426, 201, false, 1344), (9, 94, 203, false, 1348), (9, 98, 204, false, 1354), (9, 102, 205, false, 1358), (9, 106, 206, false, 1362), (9, 110, 208, false, 1366), (9, 114, 209, false, 1367), (9, 119, 210, false, 1371), (9, 123, 211, false, 1375), (8, 451, 118, false, 1379)]
def mm_ct_6 : List (Nat × Nat × Nat × Bool × Nat) := [(9, 127, 213, false, 1380), (8, 454, 212, false, 1384)]
def mm_ct : List (Nat × Nat × Nat × Bool × Nat) := mm_ct_0 ++ (mm_ct_1 ++ (mm_ct_2 ++ (mm_ct_3 ++ (mm_ct_4 ++ (mm_ct_5 ++ (mm_ct_6))))))
/-- calls of Object() (0) and of arraycopy (1) -/
def mm_nt : List (Nat × Nat × Nat × Nat) := [(0, 1, 0, 115), (3, 3, 0, 123), (2, 3, 0, 147), (7, 3, 0, 185), (4, 3, 0, 243), (14, 304, 3, 405), (14, 150, 1, 408), (5, 3, 0, 414), (7, 97, 2, 542), (7, 47, 1, 665), (0, 226, 1, 782), (8, 7, 0, 803)]
/-- fields: class, place, kind of object, which, of a nest mate, where the word stands -/
def mm_ft : List (Nat × Nat × Nat × Nat × Bool × Nat) := [(3, 11, 1, 0, false, 126), (3, 26, 1, 1, false, 127), (0, 103, 1, 1, true, 128), (7, 140, 1, 1, true, 129), (3, 19, 1, 2, false, 130), (3, 23, 1, 3, false, 131), (2, 9, 0, 0, false, 148), (2, 21, 0, 1, false, 149), (0, 212, 0, 1, true, 150), (2, 28, 0, 2, false, 151), (2, 40, 0, 3, false, 152), (2, 25, 0, 4, false, 153), (2, 86, 0, 5, false, 154), (2, 31, 0, 6, false, 155), (2, 15, 0, 7, false, 156), (2, 34, 0, 8, false, 157), (2, 18, 0, 9, false, 158), (7, 37, 4, 0, false, 186), (7, 41, 4, 1, false, 187), (0, 150, 4, 1, true, 188), (7, 9, 4, 2, false, 189), (0, 137, 4, 2, true, 190), (7, 44, 4, 3, false, 191), (0, 156, 4, 3, true, 192), (7, 15, 4, 4, false, 193), (0, 235, 4, 4, true, 194), (7, 19, 4, 5, false, 195), (0, 243, 4, 5, true, 196), (7, 53, 4, 6, false, 197), (0, 206, 4, 6, true, 198), (7, 22, 4, 7, false, 199), (7, 25, 4, 8, false, 200), (7, 28, 4, 9, false, 201), (7, 31, 4, 10, false, 202), (7, 34, 4, 11, false, 203), (7, 56, 4, 12, false, 204), (0, 110, 4, 12, true, 205), (7, 59, 4, 13, false, 206), (0, 159, 4, 13, true, 207), (4, 9, 2, 0, false, 244), (0, 219, 2, 0, true, 245), (4, 19, 2, 1, false, 246), (7, 132, 2, 1, true, 247), (4, 15, 2, 2, false, 248), (0, 222, 2, 2, true, 249), (7, 137, 2, 2, true, 250), (5, 9, 3, 0, false, 415), (3, 37, 3, 0, true, 416), (5, 15, 3, 1, false, 417), (5, 19, 3, 2, false, 418), (0, 10, 5, 0, false, 435), (0, 19, 5, 1, false, 436), (0, 28, 5, 2, false, 437), (0, 32, 5, 3, false, 438), (0, 35, 5, 4, false, 439), (0, 40, 5, 5, false, 440), (0, 202, 5, 6, false, 441), (8, 13, 6, 1, false, 808), (8, 17, 6, 2, false, 809), (8, 79, 6, 3, false, 810), (8, 125, 6, 4, false, 811), (8, 20, 6, 5, false, 812), (8, 149, 6, 6, false, 813), (8, 122, 6, 7, false, 814), (8, 23, 6, 8, false, 815), (8, 26, 6, 9, false, 816), (8, 29, 6, 10, false, 817), (8, 82, 6, 11, false, 818), (8, 32, 6, 12, false, 819), (8, 35, 6, 13, false, 820), (8, 38, 6, 14, false, 821), (8, 89, 6, 15, false, 822), (8, 208, 6, 16, false, 823), (8, 211, 6, 17, false, 824), (8, 214, 6, 18, false, 825), (8, 217, 6, 19, false, 826), (8, 220, 6, 20, false, 827), (8, 223, 6, 21, false, 828), (8, 155, 6, 22, false, 829), (8, 152, 6, 23, false, 830), (8, 158, 6, 24, false, 831), (8, 168, 6, 25, false, 832), (8, 165, 6, 26, false, 833), (8, 179, 6, 27, false, 834), (8, 195, 6, 28, false, 835), (8, 185, 6, 29, false, 836), (8, 189, 6, 30, false, 837), (8, 366, 6, 31, false, 838), (8, 41, 6, 32, false, 839), (8, 44, 6, 33, false, 840), (8, 47, 6, 34, false, 841), (8, 50, 6, 35, false, 842), (8, 53, 6, 36, false, 843), (8, 56, 6, 37, false, 844), (8, 59, 6, 38, false, 845), (8, 433, 6, 39, false, 846), (8, 436, 6, 40, false, 847), (8, 439, 6, 41, false, 848), (8, 442, 6, 42, false, 849), (8, 62, 6, 43, false, 850), (8, 66, 6, 44, false, 851), (8, 69, 6, 45, false, 852), (8, 72, 6, 46, false, 853)]
def mm_kt : List (Nat × Nat × Int32 × Nat) := [(10, 265, 1431655765, 637), (10, 266, 858993459, 638), (10, 267, 252645135, 639), (7, 149, 1103515245, 744), (8, 421, 1103515245, 1343)]
def mm_lt : List (Nat × Nat × Int64 × Nat) := [(0, 197, -4611686018427387904, 749), (8, 105, 5, 954), (8, 99, 99, 974), (8, 101, 8, 975), (8, 103, 9, 976), (8, 132, 12, 981), (8, 171, 97, 1006), (8, 173, 122, 1007), (8, 175, 48, 1008), (8, 177, 57, 1009), (8, 183, 10, 1010), (8, 243, 43, 1083), (8, 248, 60, 1084), (8, 128, 77, 1212), (8, 130, 999, 1213), (8, 147, 255, 1219), (8, 445, 3, 1318), (8, 411, 6, 1319), (8, 416, 40, 1328), (8, 447, -1, 1333), (8, 449, 2, 1334), (8, 429, 20, 1352), (8, 431, -4611686018427387904, 1353)]
/-- texts: class, place, which -/
def mm_st : List (Nat × Nat × Nat × Nat) := [(0, 45, 0, 258), (2, 107, 1, 326), (2, 113, 2, 333), (2, 115, 3, 334), (2, 117, 4, 335), (2, 119, 5, 336), (2, 121, 6, 337), (2, 123, 7, 338), (2, 125, 8, 339), (2, 127, 9, 340), (2, 129, 10, 341), (2, 131, 11, 342), (2, 133, 12, 343)]
def mm_sx : List String := ["says 20 + day ; slacks 3 + force ; holds 9 ;", "tone", "day", "numbe\x72", "force", "mended", "seam", "says", "slacks", "holds", "o\x72", "and", "not"]
def mm_sb : List (List Int32) := [[115, 97, 121, 115, 32, 50, 48, 32, 43, 32, 100, 97, 121, 32, 59, 32, 115, 108, 97, 99, 107, 115, 32, 51, 32, 43, 32, 102, 111, 114, 99, 101, 32, 59, 32, 104, 111, 108, 100, 115, 32, 57, 32, 59], [116, 111, 110, 101], [100, 97, 121], [110, 117, 109, 98, 101, 114], [102, 111, 114, 99, 101], [109, 101, 110, 100, 101, 100], [115, 101, 97, 109], [115, 97, 121, 115], [115, 108, 97, 99, 107, 115], [104, 111, 108, 100, 115], [111, 114], [97, 110, 100], [110, 111, 116]]
/-- new: class, place, kind, where classLink, instantiable, initialized stand -/
def mm_ot : List (Nat × Nat × Nat × Nat × Nat × Nat) := [(9, 7, 5, 110, 111, 93), (0, 7, 1, 118, 119, 94), (3, 9, 3, 124, 394, 103), (0, 16, 0, 142, 143, 95), (0, 23, 4, 180, 181, 96), (0, 38, 2, 237, 239, 97), (2, 49, 3, 393, 394, 103), (9, 10, 6, 798, 799, 107)]
/-- rows of references: class, place, sort, where classLink stands -/
def mm_at : List (Nat × Nat × Nat × Nat) := [(3, 9, 12, 124), (0, 38, 13, 237)]
/-- a word stands at a place of the tables, and may be carried to any callee -/
def mm_wa (i : Nat) (w : Cond) : Bool := match lw_tbl[i]? with
  | some x => decide (x = w) && goodWord w
  | none => false
/-- the words that every method of the system is given -/
def mm_ws : List Cond := lw_tbl.filter goodWord
theorem mm_wa_in {i : Nat} {w : Cond} (h : mm_wa i w = true) : w ∈ mm_ws := by
  unfold mm_wa at h
  split at h
  · next x hx =>
    simp only [Bool.and_eq_true, decide_eq_true_eq] at h
    obtain ⟨rfl, h2⟩ := h
    exact List.mem_filter.mpr ⟨List.mem_of_getElem? hx, h2⟩
  · cases h
def mm_c (c : Nat) : String := mm_cls.getD c ""
/-- a method's own words -/
def mm_okm (s : Nat × Nat × Nat × Nat × Nat × Nat × Nat × Nat) : Bool := match mm_get s with
  | (y, _, n, r, c, np, kd) => mm_wa s.2.2.2.2.2.1 (.initialized y.cls) && (mm_wa s.2.2.2.2.2.2.1 (if kd = 1 then .static y else .instanceMethod y) && ((kd != 0 || mm_wa s.2.2.2.2.2.2.2 (.selects y.cls y y)) && (plainName y.cls && (decide (mm_c c = y.cls) && (decide ((parseMethodDescriptor y.desc).map (fun d => d.parameters.length) = some np) && (decide (y.cls ≠ "java/lang/invoke/MethodHandle") && (decide (y.cls ≠ "java/lang/invoke/VarHandle") && (decide (n ≤ 40) && (kd != 2 || (decide (y.name = "<init>") && decide (r = none))))))))))) && decide (kd ≤ 2)
def mm_law : Nat := 224
theorem mm_src_len : mm_src.length = mm_law := by decide +kernel
theorem mm_okm_0 : mm_src_0.all mm_okm = true := by decide +kernel
theorem mm_okm_1 : mm_src_1.all mm_okm = true := by decide +kernel
theorem mm_okm_2 : mm_src_2.all mm_okm = true := by decide +kernel
theorem mm_okm_3 : mm_src_3.all mm_okm = true := by decide +kernel
theorem mm_okm_4 : mm_src_4.all mm_okm = true := by decide +kernel
theorem mm_okm_5 : mm_src_5.all mm_okm = true := by decide +kernel
theorem mm_okm_6 : mm_src_6.all mm_okm = true := by decide +kernel
theorem mm_okm_7 : mm_src_7.all mm_okm = true := by decide +kernel
theorem mm_okm_8 : mm_src_8.all mm_okm = true := by decide +kernel
theorem mm_okm_9 : mm_src_9.all mm_okm = true := by decide +kernel
theorem mm_okm_10 : mm_src_10.all mm_okm = true := by decide +kernel
theorem mm_okm_11 : mm_src_11.all mm_okm = true := by decide +kernel
def mm_okc (q : Nat × Nat × Nat × Bool × Nat) : Bool := match mm_tab[q.2.2.1]? with
  | some r => if q.2.2.2.1 = true then decide (lw_tbl[q.2.2.2.2]? = some (.methodLinkNest (mm_c q.1) q.2.1 r.1 "MendedWithTheWord")) else mm_wa q.2.2.2.2 (.methodLink (mm_c q.1) q.2.1 r.1)
  | none => false
theorem mm_okm_all : ∀ s ∈ mm_src, mm_okm s = true := by
  intro s hs
  simp only [mm_src, List.mem_append] at hs
  rcases hs with h | h | h | h | h | h | h | h | h | h | h | h
  · exact List.all_eq_true.mp mm_okm_0 s h
  · exact List.all_eq_true.mp mm_okm_1 s h
  · exact List.all_eq_true.mp mm_okm_2 s h
  · exact List.all_eq_true.mp mm_okm_3 s h
  · exact List.all_eq_true.mp mm_okm_4 s h
  · exact List.all_eq_true.mp mm_okm_5 s h
  · exact List.all_eq_true.mp mm_okm_6 s h
  · exact List.all_eq_true.mp mm_okm_7 s h
  · exact List.all_eq_true.mp mm_okm_8 s h
  · exact List.all_eq_true.mp mm_okm_9 s h
  · exact List.all_eq_true.mp mm_okm_10 s h
  · exact List.all_eq_true.mp mm_okm_11 s h
theorem mm_okc_0 : mm_ct_0.all mm_okc = true := by decide +kernel
theorem mm_okc_1 : mm_ct_1.all mm_okc = true := by decide +kernel
theorem mm_okc_2 : mm_ct_2.all mm_okc = true := by decide +kernel
theorem mm_okc_3 : mm_ct_3.all mm_okc = true := by decide +kernel
theorem mm_okc_4 : mm_ct_4.all mm_okc = true := by decide +kernel
theorem mm_okc_5 : mm_ct_5.all mm_okc = true := by decide +kernel
theorem mm_okc_6 : mm_ct_6.all mm_okc = true := by decide +kernel
theorem mm_okc_all : ∀ s ∈ mm_ct, mm_okc s = true := by
  intro s hs
  simp only [mm_ct, List.mem_append] at hs
  rcases hs with h | h | h | h | h | h | h
  · exact List.all_eq_true.mp mm_okc_0 s h
  · exact List.all_eq_true.mp mm_okc_1 s h
  · exact List.all_eq_true.mp mm_okc_2 s h
  · exact List.all_eq_true.mp mm_okc_3 s h
  · exact List.all_eq_true.mp mm_okc_4 s h
  · exact List.all_eq_true.mp mm_okc_5 s h
  · exact List.all_eq_true.mp mm_okc_6 s h
def mm_T (ci : Nat) : u_T := (vwCl.getD ci ("", TX1, 0)).2.1
def mm_C (ci : Nat) : String := (vwCl.getD ci ("", TX1, 0)).1
def mm_nf (ci : Nat) : Nat := (vwCl.getD ci ("", TX1, 0)).2.2
def mm_ty (ci : Nat) : Nat → FieldType := match ci with | 0 => tyX1 | 1 => tyX2 | 2 => tyX3 | 3 => tyX4 | 4 => tyX6 | 5 => tyX7 | _ => tyX8
def mm_okf (q : Nat × Nat × Nat × Nat × Bool × Nat) : Bool :=
  decide (q.2.2.1 < 7) && (decide (q.2.2.2.1 < mm_nf q.2.2.1) && (decide ((mm_T q.2.2.1 q.2.2.2.1).1 = mm_C q.2.2.1) && (if q.2.2.2.2.1 = true then decide (lw_tbl[q.2.2.2.2.2]? = some (.fieldLinkNest (mm_c q.1) q.2.1 (mm_C q.2.2.1) (mm_T q.2.2.1 q.2.2.2.1).2.1 (mm_T q.2.2.1 q.2.2.2.1).2.2.1 "MendedWithTheWord")) else mm_wa q.2.2.2.2.2 (.fieldLink (mm_c q.1) q.2.1 (mm_C q.2.2.1) (mm_T q.2.2.1 q.2.2.2.1).2.1 (mm_T q.2.2.1 q.2.2.2.1).2.2.1))))
theorem mm_okf_all : mm_ft.all mm_okf = true := by decide +kernel
def mm_okn (q : Nat × Nat × Nat × Nat) : Bool := mm_wa q.2.2.2 (.methodLink (mm_c q.1) q.2.1 (if q.2.2.1 = 0 then objectInit else if q.2.2.1 = 1 then arraycopyName else if q.2.2.1 = 2 then Lib.Math.abs.name else Lib.Math.min.name))
theorem mm_okn_all : mm_nt.all mm_okn = true := by decide +kernel
theorem mm_jw : mm_wa 543 (.static Lib.Math.abs.name) = true ∧ mm_wa 406 (.static Lib.Math.min.name) = true ∧ mm_wa 105 (.initialized "java/lang/Math") = true ∧ mm_wa 106 (.initialized "java/lang/System") = true ∧ mm_wa 410 (.native arraycopyName) = true ∧ mm_wa 409 (.static arraycopyName) = true ∧ mm_wa 116 (.instanceMethod objectInit) = true := by decide +kernel
theorem mm_jc : mm_wa 544 (.code Lib.Math.abs.name Lib.Math.abs.code 1 (some .int)) = true ∧ mm_wa 407 (.code Lib.Math.min.name Lib.Math.min.code 2 (some .int)) = true ∧ mm_wa 117 (.code objectInit ⟨#[0xb1]⟩ 1 none) = true := by decide +kernel
theorem mm_sf : mm_wa 1387 (.fieldLink "java/lang/String" 9 "java/lang/String" "value" "[B") = true ∧ mm_wa 1388 (.fieldLink "java/lang/String" 15 "java/lang/String" "coder" "B") = true ∧ mm_wa 267 (.fieldLink "java/lang/String" 38 "java/lang/String" "COMPACT_STRINGS" "Z") = true ∧ mm_wa 283 (.fieldLink "java/lang/String" 1053 "jdk/internal/util/Preconditions" "SIOOBE_FORMATTER" "Ljava/util/function/BiFunction;") = true := by decide +kernel
def mm_islay (w : Cond) : Bool := match w with
  | .lays .. | .laysFinal .. | .arrayClass _ => true
  | _ => false
def mm_lays : List Cond := lw_tbl.filter mm_islay
theorem mm_uw0 : ((List.range 7).flatMap (fun ci => u_ws (mm_C ci) (mm_T ci) (mm_nf ci)) ++ [Cond.arrayClass .int, Cond.arrayClass .boolean]).all (fun w => decide (w ∈ mm_lays) && goodWord w) = true := by decide +kernel
theorem mm_okk_all : (mm_kt.all fun q => mm_wa q.2.2.2 (.constant (mm_c q.1) q.2.1 q.2.2.1)) = true := by decide +kernel
theorem mm_okl_all : (mm_lt.all fun q => mm_wa q.2.2.2 (.constantLong (mm_c q.1) q.2.1 q.2.2.1)) = true := by decide +kernel
theorem mm_oko_all : (mm_ot.all fun q => decide (q.2.2.1 < 7) && (mm_wa q.2.2.2.1 (.classLink (mm_c q.1) q.2.1 (mm_C q.2.2.1)) && (mm_wa q.2.2.2.2.1 (.instantiable (mm_C q.2.2.1) (mm_nf q.2.2.1)) && mm_wa q.2.2.2.2.2 (.initialized (mm_C q.2.2.1))))) = true := by decide +kernel
def mm_E (k : Nat) : String := if k = 12 then "MendedWithTheWord$Text" else "MendedWithTheWord$Sheet"
theorem mm_oka_all : (mm_at.all fun q => decide (q.2.2.1 = 12 ∨ q.2.2.1 = 13) && mm_wa q.2.2.2 (.classLink (mm_c q.1) q.2.1 (mm_E q.2.2.1))) = true := by decide +kernel
theorem mm_oks_all : (mm_st.all fun q => decide (q.2.2.1 < 13) && decide (lw_tbl[q.2.2.2]? = some (.stringRef (mm_c q.1) q.2.1 (mm_sx.getD q.2.2.1 "")))) = true := by decide +kernel
