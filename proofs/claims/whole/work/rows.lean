section
-- ===== PART A: goes FIRST, ahead of the names: the tables' words, and 'selects' of the private methods out of them =====
/-- a private method of a class that the tables say can be made, by its rows of tables_1 -/
def lw_okq (q : MethodName × Nat) : Prop := (q.1.cls ≠ "java/lang/invoke/MethodHandle" ∧ q.1.cls ≠ "java/lang/invoke/VarHandle") ∧ Cond.instantiable q.1.cls q.2 ∈ tables_1 ∧ Cond.privateMethod q.1 ∈ tables_1 ∧ Cond.instanceMethod q.1 ∈ tables_1
theorem lw_p0 : lw_okq (⟨"MendedWithTheWord$Reade\x72", "look", "()V"⟩, 10) := ⟨⟨by decide +kernel, by decide +kernel⟩, List.mem_of_getElem? (i := 51) (by decide +kernel), List.mem_of_getElem? (i := 224) (by decide +kernel), List.mem_of_getElem? (i := 225) (by decide +kernel)⟩
theorem lw_p1 : lw_okq (⟨"MendedWithTheWord$Reade\x72", "lookAtWord", "()V"⟩, 10) := ⟨⟨by decide +kernel, by decide +kernel⟩, List.mem_of_getElem? (i := 51) (by decide +kernel), List.mem_of_getElem? (i := 231) (by decide +kernel), List.mem_of_getElem? (i := 232) (by decide +kernel)⟩
theorem lw_p2 : lw_okq (⟨"MendedWithTheWord$Reade\x72", "isWord", "(Ljava/lang/String;)Z"⟩, 10) := ⟨⟨by decide +kernel, by decide +kernel⟩, List.mem_of_getElem? (i := 51) (by decide +kernel), List.mem_of_getElem? (i := 236) (by decide +kernel), List.mem_of_getElem? (i := 237) (by decide +kernel)⟩
theorem lw_p3 : lw_okq (⟨"MendedWithTheWord$Reade\x72", "lookAtDigits", "()V"⟩, 10) := ⟨⟨by decide +kernel, by decide +kernel⟩, List.mem_of_getElem? (i := 51) (by decide +kernel), List.mem_of_getElem? (i := 256) (by decide +kernel), List.mem_of_getElem? (i := 257) (by decide +kernel)⟩
theorem lw_p4 : lw_okq (⟨"MendedWithTheWord$Reade\x72", "readOrs", "()Z"⟩, 10) := ⟨⟨by decide +kernel, by decide +kernel⟩, List.mem_of_getElem? (i := 51) (by decide +kernel), List.mem_of_getElem? (i := 263) (by decide +kernel), List.mem_of_getElem? (i := 264) (by decide +kernel)⟩
theorem lw_p5 : lw_okq (⟨"MendedWithTheWord$Reade\x72", "readAnds", "()Z"⟩, 10) := ⟨⟨by decide +kernel, by decide +kernel⟩, List.mem_of_getElem? (i := 51) (by decide +kernel), List.mem_of_getElem? (i := 267) (by decide +kernel), List.mem_of_getElem? (i := 268) (by decide +kernel)⟩
theorem lw_p6 : lw_okq (⟨"MendedWithTheWord$Reade\x72", "readNot", "()Z"⟩, 10) := ⟨⟨by decide +kernel, by decide +kernel⟩, List.mem_of_getElem? (i := 51) (by decide +kernel), List.mem_of_getElem? (i := 271) (by decide +kernel), List.mem_of_getElem? (i := 272) (by decide +kernel)⟩
theorem lw_p7 : lw_okq (⟨"MendedWithTheWord$Reade\x72", "readCompared", "()Z"⟩, 10) := ⟨⟨by decide +kernel, by decide +kernel⟩, List.mem_of_getElem? (i := 51) (by decide +kernel), List.mem_of_getElem? (i := 275) (by decide +kernel), List.mem_of_getElem? (i := 276) (by decide +kernel)⟩
theorem lw_p8 : lw_okq (⟨"MendedWithTheWord$Reade\x72", "readSum", "()Z"⟩, 10) := ⟨⟨by decide +kernel, by decide +kernel⟩, List.mem_of_getElem? (i := 51) (by decide +kernel), List.mem_of_getElem? (i := 279) (by decide +kernel), List.mem_of_getElem? (i := 280) (by decide +kernel)⟩
theorem lw_p9 : lw_okq (⟨"MendedWithTheWord$Reade\x72", "readTerm", "()Z"⟩, 10) := ⟨⟨by decide +kernel, by decide +kernel⟩, List.mem_of_getElem? (i := 51) (by decide +kernel), List.mem_of_getElem? (i := 283) (by decide +kernel), List.mem_of_getElem? (i := 284) (by decide +kernel)⟩
theorem lw_p10 : lw_okq (⟨"MendedWithTheWord$Reade\x72", "readOne", "()Z"⟩, 10) := ⟨⟨by decide +kernel, by decide +kernel⟩, List.mem_of_getElem? (i := 51) (by decide +kernel), List.mem_of_getElem? (i := 287) (by decide +kernel), List.mem_of_getElem? (i := 288) (by decide +kernel)⟩
theorem lw_p11 : lw_okq (⟨"MendedWithTheWord$Reade\x72", "write", "(I)V"⟩, 10) := ⟨⟨by decide +kernel, by decide +kernel⟩, List.mem_of_getElem? (i := 51) (by decide +kernel), List.mem_of_getElem? (i := 294) (by decide +kernel), List.mem_of_getElem? (i := 295) (by decide +kernel)⟩
theorem lw_p12 : lw_okq (⟨"MendedWithTheWord$Reade\x72", "readInside", "()Z"⟩, 10) := ⟨⟨by decide +kernel, by decide +kernel⟩, List.mem_of_getElem? (i := 51) (by decide +kernel), List.mem_of_getElem? (i := 298) (by decide +kernel), List.mem_of_getElem? (i := 299) (by decide +kernel)⟩
theorem lw_p13 : lw_okq (⟨"MendedWithTheWord", "least", "(I)I"⟩, 7) := ⟨⟨by decide +kernel, by decide +kernel⟩, List.mem_of_getElem? (i := 19) (by decide +kernel), List.mem_of_getElem? (i := 382) (by decide +kernel), List.mem_of_getElem? (i := 383) (by decide +kernel)⟩
theorem lw_p14 : lw_okq (⟨"MendedWithTheWord", "most", "(I)I"⟩, 7) := ⟨⟨by decide +kernel, by decide +kernel⟩, List.mem_of_getElem? (i := 19) (by decide +kernel), List.mem_of_getElem? (i := 386) (by decide +kernel), List.mem_of_getElem? (i := 387) (by decide +kernel)⟩
theorem lw_p15 : lw_okq (⟨"MendedWithTheWord$Vase", "telling", "(II)I"⟩, 14) := ⟨⟨by decide +kernel, by decide +kernel⟩, List.mem_of_getElem? (i := 89) (by decide +kernel), List.mem_of_getElem? (i := 399) (by decide +kernel), List.mem_of_getElem? (i := 400) (by decide +kernel)⟩
def lw_privs_1 : List (MethodName × Nat) := [(⟨"MendedWithTheWord$Reade\x72", "look", "()V"⟩, 10), (⟨"MendedWithTheWord$Reade\x72", "lookAtWord", "()V"⟩, 10), (⟨"MendedWithTheWord$Reade\x72", "isWord", "(Ljava/lang/String;)Z"⟩, 10), (⟨"MendedWithTheWord$Reade\x72", "lookAtDigits", "()V"⟩, 10), (⟨"MendedWithTheWord$Reade\x72", "readOrs", "()Z"⟩, 10), (⟨"MendedWithTheWord$Reade\x72", "readAnds", "()Z"⟩, 10), (⟨"MendedWithTheWord$Reade\x72", "readNot", "()Z"⟩, 10), (⟨"MendedWithTheWord$Reade\x72", "readCompared", "()Z"⟩, 10), (⟨"MendedWithTheWord$Reade\x72", "readSum", "()Z"⟩, 10), (⟨"MendedWithTheWord$Reade\x72", "readTerm", "()Z"⟩, 10), (⟨"MendedWithTheWord$Reade\x72", "readOne", "()Z"⟩, 10), (⟨"MendedWithTheWord$Reade\x72", "write", "(I)V"⟩, 10), (⟨"MendedWithTheWord$Reade\x72", "readInside", "()Z"⟩, 10), (⟨"MendedWithTheWord", "least", "(I)I"⟩, 7), (⟨"MendedWithTheWord", "most", "(I)I"⟩, 7), (⟨"MendedWithTheWord$Vase", "telling", "(II)I"⟩, 14)]
theorem lw_r1 : ∀ q ∈ lw_privs_1, lw_okq q := List.forall_mem_cons.mpr ⟨lw_p0, List.forall_mem_cons.mpr ⟨lw_p1, List.forall_mem_cons.mpr ⟨lw_p2, List.forall_mem_cons.mpr ⟨lw_p3, List.forall_mem_cons.mpr ⟨lw_p4, List.forall_mem_cons.mpr ⟨lw_p5, List.forall_mem_cons.mpr ⟨lw_p6, List.forall_mem_cons.mpr ⟨lw_p7, List.forall_mem_cons.mpr ⟨lw_p8, List.forall_mem_cons.mpr ⟨lw_p9, List.forall_mem_cons.mpr ⟨lw_p10, List.forall_mem_cons.mpr ⟨lw_p11, List.forall_mem_cons.mpr ⟨lw_p12, List.forall_mem_cons.mpr ⟨lw_p13, List.forall_mem_cons.mpr ⟨lw_p14, List.forall_mem_cons.mpr ⟨lw_p15, fun _ h => absurd h List.not_mem_nil⟩⟩⟩⟩⟩⟩⟩⟩⟩⟩⟩⟩⟩⟩⟩⟩
theorem lw_p16 : lw_okq (⟨"MendedWithTheWord$Rules", "worth", "(III)I"⟩, 4) := ⟨⟨by decide +kernel, by decide +kernel⟩, List.mem_of_getElem? (i := 27) (by decide +kernel), List.mem_of_getElem? (i := 426) (by decide +kernel), List.mem_of_getElem? (i := 427) (by decide +kernel)⟩
theorem lw_p17 : lw_okq (⟨"MendedWithTheWord$Vase", "holdsFo\x72", "(I)I"⟩, 14) := ⟨⟨by decide +kernel, by decide +kernel⟩, List.mem_of_getElem? (i := 89) (by decide +kernel), List.mem_of_getElem? (i := 510) (by decide +kernel), List.mem_of_getElem? (i := 511) (by decide +kernel)⟩
theorem lw_p18 : lw_okq (⟨"MendedWithTheWord$Vase", "hasItsPieces", "(I)Z"⟩, 14) := ⟨⟨by decide +kernel, by decide +kernel⟩, List.mem_of_getElem? (i := 89) (by decide +kernel), List.mem_of_getElem? (i := 533) (by decide +kernel), List.mem_of_getElem? (i := 534) (by decide +kernel)⟩
theorem lw_p19 : lw_okq (⟨"MendedWithTheWordModel", "spell", "(IIIIIIIII)V"⟩, 47) := ⟨⟨by decide +kernel, by decide +kernel⟩, List.mem_of_getElem? (i := 707) (by decide +kernel), List.mem_of_getElem? (i := 713) (by decide +kernel), List.mem_of_getElem? (i := 714) (by decide +kernel)⟩
theorem lw_p20 : lw_okq (⟨"MendedWithTheWordModel", "isOf", "(II)Z"⟩, 47) := ⟨⟨by decide +kernel, by decide +kernel⟩, List.mem_of_getElem? (i := 707) (by decide +kernel), List.mem_of_getElem? (i := 867) (by decide +kernel), List.mem_of_getElem? (i := 868) (by decide +kernel)⟩
theorem lw_p21 : lw_okq (⟨"MendedWithTheWordModel", "isOne", "(I)Z"⟩, 47) := ⟨⟨by decide +kernel, by decide +kernel⟩, List.mem_of_getElem? (i := 707) (by decide +kernel), List.mem_of_getElem? (i := 871) (by decide +kernel), List.mem_of_getElem? (i := 872) (by decide +kernel)⟩
theorem lw_p22 : lw_okq (⟨"MendedWithTheWordModel", "isSeam", "(I)Z"⟩, 47) := ⟨⟨by decide +kernel, by decide +kernel⟩, List.mem_of_getElem? (i := 707) (by decide +kernel), List.mem_of_getElem? (i := 875) (by decide +kernel), List.mem_of_getElem? (i := 876) (by decide +kernel)⟩
theorem lw_p23 : lw_okq (⟨"MendedWithTheWordModel", "isValue", "(II)Z"⟩, 47) := ⟨⟨by decide +kernel, by decide +kernel⟩, List.mem_of_getElem? (i := 707) (by decide +kernel), List.mem_of_getElem? (i := 879) (by decide +kernel), List.mem_of_getElem? (i := 880) (by decide +kernel)⟩
theorem lw_p24 : lw_okq (⟨"MendedWithTheWordModel", "saysOf", "(III)I"⟩, 47) := ⟨⟨by decide +kernel, by decide +kernel⟩, List.mem_of_getElem? (i := 707) (by decide +kernel), List.mem_of_getElem? (i := 891) (by decide +kernel), List.mem_of_getElem? (i := 892) (by decide +kernel)⟩
theorem lw_p25 : lw_okq (⟨"MendedWithTheWordModel", "asks", "(IIII)I"⟩, 47) := ⟨⟨by decide +kernel, by decide +kernel⟩, List.mem_of_getElem? (i := 707) (by decide +kernel), List.mem_of_getElem? (i := 895) (by decide +kernel), List.mem_of_getElem? (i := 896) (by decide +kernel)⟩
theorem lw_p26 : lw_okq (⟨"MendedWithTheWordModel", "mendedMany", "()I"⟩, 47) := ⟨⟨by decide +kernel, by decide +kernel⟩, List.mem_of_getElem? (i := 707) (by decide +kernel), List.mem_of_getElem? (i := 899) (by decide +kernel), List.mem_of_getElem? (i := 900) (by decide +kernel)⟩
theorem lw_p27 : lw_okq (⟨"MendedWithTheWordModel", "read", "(II)I"⟩, 47) := ⟨⟨by decide +kernel, by decide +kernel⟩, List.mem_of_getElem? (i := 707) (by decide +kernel), List.mem_of_getElem? (i := 903) (by decide +kernel), List.mem_of_getElem? (i := 904) (by decide +kernel)⟩
theorem lw_p28 : lw_okq (⟨"MendedWithTheWordModel", "next", "()V"⟩, 47) := ⟨⟨by decide +kernel, by decide +kernel⟩, List.mem_of_getElem? (i := 707) (by decide +kernel), List.mem_of_getElem? (i := 907) (by decide +kernel), List.mem_of_getElem? (i := 908) (by decide +kernel)⟩
theorem lw_p29 : lw_okq (⟨"MendedWithTheWordModel", "byteAt", "(I)I"⟩, 47) := ⟨⟨by decide +kernel, by decide +kernel⟩, List.mem_of_getElem? (i := 707) (by decide +kernel), List.mem_of_getElem? (i := 911) (by decide +kernel), List.mem_of_getElem? (i := 912) (by decide +kernel)⟩
theorem lw_p30 : lw_okq (⟨"MendedWithTheWordModel", "isWord", "(IIIIIIII)Z"⟩, 47) := ⟨⟨by decide +kernel, by decide +kernel⟩, List.mem_of_getElem? (i := 707) (by decide +kernel), List.mem_of_getElem? (i := 920) (by decide +kernel), List.mem_of_getElem? (i := 921) (by decide +kernel)⟩
theorem lw_p31 : lw_okq (⟨"MendedWithTheWordModel", "isLette\x72", "(II)Z"⟩, 47) := ⟨⟨by decide +kernel, by decide +kernel⟩, List.mem_of_getElem? (i := 707) (by decide +kernel), List.mem_of_getElem? (i := 924) (by decide +kernel), List.mem_of_getElem? (i := 925) (by decide +kernel)⟩
def lw_privs_2 : List (MethodName × Nat) := [(⟨"MendedWithTheWord$Rules", "worth", "(III)I"⟩, 4), (⟨"MendedWithTheWord$Vase", "holdsFo\x72", "(I)I"⟩, 14), (⟨"MendedWithTheWord$Vase", "hasItsPieces", "(I)Z"⟩, 14), (⟨"MendedWithTheWordModel", "spell", "(IIIIIIIII)V"⟩, 47), (⟨"MendedWithTheWordModel", "isOf", "(II)Z"⟩, 47), (⟨"MendedWithTheWordModel", "isOne", "(I)Z"⟩, 47), (⟨"MendedWithTheWordModel", "isSeam", "(I)Z"⟩, 47), (⟨"MendedWithTheWordModel", "isValue", "(II)Z"⟩, 47), (⟨"MendedWithTheWordModel", "saysOf", "(III)I"⟩, 47), (⟨"MendedWithTheWordModel", "asks", "(IIII)I"⟩, 47), (⟨"MendedWithTheWordModel", "mendedMany", "()I"⟩, 47), (⟨"MendedWithTheWordModel", "read", "(II)I"⟩, 47), (⟨"MendedWithTheWordModel", "next", "()V"⟩, 47), (⟨"MendedWithTheWordModel", "byteAt", "(I)I"⟩, 47), (⟨"MendedWithTheWordModel", "isWord", "(IIIIIIII)Z"⟩, 47), (⟨"MendedWithTheWordModel", "isLette\x72", "(II)Z"⟩, 47)]
theorem lw_r2 : ∀ q ∈ lw_privs_2, lw_okq q := List.forall_mem_cons.mpr ⟨lw_p16, List.forall_mem_cons.mpr ⟨lw_p17, List.forall_mem_cons.mpr ⟨lw_p18, List.forall_mem_cons.mpr ⟨lw_p19, List.forall_mem_cons.mpr ⟨lw_p20, List.forall_mem_cons.mpr ⟨lw_p21, List.forall_mem_cons.mpr ⟨lw_p22, List.forall_mem_cons.mpr ⟨lw_p23, List.forall_mem_cons.mpr ⟨lw_p24, List.forall_mem_cons.mpr ⟨lw_p25, List.forall_mem_cons.mpr ⟨lw_p26, List.forall_mem_cons.mpr ⟨lw_p27, List.forall_mem_cons.mpr ⟨lw_p28, List.forall_mem_cons.mpr ⟨lw_p29, List.forall_mem_cons.mpr ⟨lw_p30, List.forall_mem_cons.mpr ⟨lw_p31, fun _ h => absurd h List.not_mem_nil⟩⟩⟩⟩⟩⟩⟩⟩⟩⟩⟩⟩⟩⟩⟩⟩
theorem lw_p32 : lw_okq (⟨"MendedWithTheWordModel", "part", "(Z)I"⟩, 47) := ⟨⟨by decide +kernel, by decide +kernel⟩, List.mem_of_getElem? (i := 707) (by decide +kernel), List.mem_of_getElem? (i := 928) (by decide +kernel), List.mem_of_getElem? (i := 929) (by decide +kernel)⟩
theorem lw_p33 : lw_okq (⟨"MendedWithTheWordModel", "fail", "()V"⟩, 47) := ⟨⟨by decide +kernel, by decide +kernel⟩, List.mem_of_getElem? (i := 707) (by decide +kernel), List.mem_of_getElem? (i := 932) (by decide +kernel), List.mem_of_getElem? (i := 933) (by decide +kernel)⟩
theorem lw_p34 : lw_okq (⟨"MendedWithTheWordModel", "either0", "()I"⟩, 47) := ⟨⟨by decide +kernel, by decide +kernel⟩, List.mem_of_getElem? (i := 707) (by decide +kernel), List.mem_of_getElem? (i := 936) (by decide +kernel), List.mem_of_getElem? (i := 937) (by decide +kernel)⟩
theorem lw_p35 : lw_okq (⟨"MendedWithTheWordModel", "both0", "()I"⟩, 47) := ⟨⟨by decide +kernel, by decide +kernel⟩, List.mem_of_getElem? (i := 707) (by decide +kernel), List.mem_of_getElem? (i := 940) (by decide +kernel), List.mem_of_getElem? (i := 941) (by decide +kernel)⟩
theorem lw_p36 : lw_okq (⟨"MendedWithTheWordModel", "not0", "()I"⟩, 47) := ⟨⟨by decide +kernel, by decide +kernel⟩, List.mem_of_getElem? (i := 707) (by decide +kernel), List.mem_of_getElem? (i := 944) (by decide +kernel), List.mem_of_getElem? (i := 945) (by decide +kernel)⟩
theorem lw_p37 : lw_okq (⟨"MendedWithTheWordModel", "opens", "()Z"⟩, 47) := ⟨⟨by decide +kernel, by decide +kernel⟩, List.mem_of_getElem? (i := 707) (by decide +kernel), List.mem_of_getElem? (i := 948) (by decide +kernel), List.mem_of_getElem? (i := 949) (by decide +kernel)⟩
theorem lw_p38 : lw_okq (⟨"MendedWithTheWordModel", "not1", "()I"⟩, 47) := ⟨⟨by decide +kernel, by decide +kernel⟩, List.mem_of_getElem? (i := 707) (by decide +kernel), List.mem_of_getElem? (i := 952) (by decide +kernel), List.mem_of_getElem? (i := 953) (by decide +kernel)⟩
theorem lw_p39 : lw_okq (⟨"MendedWithTheWordModel", "not2", "()I"⟩, 47) := ⟨⟨by decide +kernel, by decide +kernel⟩, List.mem_of_getElem? (i := 707) (by decide +kernel), List.mem_of_getElem? (i := 956) (by decide +kernel), List.mem_of_getElem? (i := 957) (by decide +kernel)⟩
theorem lw_p40 : lw_okq (⟨"MendedWithTheWordModel", "not3", "()I"⟩, 47) := ⟨⟨by decide +kernel, by decide +kernel⟩, List.mem_of_getElem? (i := 707) (by decide +kernel), List.mem_of_getElem? (i := 960) (by decide +kernel), List.mem_of_getElem? (i := 961) (by decide +kernel)⟩
theorem lw_p41 : lw_okq (⟨"MendedWithTheWordModel", "not4", "()I"⟩, 47) := ⟨⟨by decide +kernel, by decide +kernel⟩, List.mem_of_getElem? (i := 707) (by decide +kernel), List.mem_of_getElem? (i := 964) (by decide +kernel), List.mem_of_getElem? (i := 965) (by decide +kernel)⟩
theorem lw_p42 : lw_okq (⟨"MendedWithTheWordModel", "not5", "()I"⟩, 47) := ⟨⟨by decide +kernel, by decide +kernel⟩, List.mem_of_getElem? (i := 707) (by decide +kernel), List.mem_of_getElem? (i := 968) (by decide +kernel), List.mem_of_getElem? (i := 969) (by decide +kernel)⟩
theorem lw_p43 : lw_okq (⟨"MendedWithTheWordModel", "added5", "()I"⟩, 47) := ⟨⟨by decide +kernel, by decide +kernel⟩, List.mem_of_getElem? (i := 707) (by decide +kernel), List.mem_of_getElem? (i := 972) (by decide +kernel), List.mem_of_getElem? (i := 973) (by decide +kernel)⟩
theorem lw_p44 : lw_okq (⟨"MendedWithTheWordModel", "term5", "()I"⟩, 47) := ⟨⟨by decide +kernel, by decide +kernel⟩, List.mem_of_getElem? (i := 707) (by decide +kernel), List.mem_of_getElem? (i := 976) (by decide +kernel), List.mem_of_getElem? (i := 977) (by decide +kernel)⟩
theorem lw_p45 : lw_okq (⟨"MendedWithTheWordModel", "atom5", "()I"⟩, 47) := ⟨⟨by decide +kernel, by decide +kernel⟩, List.mem_of_getElem? (i := 707) (by decide +kernel), List.mem_of_getElem? (i := 980) (by decide +kernel), List.mem_of_getElem? (i := 981) (by decide +kernel)⟩
theorem lw_p46 : lw_okq (⟨"MendedWithTheWordModel", "isSign", "(I)Z"⟩, 47) := ⟨⟨by decide +kernel, by decide +kernel⟩, List.mem_of_getElem? (i := 707) (by decide +kernel), List.mem_of_getElem? (i := 984) (by decide +kernel), List.mem_of_getElem? (i := 985) (by decide +kernel)⟩
theorem lw_p47 : lw_okq (⟨"MendedWithTheWordModel", "name", "()I"⟩, 47) := ⟨⟨by decide +kernel, by decide +kernel⟩, List.mem_of_getElem? (i := 707) (by decide +kernel), List.mem_of_getElem? (i := 988) (by decide +kernel), List.mem_of_getElem? (i := 989) (by decide +kernel)⟩
def lw_privs_3 : List (MethodName × Nat) := [(⟨"MendedWithTheWordModel", "part", "(Z)I"⟩, 47), (⟨"MendedWithTheWordModel", "fail", "()V"⟩, 47), (⟨"MendedWithTheWordModel", "either0", "()I"⟩, 47), (⟨"MendedWithTheWordModel", "both0", "()I"⟩, 47), (⟨"MendedWithTheWordModel", "not0", "()I"⟩, 47), (⟨"MendedWithTheWordModel", "opens", "()Z"⟩, 47), (⟨"MendedWithTheWordModel", "not1", "()I"⟩, 47), (⟨"MendedWithTheWordModel", "not2", "()I"⟩, 47), (⟨"MendedWithTheWordModel", "not3", "()I"⟩, 47), (⟨"MendedWithTheWordModel", "not4", "()I"⟩, 47), (⟨"MendedWithTheWordModel", "not5", "()I"⟩, 47), (⟨"MendedWithTheWordModel", "added5", "()I"⟩, 47), (⟨"MendedWithTheWordModel", "term5", "()I"⟩, 47), (⟨"MendedWithTheWordModel", "atom5", "()I"⟩, 47), (⟨"MendedWithTheWordModel", "isSign", "(I)Z"⟩, 47), (⟨"MendedWithTheWordModel", "name", "()I"⟩, 47)]
theorem lw_r3 : ∀ q ∈ lw_privs_3, lw_okq q := List.forall_mem_cons.mpr ⟨lw_p32, List.forall_mem_cons.mpr ⟨lw_p33, List.forall_mem_cons.mpr ⟨lw_p34, List.forall_mem_cons.mpr ⟨lw_p35, List.forall_mem_cons.mpr ⟨lw_p36, List.forall_mem_cons.mpr ⟨lw_p37, List.forall_mem_cons.mpr ⟨lw_p38, List.forall_mem_cons.mpr ⟨lw_p39, List.forall_mem_cons.mpr ⟨lw_p40, List.forall_mem_cons.mpr ⟨lw_p41, List.forall_mem_cons.mpr ⟨lw_p42, List.forall_mem_cons.mpr ⟨lw_p43, List.forall_mem_cons.mpr ⟨lw_p44, List.forall_mem_cons.mpr ⟨lw_p45, List.forall_mem_cons.mpr ⟨lw_p46, List.forall_mem_cons.mpr ⟨lw_p47, fun _ h => absurd h List.not_mem_nil⟩⟩⟩⟩⟩⟩⟩⟩⟩⟩⟩⟩⟩⟩⟩⟩
theorem lw_p48 : lw_okq (⟨"MendedWithTheWordModel", "added4", "()I"⟩, 47) := ⟨⟨by decide +kernel, by decide +kernel⟩, List.mem_of_getElem? (i := 707) (by decide +kernel), List.mem_of_getElem? (i := 994) (by decide +kernel), List.mem_of_getElem? (i := 995) (by decide +kernel)⟩
theorem lw_p49 : lw_okq (⟨"MendedWithTheWordModel", "term4", "()I"⟩, 47) := ⟨⟨by decide +kernel, by decide +kernel⟩, List.mem_of_getElem? (i := 707) (by decide +kernel), List.mem_of_getElem? (i := 998) (by decide +kernel), List.mem_of_getElem? (i := 999) (by decide +kernel)⟩
theorem lw_p50 : lw_okq (⟨"MendedWithTheWordModel", "atom4", "()I"⟩, 47) := ⟨⟨by decide +kernel, by decide +kernel⟩, List.mem_of_getElem? (i := 707) (by decide +kernel), List.mem_of_getElem? (i := 1002) (by decide +kernel), List.mem_of_getElem? (i := 1003) (by decide +kernel)⟩
theorem lw_p51 : lw_okq (⟨"MendedWithTheWordModel", "either5", "()I"⟩, 47) := ⟨⟨by decide +kernel, by decide +kernel⟩, List.mem_of_getElem? (i := 707) (by decide +kernel), List.mem_of_getElem? (i := 1006) (by decide +kernel), List.mem_of_getElem? (i := 1007) (by decide +kernel)⟩
theorem lw_p52 : lw_okq (⟨"MendedWithTheWordModel", "both5", "()I"⟩, 47) := ⟨⟨by decide +kernel, by decide +kernel⟩, List.mem_of_getElem? (i := 707) (by decide +kernel), List.mem_of_getElem? (i := 1010) (by decide +kernel), List.mem_of_getElem? (i := 1011) (by decide +kernel)⟩
theorem lw_p53 : lw_okq (⟨"MendedWithTheWordModel", "added3", "()I"⟩, 47) := ⟨⟨by decide +kernel, by decide +kernel⟩, List.mem_of_getElem? (i := 707) (by decide +kernel), List.mem_of_getElem? (i := 1014) (by decide +kernel), List.mem_of_getElem? (i := 1015) (by decide +kernel)⟩
theorem lw_p54 : lw_okq (⟨"MendedWithTheWordModel", "term3", "()I"⟩, 47) := ⟨⟨by decide +kernel, by decide +kernel⟩, List.mem_of_getElem? (i := 707) (by decide +kernel), List.mem_of_getElem? (i := 1018) (by decide +kernel), List.mem_of_getElem? (i := 1019) (by decide +kernel)⟩
theorem lw_p55 : lw_okq (⟨"MendedWithTheWordModel", "atom3", "()I"⟩, 47) := ⟨⟨by decide +kernel, by decide +kernel⟩, List.mem_of_getElem? (i := 707) (by decide +kernel), List.mem_of_getElem? (i := 1022) (by decide +kernel), List.mem_of_getElem? (i := 1023) (by decide +kernel)⟩
theorem lw_p56 : lw_okq (⟨"MendedWithTheWordModel", "either4", "()I"⟩, 47) := ⟨⟨by decide +kernel, by decide +kernel⟩, List.mem_of_getElem? (i := 707) (by decide +kernel), List.mem_of_getElem? (i := 1026) (by decide +kernel), List.mem_of_getElem? (i := 1027) (by decide +kernel)⟩
theorem lw_p57 : lw_okq (⟨"MendedWithTheWordModel", "both4", "()I"⟩, 47) := ⟨⟨by decide +kernel, by decide +kernel⟩, List.mem_of_getElem? (i := 707) (by decide +kernel), List.mem_of_getElem? (i := 1030) (by decide +kernel), List.mem_of_getElem? (i := 1031) (by decide +kernel)⟩
theorem lw_p58 : lw_okq (⟨"MendedWithTheWordModel", "added2", "()I"⟩, 47) := ⟨⟨by decide +kernel, by decide +kernel⟩, List.mem_of_getElem? (i := 707) (by decide +kernel), List.mem_of_getElem? (i := 1034) (by decide +kernel), List.mem_of_getElem? (i := 1035) (by decide +kernel)⟩
theorem lw_p59 : lw_okq (⟨"MendedWithTheWordModel", "term2", "()I"⟩, 47) := ⟨⟨by decide +kernel, by decide +kernel⟩, List.mem_of_getElem? (i := 707) (by decide +kernel), List.mem_of_getElem? (i := 1038) (by decide +kernel), List.mem_of_getElem? (i := 1039) (by decide +kernel)⟩
theorem lw_p60 : lw_okq (⟨"MendedWithTheWordModel", "atom2", "()I"⟩, 47) := ⟨⟨by decide +kernel, by decide +kernel⟩, List.mem_of_getElem? (i := 707) (by decide +kernel), List.mem_of_getElem? (i := 1042) (by decide +kernel), List.mem_of_getElem? (i := 1043) (by decide +kernel)⟩
theorem lw_p61 : lw_okq (⟨"MendedWithTheWordModel", "either3", "()I"⟩, 47) := ⟨⟨by decide +kernel, by decide +kernel⟩, List.mem_of_getElem? (i := 707) (by decide +kernel), List.mem_of_getElem? (i := 1046) (by decide +kernel), List.mem_of_getElem? (i := 1047) (by decide +kernel)⟩
theorem lw_p62 : lw_okq (⟨"MendedWithTheWordModel", "both3", "()I"⟩, 47) := ⟨⟨by decide +kernel, by decide +kernel⟩, List.mem_of_getElem? (i := 707) (by decide +kernel), List.mem_of_getElem? (i := 1050) (by decide +kernel), List.mem_of_getElem? (i := 1051) (by decide +kernel)⟩
theorem lw_p63 : lw_okq (⟨"MendedWithTheWordModel", "added1", "()I"⟩, 47) := ⟨⟨by decide +kernel, by decide +kernel⟩, List.mem_of_getElem? (i := 707) (by decide +kernel), List.mem_of_getElem? (i := 1054) (by decide +kernel), List.mem_of_getElem? (i := 1055) (by decide +kernel)⟩
def lw_privs_4 : List (MethodName × Nat) := [(⟨"MendedWithTheWordModel", "added4", "()I"⟩, 47), (⟨"MendedWithTheWordModel", "term4", "()I"⟩, 47), (⟨"MendedWithTheWordModel", "atom4", "()I"⟩, 47), (⟨"MendedWithTheWordModel", "either5", "()I"⟩, 47), (⟨"MendedWithTheWordModel", "both5", "()I"⟩, 47), (⟨"MendedWithTheWordModel", "added3", "()I"⟩, 47), (⟨"MendedWithTheWordModel", "term3", "()I"⟩, 47), (⟨"MendedWithTheWordModel", "atom3", "()I"⟩, 47), (⟨"MendedWithTheWordModel", "either4", "()I"⟩, 47), (⟨"MendedWithTheWordModel", "both4", "()I"⟩, 47), (⟨"MendedWithTheWordModel", "added2", "()I"⟩, 47), (⟨"MendedWithTheWordModel", "term2", "()I"⟩, 47), (⟨"MendedWithTheWordModel", "atom2", "()I"⟩, 47), (⟨"MendedWithTheWordModel", "either3", "()I"⟩, 47), (⟨"MendedWithTheWordModel", "both3", "()I"⟩, 47), (⟨"MendedWithTheWordModel", "added1", "()I"⟩, 47)]
theorem lw_r4 : ∀ q ∈ lw_privs_4, lw_okq q := List.forall_mem_cons.mpr ⟨lw_p48, List.forall_mem_cons.mpr ⟨lw_p49, List.forall_mem_cons.mpr ⟨lw_p50, List.forall_mem_cons.mpr ⟨lw_p51, List.forall_mem_cons.mpr ⟨lw_p52, List.forall_mem_cons.mpr ⟨lw_p53, List.forall_mem_cons.mpr ⟨lw_p54, List.forall_mem_cons.mpr ⟨lw_p55, List.forall_mem_cons.mpr ⟨lw_p56, List.forall_mem_cons.mpr ⟨lw_p57, List.forall_mem_cons.mpr ⟨lw_p58, List.forall_mem_cons.mpr ⟨lw_p59, List.forall_mem_cons.mpr ⟨lw_p60, List.forall_mem_cons.mpr ⟨lw_p61, List.forall_mem_cons.mpr ⟨lw_p62, List.forall_mem_cons.mpr ⟨lw_p63, fun _ h => absurd h List.not_mem_nil⟩⟩⟩⟩⟩⟩⟩⟩⟩⟩⟩⟩⟩⟩⟩⟩
theorem lw_p64 : lw_okq (⟨"MendedWithTheWordModel", "term1", "()I"⟩, 47) := ⟨⟨by decide +kernel, by decide +kernel⟩, List.mem_of_getElem? (i := 707) (by decide +kernel), List.mem_of_getElem? (i := 1058) (by decide +kernel), List.mem_of_getElem? (i := 1059) (by decide +kernel)⟩
theorem lw_p65 : lw_okq (⟨"MendedWithTheWordModel", "atom1", "()I"⟩, 47) := ⟨⟨by decide +kernel, by decide +kernel⟩, List.mem_of_getElem? (i := 707) (by decide +kernel), List.mem_of_getElem? (i := 1062) (by decide +kernel), List.mem_of_getElem? (i := 1063) (by decide +kernel)⟩
theorem lw_p66 : lw_okq (⟨"MendedWithTheWordModel", "either2", "()I"⟩, 47) := ⟨⟨by decide +kernel, by decide +kernel⟩, List.mem_of_getElem? (i := 707) (by decide +kernel), List.mem_of_getElem? (i := 1066) (by decide +kernel), List.mem_of_getElem? (i := 1067) (by decide +kernel)⟩
theorem lw_p67 : lw_okq (⟨"MendedWithTheWordModel", "both2", "()I"⟩, 47) := ⟨⟨by decide +kernel, by decide +kernel⟩, List.mem_of_getElem? (i := 707) (by decide +kernel), List.mem_of_getElem? (i := 1070) (by decide +kernel), List.mem_of_getElem? (i := 1071) (by decide +kernel)⟩
theorem lw_p68 : lw_okq (⟨"MendedWithTheWordModel", "added0", "()I"⟩, 47) := ⟨⟨by decide +kernel, by decide +kernel⟩, List.mem_of_getElem? (i := 707) (by decide +kernel), List.mem_of_getElem? (i := 1074) (by decide +kernel), List.mem_of_getElem? (i := 1075) (by decide +kernel)⟩
theorem lw_p69 : lw_okq (⟨"MendedWithTheWordModel", "term0", "()I"⟩, 47) := ⟨⟨by decide +kernel, by decide +kernel⟩, List.mem_of_getElem? (i := 707) (by decide +kernel), List.mem_of_getElem? (i := 1078) (by decide +kernel), List.mem_of_getElem? (i := 1079) (by decide +kernel)⟩
theorem lw_p70 : lw_okq (⟨"MendedWithTheWordModel", "atom0", "()I"⟩, 47) := ⟨⟨by decide +kernel, by decide +kernel⟩, List.mem_of_getElem? (i := 707) (by decide +kernel), List.mem_of_getElem? (i := 1082) (by decide +kernel), List.mem_of_getElem? (i := 1083) (by decide +kernel)⟩
theorem lw_p71 : lw_okq (⟨"MendedWithTheWordModel", "either1", "()I"⟩, 47) := ⟨⟨by decide +kernel, by decide +kernel⟩, List.mem_of_getElem? (i := 707) (by decide +kernel), List.mem_of_getElem? (i := 1086) (by decide +kernel), List.mem_of_getElem? (i := 1087) (by decide +kernel)⟩
theorem lw_p72 : lw_okq (⟨"MendedWithTheWordModel", "both1", "()I"⟩, 47) := ⟨⟨by decide +kernel, by decide +kernel⟩, List.mem_of_getElem? (i := 707) (by decide +kernel), List.mem_of_getElem? (i := 1090) (by decide +kernel), List.mem_of_getElem? (i := 1091) (by decide +kernel)⟩
theorem lw_p73 : lw_okq (⟨"MendedWithTheWordModel", "slackOf", "(II)I"⟩, 47) := ⟨⟨by decide +kernel, by decide +kernel⟩, List.mem_of_getElem? (i := 707) (by decide +kernel), List.mem_of_getElem? (i := 1097) (by decide +kernel), List.mem_of_getElem? (i := 1098) (by decide +kernel)⟩
theorem lw_p74 : lw_okq (⟨"MendedWithTheWordModel", "takesOn", "(II)Z"⟩, 47) := ⟨⟨by decide +kernel, by decide +kernel⟩, List.mem_of_getElem? (i := 707) (by decide +kernel), List.mem_of_getElem? (i := 1101) (by decide +kernel), List.mem_of_getElem? (i := 1102) (by decide +kernel)⟩
theorem lw_p75 : lw_okq (⟨"MendedWithTheWordModel", "isHeld", "(I)Z"⟩, 47) := ⟨⟨by decide +kernel, by decide +kernel⟩, List.mem_of_getElem? (i := 707) (by decide +kernel), List.mem_of_getElem? (i := 1105) (by decide +kernel), List.mem_of_getElem? (i := 1106) (by decide +kernel)⟩
theorem lw_p76 : lw_okq (⟨"MendedWithTheWordModel", "lays", "(III)V"⟩, 47) := ⟨⟨by decide +kernel, by decide +kernel⟩, List.mem_of_getElem? (i := 707) (by decide +kernel), List.mem_of_getElem? (i := 1109) (by decide +kernel), List.mem_of_getElem? (i := 1110) (by decide +kernel)⟩
theorem lw_p77 : lw_okq (⟨"MendedWithTheWordModel", "calls", "(I)I"⟩, 47) := ⟨⟨by decide +kernel, by decide +kernel⟩, List.mem_of_getElem? (i := 707) (by decide +kernel), List.mem_of_getElem? (i := 1141) (by decide +kernel), List.mem_of_getElem? (i := 1142) (by decide +kernel)⟩
theorem lw_p78 : lw_okq (⟨"MendedWithTheWordModel", "holdsFo\x72", "(I)I"⟩, 47) := ⟨⟨by decide +kernel, by decide +kernel⟩, List.mem_of_getElem? (i := 707) (by decide +kernel), List.mem_of_getElem? (i := 1145) (by decide +kernel), List.mem_of_getElem? (i := 1146) (by decide +kernel)⟩
theorem lw_p79 : lw_okq (⟨"MendedWithTheWordModel", "partsNow", "()I"⟩, 47) := ⟨⟨by decide +kernel, by decide +kernel⟩, List.mem_of_getElem? (i := 707) (by decide +kernel), List.mem_of_getElem? (i := 1153) (by decide +kernel), List.mem_of_getElem? (i := 1154) (by decide +kernel)⟩
def lw_privs_5 : List (MethodName × Nat) := [(⟨"MendedWithTheWordModel", "term1", "()I"⟩, 47), (⟨"MendedWithTheWordModel", "atom1", "()I"⟩, 47), (⟨"MendedWithTheWordModel", "either2", "()I"⟩, 47), (⟨"MendedWithTheWordModel", "both2", "()I"⟩, 47), (⟨"MendedWithTheWordModel", "added0", "()I"⟩, 47), (⟨"MendedWithTheWordModel", "term0", "()I"⟩, 47), (⟨"MendedWithTheWordModel", "atom0", "()I"⟩, 47), (⟨"MendedWithTheWordModel", "either1", "()I"⟩, 47), (⟨"MendedWithTheWordModel", "both1", "()I"⟩, 47), (⟨"MendedWithTheWordModel", "slackOf", "(II)I"⟩, 47), (⟨"MendedWithTheWordModel", "takesOn", "(II)Z"⟩, 47), (⟨"MendedWithTheWordModel", "isHeld", "(I)Z"⟩, 47), (⟨"MendedWithTheWordModel", "lays", "(III)V"⟩, 47), (⟨"MendedWithTheWordModel", "calls", "(I)I"⟩, 47), (⟨"MendedWithTheWordModel", "holdsFo\x72", "(I)I"⟩, 47), (⟨"MendedWithTheWordModel", "partsNow", "()I"⟩, 47)]
theorem lw_r5 : ∀ q ∈ lw_privs_5, lw_okq q := List.forall_mem_cons.mpr ⟨lw_p64, List.forall_mem_cons.mpr ⟨lw_p65, List.forall_mem_cons.mpr ⟨lw_p66, List.forall_mem_cons.mpr ⟨lw_p67, List.forall_mem_cons.mpr ⟨lw_p68, List.forall_mem_cons.mpr ⟨lw_p69, List.forall_mem_cons.mpr ⟨lw_p70, List.forall_mem_cons.mpr ⟨lw_p71, List.forall_mem_cons.mpr ⟨lw_p72, List.forall_mem_cons.mpr ⟨lw_p73, List.forall_mem_cons.mpr ⟨lw_p74, List.forall_mem_cons.mpr ⟨lw_p75, List.forall_mem_cons.mpr ⟨lw_p76, List.forall_mem_cons.mpr ⟨lw_p77, List.forall_mem_cons.mpr ⟨lw_p78, List.forall_mem_cons.mpr ⟨lw_p79, fun _ h => absurd h List.not_mem_nil⟩⟩⟩⟩⟩⟩⟩⟩⟩⟩⟩⟩⟩⟩⟩⟩
theorem lw_p80 : lw_okq (⟨"MendedWithTheWordModel", "heldSet", "()I"⟩, 47) := ⟨⟨by decide +kernel, by decide +kernel⟩, List.mem_of_getElem? (i := 707) (by decide +kernel), List.mem_of_getElem? (i := 1157) (by decide +kernel), List.mem_of_getElem? (i := 1158) (by decide +kernel)⟩
theorem lw_p81 : lw_okq (⟨"MendedWithTheWordModel", "partsBy", "(I)I"⟩, 47) := ⟨⟨by decide +kernel, by decide +kernel⟩, List.mem_of_getElem? (i := 707) (by decide +kernel), List.mem_of_getElem? (i := 1161) (by decide +kernel), List.mem_of_getElem? (i := 1162) (by decide +kernel)⟩
theorem lw_p82 : lw_okq (⟨"MendedWithTheWordModel", "partBy", "(II)I"⟩, 47) := ⟨⟨by decide +kernel, by decide +kernel⟩, List.mem_of_getElem? (i := 707) (by decide +kernel), List.mem_of_getElem? (i := 1165) (by decide +kernel), List.mem_of_getElem? (i := 1166) (by decide +kernel)⟩
theorem lw_p83 : lw_okq (⟨"MendedWithTheWordModel", "takenSet", "()I"⟩, 47) := ⟨⟨by decide +kernel, by decide +kernel⟩, List.mem_of_getElem? (i := 707) (by decide +kernel), List.mem_of_getElem? (i := 1172) (by decide +kernel), List.mem_of_getElem? (i := 1173) (by decide +kernel)⟩
theorem lw_p84 : lw_okq (⟨"MendedWithTheWordModel", "lastSet", "()I"⟩, 47) := ⟨⟨by decide +kernel, by decide +kernel⟩, List.mem_of_getElem? (i := 707) (by decide +kernel), List.mem_of_getElem? (i := 1176) (by decide +kernel), List.mem_of_getElem? (i := 1177) (by decide +kernel)⟩
theorem lw_p85 : lw_okq (⟨"MendedWithTheWordModel", "partsIf", "(I)I"⟩, 47) := ⟨⟨by decide +kernel, by decide +kernel⟩, List.mem_of_getElem? (i := 707) (by decide +kernel), List.mem_of_getElem? (i := 1192) (by decide +kernel), List.mem_of_getElem? (i := 1193) (by decide +kernel)⟩
theorem lw_p86 : lw_okq (⟨"MendedWithTheWordModel", "laysAside", "()V"⟩, 47) := ⟨⟨by decide +kernel, by decide +kernel⟩, List.mem_of_getElem? (i := 707) (by decide +kernel), List.mem_of_getElem? (i := 1196) (by decide +kernel), List.mem_of_getElem? (i := 1197) (by decide +kernel)⟩
theorem lw_p87 : lw_okq (⟨"MendedWithTheWordModel", "laysBack", "()V"⟩, 47) := ⟨⟨by decide +kernel, by decide +kernel⟩, List.mem_of_getElem? (i := 707) (by decide +kernel), List.mem_of_getElem? (i := 1200) (by decide +kernel), List.mem_of_getElem? (i := 1201) (by decide +kernel)⟩
theorem lw_p88 : lw_okq (⟨"MendedWithTheWordModel", "everybody", "()I"⟩, 47) := ⟨⟨by decide +kernel, by decide +kernel⟩, List.mem_of_getElem? (i := 707) (by decide +kernel), List.mem_of_getElem? (i := 1208) (by decide +kernel), List.mem_of_getElem? (i := 1209) (by decide +kernel)⟩
theorem lw_p89 : lw_okq (⟨"MendedWithTheWordModel", "firstOthe\x72", "(III)I"⟩, 47) := ⟨⟨by decide +kernel, by decide +kernel⟩, List.mem_of_getElem? (i := 707) (by decide +kernel), List.mem_of_getElem? (i := 1229) (by decide +kernel), List.mem_of_getElem? (i := 1230) (by decide +kernel)⟩
theorem lw_p90 : lw_okq (⟨"MendedWithTheWordModel", "draws", "(I)V"⟩, 47) := ⟨⟨by decide +kernel, by decide +kernel⟩, List.mem_of_getElem? (i := 707) (by decide +kernel), List.mem_of_getElem? (i := 1248) (by decide +kernel), List.mem_of_getElem? (i := 1249) (by decide +kernel)⟩
theorem lw_p91 : lw_okq (⟨"MendedWithTheWordModel", "tonesAgain", "()V"⟩, 47) := ⟨⟨by decide +kernel, by decide +kernel⟩, List.mem_of_getElem? (i := 707) (by decide +kernel), List.mem_of_getElem? (i := 1253) (by decide +kernel), List.mem_of_getElem? (i := 1254) (by decide +kernel)⟩
def lw_privs_6 : List (MethodName × Nat) := [(⟨"MendedWithTheWordModel", "heldSet", "()I"⟩, 47), (⟨"MendedWithTheWordModel", "partsBy", "(I)I"⟩, 47), (⟨"MendedWithTheWordModel", "partBy", "(II)I"⟩, 47), (⟨"MendedWithTheWordModel", "takenSet", "()I"⟩, 47), (⟨"MendedWithTheWordModel", "lastSet", "()I"⟩, 47), (⟨"MendedWithTheWordModel", "partsIf", "(I)I"⟩, 47), (⟨"MendedWithTheWordModel", "laysAside", "()V"⟩, 47), (⟨"MendedWithTheWordModel", "laysBack", "()V"⟩, 47), (⟨"MendedWithTheWordModel", "everybody", "()I"⟩, 47), (⟨"MendedWithTheWordModel", "firstOthe\x72", "(III)I"⟩, 47), (⟨"MendedWithTheWordModel", "draws", "(I)V"⟩, 47), (⟨"MendedWithTheWordModel", "tonesAgain", "()V"⟩, 47)]
theorem lw_r6 : ∀ q ∈ lw_privs_6, lw_okq q := List.forall_mem_cons.mpr ⟨lw_p80, List.forall_mem_cons.mpr ⟨lw_p81, List.forall_mem_cons.mpr ⟨lw_p82, List.forall_mem_cons.mpr ⟨lw_p83, List.forall_mem_cons.mpr ⟨lw_p84, List.forall_mem_cons.mpr ⟨lw_p85, List.forall_mem_cons.mpr ⟨lw_p86, List.forall_mem_cons.mpr ⟨lw_p87, List.forall_mem_cons.mpr ⟨lw_p88, List.forall_mem_cons.mpr ⟨lw_p89, List.forall_mem_cons.mpr ⟨lw_p90, List.forall_mem_cons.mpr ⟨lw_p91, fun _ h => absurd h List.not_mem_nil⟩⟩⟩⟩⟩⟩⟩⟩⟩⟩⟩⟩
def lw_privs : List (MethodName × Nat) := lw_privs_1 ++ (lw_privs_2 ++ (lw_privs_3 ++ (lw_privs_4 ++ (lw_privs_5 ++ (lw_privs_6)))))
def lw_tbl : List Cond := k2_sels lw_privs ++ tables_1
theorem lw_privs_ok : ∀ q ∈ lw_privs, lw_okq q := by
  show ∀ q ∈ lw_privs_1 ++ (lw_privs_2 ++ (lw_privs_3 ++ (lw_privs_4 ++ (lw_privs_5 ++ (lw_privs_6))))), lw_okq q
  exact List.forall_mem_append.mpr ⟨lw_r1, List.forall_mem_append.mpr ⟨lw_r2, List.forall_mem_append.mpr ⟨lw_r3, List.forall_mem_append.mpr ⟨lw_r4, List.forall_mem_append.mpr ⟨lw_r5, lw_r6⟩⟩⟩⟩⟩
def RX1 : String := "MendedWithTheWord$Reade\x72"
def TX1 : u_T := fun k => match k with
  | 0 => ("MendedWithTheWord$Reade\x72", "tape", "[I", true)
  | 1 => ("MendedWithTheWord$Reade\x72", "size", "I", false)
  | 2 => ("MendedWithTheWord$Reade\x72", "place", "I", false)
  | 3 => ("MendedWithTheWord$Reade\x72", "token", "I", false)
  | 4 => ("MendedWithTheWord$Reade\x72", "start", "I", false)
  | 5 => ("MendedWithTheWord$Reade\x72", "digits", "I", false)
  | 6 => ("MendedWithTheWord$Reade\x72", "open", "I", false)
  | 7 => ("MendedWithTheWord$Reade\x72", "code", "[I", true)
  | 8 => ("MendedWithTheWord$Reade\x72", "length", "I", false)
  | _ => ("MendedWithTheWord$Reade\x72", "starts", "[I", true)
def tyX1 : Nat → FieldType := fun k => match k with
  | 0 => .array .int
  | 1 => .int
  | 2 => .int
  | 3 => .int
  | 4 => .int
  | 5 => .int
  | 6 => .int
  | 7 => .array .int
  | 8 => .int
  | _ => .array .int
abbrev wsX10 : List Cond := u_ws RX1 TX1 10
theorem nmX1 : ∀ a, a < 10 → ∀ b, b < 10 → a ≠ b → (TX1 a).2.1 ≠ (TX1 b).2.1 := by decide +kernel
theorem tyX1_ok : ∀ k, k < 10 → parseFieldDescriptor (TX1 k).2.2.1 = some (tyX1 k) := by decide +kernel
def RX2 : String := "MendedWithTheWord$Rules"
def TX2 : u_T := fun k => match k with
  | 0 => ("MendedWithTheWord$Rules", "texts", "[LMendedWithTheWord$Text;", true)
  | 1 => ("MendedWithTheWord$Rules", "size", "I", false)
  | 2 => ("MendedWithTheWord$Rules", "names", "[I", true)
  | _ => ("MendedWithTheWord$Rules", "stack", "[I", true)
def tyX2 : Nat → FieldType := fun k => match k with
  | 0 => .array (.object "MendedWithTheWord$Text")
  | 1 => .int
  | 2 => .array .int
  | _ => .array .int
abbrev wsX20 : List Cond := u_ws RX2 TX2 4
theorem nmX2 : ∀ a, a < 4 → ∀ b, b < 4 → a ≠ b → (TX2 a).2.1 ≠ (TX2 b).2.1 := by decide +kernel
theorem tyX2_ok : ∀ k, k < 4 → parseFieldDescriptor (TX2 k).2.2.1 = some (tyX2 k) := by decide +kernel
def RX3 : String := "MendedWithTheWord$Sheet"
def TX3 : u_T := fun k => match k with
  | 0 => ("MendedWithTheWord$Sheet", "sort", "I", false)
  | 1 => ("MendedWithTheWord$Sheet", "size", "I", false)
  | _ => ("MendedWithTheWord$Sheet", "items", "[I", true)
def tyX3 : Nat → FieldType := fun k => match k with
  | 0 => .int
  | 1 => .int
  | _ => .array .int
abbrev wsX30 : List Cond := u_ws RX3 TX3 3
theorem nmX3 : ∀ a, a < 3 → ∀ b, b < 3 → a ≠ b → (TX3 a).2.1 ≠ (TX3 b).2.1 := by decide +kernel
theorem tyX3_ok : ∀ k, k < 3 → parseFieldDescriptor (TX3 k).2.2.1 = some (tyX3 k) := by decide +kernel
def RX4 : String := "MendedWithTheWord$Text"
def TX4 : u_T := fun k => match k with
  | 0 => ("MendedWithTheWord$Text", "code", "[I", true)
  | 1 => ("MendedWithTheWord$Text", "slacksStart", "I", true)
  | _ => ("MendedWithTheWord$Text", "holdsStart", "I", true)
def tyX4 : Nat → FieldType := fun k => match k with
  | 0 => .array .int
  | 1 => .int
  | _ => .int
abbrev wsX40 : List Cond := u_ws RX4 TX4 3
theorem nmX4 : ∀ a, a < 3 → ∀ b, b < 3 → a ≠ b → (TX4 a).2.1 ≠ (TX4 b).2.1 := by decide +kernel
theorem tyX4_ok : ∀ k, k < 3 → parseFieldDescriptor (TX4 k).2.2.1 = some (tyX4 k) := by decide +kernel
def RX6 : String := "MendedWithTheWord$Vase"
def TX6 : u_T := fun k => match k with
  | 0 => ("MendedWithTheWord$Vase", "rules", "LMendedWithTheWord$Rules;", true)
  | 1 => ("MendedWithTheWord$Vase", "day", "I", false)
  | 2 => ("MendedWithTheWord$Vase", "pieces", "I", false)
  | 3 => ("MendedWithTheWord$Vase", "people", "I", false)
  | 4 => ("MendedWithTheWord$Vase", "kind", "[I", true)
  | 5 => ("MendedWithTheWord$Vase", "numbe\x72", "[I", true)
  | 6 => ("MendedWithTheWord$Vase", "seams", "I", false)
  | 7 => ("MendedWithTheWord$Vase", "two", "[I", true)
  | 8 => ("MendedWithTheWord$Vase", "broke", "[I", true)
  | 9 => ("MendedWithTheWord$Vase", "tone", "[I", true)
  | 10 => ("MendedWithTheWord$Vase", "force", "[I", true)
  | 11 => ("MendedWithTheWord$Vase", "till", "[I", true)
  | 12 => ("MendedWithTheWord$Vase", "rule", "I", false)
  | _ => ("MendedWithTheWord$Vase", "moreSlack", "I", false)
def tyX6 : Nat → FieldType := fun k => match k with
  | 0 => .object "MendedWithTheWord$Rules"
  | 1 => .int
  | 2 => .int
  | 3 => .int
  | 4 => .array .int
  | 5 => .array .int
  | 6 => .int
  | 7 => .array .int
  | 8 => .array .int
  | 9 => .array .int
  | 10 => .array .int
  | 11 => .array .int
  | 12 => .int
  | _ => .int
abbrev wsX60 : List Cond := u_ws RX6 TX6 14
theorem nmX6 : ∀ a, a < 14 → ∀ b, b < 14 → a ≠ b → (TX6 a).2.1 ≠ (TX6 b).2.1 := by decide +kernel
theorem tyX6_ok : ∀ k, k < 14 → parseFieldDescriptor (TX6 k).2.2.1 = some (tyX6 k) := by decide +kernel
def RX7 : String := "MendedWithTheWord"
def TX7 : u_T := fun k => match k with
  | 0 => ("MendedWithTheWord", "rules", "LMendedWithTheWord$Rules;", true)
  | 1 => ("MendedWithTheWord", "reade\x72", "LMendedWithTheWord$Reader;", true)
  | 2 => ("MendedWithTheWord", "now", "LMendedWithTheWord$Vase;", true)
  | 3 => ("MendedWithTheWord", "kept", "LMendedWithTheWord$Vase;", true)
  | 4 => ("MendedWithTheWord", "trial", "LMendedWithTheWord$Vase;", true)
  | 5 => ("MendedWithTheWord", "sheets", "[LMendedWithTheWord$Sheet;", true)
  | _ => ("MendedWithTheWord", "hasImage", "Z", false)
def tyX7 : Nat → FieldType := fun k => match k with
  | 0 => .object "MendedWithTheWord$Rules"
  | 1 => .object "MendedWithTheWord$Reade\x72"
  | 2 => .object "MendedWithTheWord$Vase"
  | 3 => .object "MendedWithTheWord$Vase"
  | 4 => .object "MendedWithTheWord$Vase"
  | 5 => .array (.object "MendedWithTheWord$Sheet")
  | _ => .boolean
abbrev wsX70 : List Cond := u_ws RX7 TX7 7
theorem nmX7 : ∀ a, a < 7 → ∀ b, b < 7 → a ≠ b → (TX7 a).2.1 ≠ (TX7 b).2.1 := by decide +kernel
theorem tyX7_ok : ∀ k, k < 7 → parseFieldDescriptor (TX7 k).2.2.1 = some (tyX7 k) := by decide +kernel
def RX8 : String := "MendedWithTheWordModel"
def TX8 : u_T := fun k => match k with
  | 0 => ("MendedWithTheWordModel", "thrown", "I", false)
  | 1 => ("MendedWithTheWordModel", "texts", "[I", true)
  | 2 => ("MendedWithTheWordModel", "textSize", "[I", true)
  | 3 => ("MendedWithTheWordModel", "textCount", "I", false)
  | 4 => ("MendedWithTheWordModel", "rule", "I", false)
  | 5 => ("MendedWithTheWordModel", "tape", "[I", true)
  | 6 => ("MendedWithTheWordModel", "taped", "I", false)
  | 7 => ("MendedWithTheWordModel", "dayNow", "I", false)
  | 8 => ("MendedWithTheWordModel", "pieceMany", "I", false)
  | 9 => ("MendedWithTheWordModel", "kinds", "[I", true)
  | 10 => ("MendedWithTheWordModel", "numbers", "[I", true)
  | 11 => ("MendedWithTheWordModel", "many", "I", false)
  | 12 => ("MendedWithTheWordModel", "rows", "[I", true)
  | 13 => ("MendedWithTheWordModel", "twos", "[I", true)
  | 14 => ("MendedWithTheWordModel", "till", "[I", true)
  | 15 => ("MendedWithTheWordModel", "seamMany", "I", false)
  | 16 => ("MendedWithTheWordModel", "ofTone", "I", false)
  | 17 => ("MendedWithTheWordModel", "ofDay", "I", false)
  | 18 => ("MendedWithTheWordModel", "ofNumbe\x72", "I", false)
  | 19 => ("MendedWithTheWordModel", "ofForce", "I", false)
  | 20 => ("MendedWithTheWordModel", "ofMended", "I", false)
  | 21 => ("MendedWithTheWordModel", "ofSeam", "I", false)
  | 22 => ("MendedWithTheWordModel", "from", "I", false)
  | 23 => ("MendedWithTheWordModel", "size", "I", false)
  | 24 => ("MendedWithTheWordModel", "here", "I", false)
  | 25 => ("MendedWithTheWordModel", "token", "I", false)
  | 26 => ("MendedWithTheWordModel", "tokenAt", "I", false)
  | 27 => ("MendedWithTheWordModel", "tokenWorth", "J", false)
  | 28 => ("MendedWithTheWordModel", "open", "I", false)
  | 29 => ("MendedWithTheWordModel", "bad", "Z", false)
  | 30 => ("MendedWithTheWordModel", "fault", "I", false)
  | 31 => ("MendedWithTheWordModel", "gentle", "I", false)
  | 32 => ("MendedWithTheWordModel", "tillWas", "[I", true)
  | 33 => ("MendedWithTheWordModel", "tillFirst", "[I", true)
  | 34 => ("MendedWithTheWordModel", "tonesWas", "[I", true)
  | 35 => ("MendedWithTheWordModel", "numbersKept", "[I", true)
  | 36 => ("MendedWithTheWordModel", "rowsKept", "[I", true)
  | 37 => ("MendedWithTheWordModel", "tillKept", "[I", true)
  | 38 => ("MendedWithTheWordModel", "manyKept", "I", false)
  | 39 => ("MendedWithTheWordModel", "seamsKept", "I", false)
  | 40 => ("MendedWithTheWordModel", "dayKept", "I", false)
  | 41 => ("MendedWithTheWordModel", "piecesKept", "I", false)
  | 42 => ("MendedWithTheWordModel", "ruleKept", "I", false)
  | 43 => ("MendedWithTheWordModel", "isThere", "[Z", true)
  | 44 => ("MendedWithTheWordModel", "sorts", "[I", true)
  | 45 => ("MendedWithTheWordModel", "sheetSize", "[I", true)
  | _ => ("MendedWithTheWordModel", "items", "[I", true)
def tyX8 : Nat → FieldType := fun k => match k with
  | 0 => .int
  | 1 => .array .int
  | 2 => .array .int
  | 3 => .int
  | 4 => .int
  | 5 => .array .int
  | 6 => .int
  | 7 => .int
  | 8 => .int
  | 9 => .array .int
  | 10 => .array .int
  | 11 => .int
  | 12 => .array .int
  | 13 => .array .int
  | 14 => .array .int
  | 15 => .int
  | 16 => .int
  | 17 => .int
  | 18 => .int
  | 19 => .int
  | 20 => .int
  | 21 => .int
  | 22 => .int
  | 23 => .int
  | 24 => .int
  | 25 => .int
  | 26 => .int
  | 27 => .long
  | 28 => .int
  | 29 => .boolean
  | 30 => .int
  | 31 => .int
  | 32 => .array .int
  | 33 => .array .int
  | 34 => .array .int
  | 35 => .array .int
  | 36 => .array .int
  | 37 => .array .int
  | 38 => .int
  | 39 => .int
  | 40 => .int
  | 41 => .int
  | 42 => .int
  | 43 => .array .boolean
  | 44 => .array .int
  | 45 => .array .int
  | _ => .array .int
abbrev wsX80 : List Cond := u_ws RX8 TX8 47
theorem nmX8 : ∀ a, a < 47 → ∀ b, b < 47 → a ≠ b → (TX8 a).2.1 ≠ (TX8 b).2.1 := by decide +kernel
theorem tyX8_ok : ∀ k, k < 47 → parseFieldDescriptor (TX8 k).2.2.1 = some (tyX8 k) := by decide +kernel
abbrev vwCl : List vw_C := [(RX1, TX1, 10), (RX2, TX2, 4), (RX3, TX3, 3), (RX4, TX4, 3), (RX6, TX6, 14), (RX7, TX7, 7), (RX8, TX8, 47)]
/-- the classes of the methods, by numbers -/
def mm_cls : List String := ["MendedWithTheWord", "MendedWithTheWord$Kinds", "MendedWithTheWord$Reade\x72", "MendedWithTheWord$Rules", "MendedWithTheWord$Sheet", "MendedWithTheWord$Text", "MendedWithTheWord$Token", "MendedWithTheWord$Vase", "MendedWithTheWordModel", "MendedWithTheWordLaw", "java/lang/Intege\x72", "java/lang/Math", "java/lang/String", "java/lang/StringLatin1", "java/util/Arrays", "jdk/internal/util/Preconditions"]
/-- methods: name, code, locals, answer, class, parameters, kind (0 of an object, 1 static, 2 constructor) -/
abbrev mm_MT : Type := MethodName × ByteArray × Nat × Option FieldType × Nat × Nat × Nat
def mm_ch (k : Nat) : List Cond := match k with | 0 => tables_1_1 | 1 => tables_1_2 | 2 => tables_1_3 | 3 => tables_1_4 | 4 => tables_1_5 | _ => tables_1_6
/-- where a method's code stands (part of the tables, place), its class, parameters, kind; where initialized, static or instance, selects stand -/
def mm_src_0 : List (Nat × Nat × Nat × Nat × Nat × Nat × Nat × Nat) := [(0, 22, 0, 0, 2, 93, 113, 0), (1, 128, 0, 3, 0, 93, 458, 459), (1, 224, 0, 2, 0, 93, 554, 555), (1, 232, 0, 3, 0, 93, 562, 563), (2, 4, 0, 2, 0, 93, 574, 575), (2, 8, 0, 1, 0, 93, 578, 579), (2, 12, 0, 0, 0, 93, 582, 583), (2, 20, 0, 1, 0, 93, 590, 591), (2, 24, 0, 1, 0, 93, 594, 595), (2, 39, 0, 1, 0, 93, 609, 610), (2, 79, 0, 1, 0, 93, 649, 650), (2, 84, 0, 1, 0, 93, 654, 655), (2, 97, 0, 1, 0, 93, 667, 668), (2, 105, 0, 1, 0, 93, 675, 676), (2, 109, 0, 0, 0, 93, 679, 680), (2, 113, 0, 0, 0, 93, 683, 684), (2, 117, 0, 4, 0, 93, 687, 688), (2, 147, 0, 4, 0, 93, 717, 718), (2, 167, 0, 1, 0, 93, 737, 738), (2, 176, 0, 3, 0, 93, 746, 747)]
def mm_src_1 : List (Nat × Nat × Nat × Nat × Nat × Nat × Nat × Nat) := [(2, 184, 0, 0, 0, 93, 754, 755), (2, 188, 0, 0, 0, 93, 758, 759), (2, 192, 0, 1, 0, 93, 762, 763), (2, 197, 0, 3, 0, 93, 767, 768), (2, 204, 0, 3, 0, 93, 774, 775), (2, 209, 0, 5, 0, 93, 779, 780), (2, 214, 0, 4, 0, 93, 784, 785), (2, 219, 0, 2, 0, 93, 789, 790), (1, 144, 0, 1, 0, 93, 475, 13), (1, 148, 0, 1, 0, 93, 479, 14), (1, 235, 0, 1, 1, 93, 566, 0), (2, 120, 0, 1, 1, 93, 691, 0), (2, 200, 0, 1, 1, 93, 771, 0), (1, 191, 0, 1, 1, 93, 522, 0), (2, 180, 0, 2, 1, 93, 751, 0), (1, 194, 1, 4, 1, 108, 525, 0), (1, 205, 1, 4, 1, 108, 536, 0), (2, 35, 1, 2, 1, 108, 606, 0), (2, 222, 1, 2, 1, 108, 793, 0), (2, 225, 1, 1, 1, 108, 796, 0)]
def mm_src_2 : List (Nat × Nat × Nat × Nat × Nat × Nat × Nat × Nat) := [(1, 197, 1, 3, 1, 108, 528, 0), (0, 54, 2, 0, 2, 95, 145, 0), (0, 218, 2, 1, 0, 95, 308, 309), (1, 102, 2, 0, 0, 95, 432, 433), (2, 16, 2, 0, 0, 95, 586, 587), (0, 222, 2, 0, 0, 95, 312, 313), (1, 25, 2, 0, 0, 95, 356, 4), (1, 29, 2, 0, 0, 95, 360, 5), (1, 33, 2, 0, 0, 95, 364, 6), (1, 37, 2, 0, 0, 95, 368, 7), (1, 41, 2, 0, 0, 95, 372, 8), (1, 45, 2, 0, 0, 95, 376, 9), (1, 49, 2, 0, 0, 95, 380, 10), (1, 60, 2, 0, 0, 95, 391, 12), (1, 56, 2, 1, 0, 95, 387, 11), (0, 226, 2, 0, 0, 95, 317, 0), (1, 18, 2, 0, 0, 95, 349, 3), (0, 233, 2, 0, 0, 95, 324, 1), (0, 238, 2, 1, 0, 95, 329, 2), (0, 229, 2, 1, 1, 95, 320, 0)]
def mm_src_3 : List (Nat × Nat × Nat × Nat × Nat × Nat × Nat × Nat) := [(1, 14, 2, 1, 1, 95, 345, 0), (0, 30, 3, 0, 2, 94, 121, 0), (1, 98, 3, 1, 0, 94, 428, 429), (1, 169, 3, 6, 0, 94, 499, 500), (1, 173, 3, 2, 0, 94, 503, 504), (1, 188, 3, 3, 0, 94, 519, 16), (0, 150, 4, 0, 2, 97, 241, 0), (2, 125, 4, 0, 0, 97, 695, 696), (2, 151, 4, 2, 0, 97, 721, 722), (2, 163, 4, 2, 0, 97, 733, 734), (2, 159, 4, 2, 0, 97, 729, 730), (1, 81, 5, 3, 2, 103, 412, 0), (1, 181, 5, 1, 0, 103, 511, 512), (1, 177, 5, 1, 0, 103, 507, 508), (1, 52, 6, 1, 1, 102, 383, 0), (1, 21, 6, 1, 1, 102, 352, 0), (1, 184, 6, 1, 1, 102, 515, 0), (0, 92, 7, 1, 2, 96, 183, 0), (2, 92, 7, 1, 0, 96, 662, 663), (1, 136, 7, 1, 0, 96, 466, 467)]
def mm_src_4 : List (Nat × Nat × Nat × Nat × Nat × Nat × Nat × Nat) := [(1, 140, 7, 1, 0, 96, 470, 471), (2, 101, 7, 0, 0, 96, 671, 672), (1, 228, 7, 2, 0, 96, 558, 559), (2, 0, 7, 4, 0, 96, 570, 571), (1, 132, 7, 2, 0, 96, 462, 463), (1, 152, 7, 2, 0, 96, 482, 483), (1, 220, 7, 3, 0, 96, 550, 551), (1, 165, 7, 0, 0, 96, 495, 496), (1, 157, 7, 1, 0, 96, 487, 488), (1, 202, 7, 1, 0, 96, 532, 533), (1, 209, 7, 1, 0, 96, 539, 540), (1, 216, 7, 1, 0, 96, 546, 547), (2, 32, 7, 1, 0, 96, 603, 17), (1, 161, 7, 2, 0, 96, 492, 15), (2, 43, 7, 0, 0, 96, 613, 614), (2, 71, 7, 0, 0, 96, 641, 642), (2, 88, 7, 1, 0, 96, 658, 659), (2, 28, 7, 1, 0, 96, 598, 599), (2, 55, 7, 1, 0, 96, 626, 18), (2, 51, 7, 2, 0, 96, 621, 622)]
def mm_src_5 : List (Nat × Nat × Nat × Nat × Nat × Nat × Nat × Nat) := [(2, 47, 7, 1, 0, 96, 617, 618), (2, 59, 7, 0, 0, 96, 629, 630), (2, 75, 7, 0, 0, 96, 645, 646), (2, 129, 7, 2, 0, 96, 699, 700), (2, 133, 7, 4, 0, 96, 703, 704), (2, 139, 7, 2, 0, 96, 709, 710), (2, 143, 7, 2, 0, 96, 713, 714), (2, 171, 7, 1, 0, 96, 741, 742), (3, 145, 8, 3, 1, 107, 956, 0), (4, 135, 8, 3, 1, 107, 1186, 0), (2, 230, 8, 0, 2, 107, 801, 0), (2, 235, 8, 9, 0, 107, 806, 19), (3, 153, 8, 1, 0, 107, 964, 21), (3, 157, 8, 1, 0, 107, 968, 22), (3, 149, 8, 2, 0, 107, 960, 20), (3, 161, 8, 2, 0, 107, 972, 23), (3, 141, 8, 3, 0, 107, 951, 952), (4, 151, 8, 3, 0, 107, 1202, 76), (4, 155, 8, 2, 0, 107, 1205, 1206), (4, 159, 8, 3, 0, 107, 1209, 1210)]
def mm_src_6 : List (Nat × Nat × Nat × Nat × Nat × Nat × Nat × Nat) := [(3, 168, 8, 2, 0, 107, 978, 979), (4, 166, 8, 1, 0, 107, 1216, 1217), (3, 193, 8, 1, 0, 107, 1004, 29), (3, 189, 8, 0, 0, 107, 1000, 28), (3, 214, 8, 0, 0, 107, 1025, 33), (3, 206, 8, 2, 0, 107, 1017, 31), (3, 202, 8, 8, 0, 107, 1013, 30), (4, 26, 8, 1, 0, 107, 1077, 46), (3, 230, 8, 0, 0, 107, 1041, 37), (4, 30, 8, 0, 0, 107, 1081, 47), (4, 22, 8, 0, 0, 107, 1073, 45), (4, 18, 8, 0, 0, 107, 1069, 44), (4, 14, 8, 0, 0, 107, 1065, 43), (4, 10, 8, 0, 0, 107, 1061, 42), (4, 52, 8, 0, 0, 107, 1103, 52), (4, 48, 8, 0, 0, 107, 1099, 51), (4, 44, 8, 0, 0, 107, 1095, 50), (4, 40, 8, 0, 0, 107, 1091, 49), (4, 36, 8, 0, 0, 107, 1087, 48), (4, 6, 8, 0, 0, 107, 1057, 41)]
def mm_src_7 : List (Nat × Nat × Nat × Nat × Nat × Nat × Nat × Nat) := [(4, 72, 8, 0, 0, 107, 1123, 57), (4, 68, 8, 0, 0, 107, 1119, 56), (4, 64, 8, 0, 0, 107, 1115, 55), (4, 60, 8, 0, 0, 107, 1111, 54), (4, 56, 8, 0, 0, 107, 1107, 53), (4, 2, 8, 0, 0, 107, 1053, 40), (4, 92, 8, 0, 0, 107, 1143, 62), (4, 88, 8, 0, 0, 107, 1139, 61), (4, 84, 8, 0, 0, 107, 1135, 60), (4, 80, 8, 0, 0, 107, 1131, 59), (4, 76, 8, 0, 0, 107, 1127, 58), (3, 238, 8, 0, 0, 107, 1049, 39), (4, 112, 8, 0, 0, 107, 1163, 67), (4, 108, 8, 0, 0, 107, 1159, 66), (4, 104, 8, 0, 0, 107, 1155, 65), (4, 100, 8, 0, 0, 107, 1151, 64), (4, 96, 8, 0, 0, 107, 1147, 63), (3, 234, 8, 0, 0, 107, 1045, 38), (4, 132, 8, 0, 0, 107, 1183, 72), (4, 128, 8, 0, 0, 107, 1179, 71)]
def mm_src_8 : List (Nat × Nat × Nat × Nat × Nat × Nat × Nat × Nat) := [(4, 124, 8, 0, 0, 107, 1175, 70), (4, 120, 8, 0, 0, 107, 1171, 69), (4, 116, 8, 0, 0, 107, 1167, 68), (3, 226, 8, 0, 0, 107, 1037, 36), (3, 222, 8, 0, 0, 107, 1033, 35), (3, 218, 8, 0, 0, 107, 1029, 34), (3, 210, 8, 1, 0, 107, 1021, 32), (3, 185, 8, 2, 0, 107, 996, 27), (4, 171, 8, 0, 0, 107, 1221, 1222), (4, 175, 8, 1, 0, 107, 1225, 1226), (3, 181, 8, 0, 0, 107, 992, 26), (3, 177, 8, 4, 0, 107, 988, 25), (3, 173, 8, 3, 0, 107, 984, 24), (4, 139, 8, 2, 0, 107, 1190, 73), (4, 187, 8, 1, 0, 107, 1238, 78), (4, 143, 8, 2, 0, 107, 1194, 74), (4, 147, 8, 1, 0, 107, 1198, 75), (4, 199, 8, 0, 0, 107, 1250, 80), (4, 214, 8, 0, 0, 107, 1265, 83), (4, 210, 8, 1, 1, 107, 1261, 0)]
def mm_src_9 : List (Nat × Nat × Nat × Nat × Nat × Nat × Nat × Nat) := [(4, 207, 8, 2, 0, 107, 1258, 82), (4, 203, 8, 1, 0, 107, 1254, 81), (4, 195, 8, 0, 0, 107, 1246, 79), (4, 183, 8, 1, 0, 107, 1234, 77), (4, 179, 8, 1, 0, 107, 1229, 1230), (4, 218, 8, 0, 0, 107, 1269, 84), (4, 191, 8, 1, 0, 107, 1241, 1242), (4, 222, 8, 1, 0, 107, 1272, 1273), (4, 226, 8, 1, 0, 107, 1276, 1277), (4, 238, 8, 0, 0, 107, 1289, 86), (5, 2, 8, 0, 0, 107, 1293, 87), (4, 234, 8, 1, 0, 107, 1285, 85), (4, 230, 8, 1, 0, 107, 1280, 1281), (5, 10, 8, 0, 0, 107, 1301, 88), (5, 6, 8, 1, 0, 107, 1296, 1297), (5, 14, 8, 0, 0, 107, 1304, 1305), (5, 18, 8, 0, 0, 107, 1308, 1309), (5, 31, 8, 3, 0, 107, 1322, 89), (5, 22, 8, 4, 0, 107, 1312, 1313), (5, 35, 8, 4, 0, 107, 1325, 1326)]
def mm_src_10 : List (Nat × Nat × Nat × Nat × Nat × Nat × Nat × Nat) := [(5, 50, 8, 1, 0, 107, 1341, 90), (5, 55, 8, 0, 0, 107, 1346, 91), (5, 46, 8, 1, 0, 107, 1336, 1337), (5, 59, 8, 3, 0, 107, 1349, 1350), (5, 65, 8, 0, 0, 107, 1355, 1356), (5, 69, 8, 0, 0, 107, 1359, 1360), (5, 73, 8, 1, 0, 107, 1363, 1364), (5, 25, 8, 1, 1, 107, 1316, 0), (5, 40, 8, 3, 0, 107, 1330, 1331), (5, 78, 8, 3, 0, 107, 1368, 1369), (5, 82, 8, 5, 0, 107, 1372, 1373), (5, 86, 8, 4, 0, 107, 1376, 1377), (5, 94, 8, 1, 1, 107, 1385, 0), (5, 91, 8, 2, 0, 107, 1381, 1382), (2, 64, 10, 1, 1, 109, 635, 0), (0, 170, 12, 0, 0, 98, 260, 261), (0, 180, 12, 1, 0, 98, 270, 271), (0, 174, 12, 0, 0, 98, 264, 265), (0, 184, 12, 0, 0, 98, 274, 275), (0, 190, 12, 2, 1, 98, 281, 0)]
def mm_src_11 : List (Nat × Nat × Nat × Nat × Nat × Nat × Nat × Nat) := [(0, 187, 13, 2, 1, 99, 278, 0), (2, 154, 14, 2, 1, 104, 725, 0), (1, 65, 14, 2, 1, 104, 396, 0), (0, 195, 15, 3, 1, 100, 286, 0)]
def mm_src : List (Nat × Nat × Nat × Nat × Nat × Nat × Nat × Nat) := mm_src_0 ++ (mm_src_1 ++ (mm_src_2 ++ (mm_src_3 ++ (mm_src_4 ++ (mm_src_5 ++ (mm_src_6 ++ (mm_src_7 ++ (mm_src_8 ++ (mm_src_9 ++ (mm_src_10 ++ (mm_src_11)))))))))))
def mm_get (q : Nat × Nat × Nat × Nat × Nat × Nat × Nat × Nat) : mm_MT := match (mm_ch q.1)[q.2.1]? with
  | some (.code y b n r) => (y, b, n, r, q.2.2.1, q.2.2.2.1, q.2.2.2.2.1)
  | _ => (⟨"", "", ""⟩, ⟨#[]⟩, 0, none, 0, 0, 9)
def mm_tab : List mm_MT := mm_src.map mm_get ++ [(⟨"MendedWithTheWordLaw", "law", "([I)Z"⟩, code, 4, some .boolean, 9, 1, 1)]
/-- call sites: class, place in the pool, method, of a nest mate, where the word stands -/
def mm_ct_0 : List (Nat × Nat × Nat × Bool × Nat) := [(9, 9, 0, false, 112), (0, 9, 61, true, 120), (0, 18, 41, true, 144), (0, 25, 77, false, 182), (0, 44, 66, true, 240), (0, 47, 215, false, 259), (12, 335, 217, false, 263), (0, 53, 216, false, 269), (12, 492, 218, false, 273), (12, 495, 220, false, 277), (13, 9, 219, false, 280), (12, 1059, 223, false, 285), (0, 57, 42, false, 307), (0, 61, 45, false, 311), (2, 37, 55, false, 315), (2, 92, 59, false, 319), (2, 95, 57, false, 322), (2, 109, 58, false, 327), (2, 135, 215, false, 331), (2, 140, 216, false, 332), (2, 98, 60, false, 344), (2, 101, 56, false, 347), (2, 104, 75, false, 351), (2, 45, 46, false, 354), (2, 60, 47, false, 358), (2, 67, 48, false, 362), (2, 70, 49, false, 366), (2, 73, 50, false, 370), (2, 76, 51, false, 374), (2, 79, 52, false, 378), (2, 82, 74, false, 382), (2, 63, 54, false, 385), (2, 89, 53, false, 389), (2, 51, 222, false, 395), (2, 57, 71, false, 411), (0, 65, 62, false, 427), (0, 68, 43, false, 431), (9, 13, 1, false, 457), (0, 71, 84, false, 461), (7, 62, 79, false, 465)]
def mm_ct_1 : List (Nat × Nat × Nat × Bool × Nat) := [(7, 66, 80, false, 469), (0, 75, 28, false, 473), (0, 78, 29, false, 477), (0, 81, 85, false, 481), (7, 69, 84, false, 485), (7, 73, 88, false, 486), (7, 86, 93, false, 490), (7, 104, 87, false, 494), (7, 108, 63, false, 498), (7, 114, 64, false, 502), (3, 30, 73, false, 506), (3, 34, 72, false, 510), (3, 40, 76, false, 514), (3, 43, 65, false, 517), (3, 47, 33, true, 521), (7, 90, 35, false, 524), (1, 9, 40, false, 527), (1, 15, 33, true, 530), (7, 77, 89, false, 531), (7, 95, 36, false, 535), (7, 80, 90, false, 538), (7, 83, 91, false, 545), (0, 85, 86, false, 549), (9, 18, 2, false, 553), (0, 89, 82, false, 557), (9, 23, 3, false, 561), (0, 92, 30, false, 565), (0, 96, 79, false, 568), (0, 99, 83, false, 569), (9, 27, 4, false, 573), (9, 31, 5, false, 577), (9, 36, 6, false, 581), (0, 107, 44, false, 585), (9, 41, 7, false, 589), (9, 45, 8, false, 593), (0, 113, 97, false, 597), (7, 117, 92, false, 601), (7, 102, 37, false, 605), (9, 49, 9, false, 608), (0, 116, 94, false, 612)]
def mm_ct_2 : List (Nat × Nat × Nat × Bool × Nat) := [(0, 119, 100, false, 616), (7, 123, 99, false, 620), (7, 120, 98, false, 624), (0, 122, 101, false, 628), (7, 126, 94, false, 632), (7, 129, 100, false, 633), (0, 126, 214, false, 634), (0, 131, 95, false, 640), (0, 134, 102, false, 644), (9, 53, 10, false, 648), (0, 140, 99, false, 652), (9, 57, 11, false, 653), (0, 143, 96, false, 657), (0, 146, 78, false, 661), (9, 61, 12, false, 666), (0, 153, 81, false, 670), (9, 65, 13, false, 674), (9, 69, 14, false, 678), (9, 73, 15, false, 682), (9, 77, 16, false, 686), (0, 162, 31, false, 690), (0, 165, 80, false, 693), (0, 168, 67, false, 694), (0, 171, 103, false, 698), (0, 175, 104, false, 702), (7, 141, 86, false, 706), (7, 145, 103, false, 707), (0, 179, 105, false, 708), (0, 182, 106, false, 712), (9, 82, 17, false, 716), (0, 185, 68, false, 720), (4, 22, 221, false, 724), (0, 188, 88, false, 727), (0, 191, 70, false, 728), (4, 28, 69, false, 732), (9, 86, 18, false, 736), (0, 193, 107, false, 740), (9, 90, 19, false, 745), (0, 199, 34, false, 750), (9, 95, 20, false, 753)]
def mm_ct_3 : List (Nat × Nat × Nat × Bool × Nat) := [(9, 99, 21, false, 757), (9, 103, 22, false, 761), (0, 209, 87, false, 765), (9, 107, 23, false, 766), (0, 213, 32, false, 770), (9, 111, 24, false, 773), (0, 216, 69, false, 777), (9, 115, 25, false, 778), (9, 120, 26, false, 783), (0, 232, 2, false, 787), (9, 124, 27, false, 788), (0, 238, 38, false, 792), (1, 19, 39, false, 795), (9, 12, 110, false, 800), (8, 75, 111, false, 804), (9, 17, 116, false, 950), (8, 85, 108, false, 955), (8, 107, 114, false, 958), (8, 92, 112, false, 962), (8, 96, 113, false, 966), (8, 111, 115, false, 970), (8, 114, 120, false, 977), (8, 134, 172, false, 982), (8, 362, 171, false, 986), (8, 356, 170, false, 990), (8, 353, 167, false, 994), (8, 201, 123, false, 998), (8, 161, 122, false, 1002), (8, 204, 126, false, 1011), (8, 192, 125, false, 1015), (8, 349, 166, false, 1019), (8, 198, 124, false, 1023), (8, 346, 165, false, 1027), (8, 343, 164, false, 1031), (8, 340, 163, false, 1035), (8, 229, 128, false, 1039), (8, 322, 157, false, 1043), (8, 304, 151, false, 1047), (8, 286, 145, false, 1051), (8, 268, 139, false, 1055)]
def mm_ct_4 : List (Nat × Nat × Nat × Bool × Nat) := [(8, 250, 133, false, 1059), (8, 245, 132, false, 1063), (8, 240, 131, false, 1067), (8, 237, 130, false, 1071), (8, 226, 127, false, 1075), (8, 233, 129, false, 1079), (8, 265, 138, false, 1085), (8, 262, 137, false, 1089), (8, 259, 136, false, 1093), (8, 256, 135, false, 1097), (8, 253, 134, false, 1101), (8, 283, 144, false, 1105), (8, 280, 143, false, 1109), (8, 277, 142, false, 1113), (8, 274, 141, false, 1117), (8, 271, 140, false, 1121), (8, 301, 150, false, 1125), (8, 298, 149, false, 1129), (8, 295, 148, false, 1133), (8, 292, 147, false, 1137), (8, 289, 146, false, 1141), (8, 319, 156, false, 1145), (8, 316, 155, false, 1149), (8, 313, 154, false, 1153), (8, 310, 153, false, 1157), (8, 307, 152, false, 1161), (8, 337, 162, false, 1165), (8, 334, 161, false, 1169), (8, 331, 160, false, 1173), (8, 328, 159, false, 1177), (8, 325, 158, false, 1181), (8, 359, 109, false, 1185), (8, 138, 173, false, 1188), (8, 141, 175, false, 1192), (8, 144, 176, false, 1196), (8, 118, 117, false, 1200), (9, 22, 118, false, 1204), (9, 26, 119, false, 1208), (9, 30, 120, false, 1214), (9, 35, 121, false, 1215)]
def mm_ct_5 : List (Nat × Nat × Nat × Bool × Nat) := [(9, 40, 168, false, 1220), (9, 44, 169, false, 1224), (9, 48, 184, false, 1228), (8, 381, 183, false, 1232), (8, 378, 174, false, 1236), (9, 52, 186, false, 1240), (8, 384, 182, false, 1244), (8, 372, 177, false, 1248), (8, 375, 181, false, 1252), (8, 369, 180, false, 1256), (8, 387, 179, false, 1260), (8, 390, 178, false, 1263), (8, 393, 185, false, 1267), (9, 56, 187, false, 1271), (9, 60, 188, false, 1275), (9, 64, 192, false, 1279), (8, 402, 191, false, 1283), (8, 396, 189, false, 1287), (8, 399, 190, false, 1291), (9, 68, 194, false, 1295), (8, 405, 193, false, 1299), (9, 72, 195, false, 1303), (9, 76, 196, false, 1307), (9, 81, 198, false, 1311), (8, 408, 207, false, 1315), (8, 413, 197, false, 1320), (9, 85, 199, false, 1324), (8, 418, 208, false, 1329), (9, 89, 202, false, 1335), (8, 422, 200, false, 1339), (8, 426, 201, false, 1344), (9, 94, 203, false, 1348), (9, 98, 204, false, 1354), (9, 102, 205, false, 1358), (9, 106, 206, false, 1362), (9, 110, 208, false, 1366), (9, 114, 209, false, 1367), (9, 119, 210, false, 1371), (9, 123, 211, false, 1375), (8, 451, 118, false, 1379)]
def mm_ct_6 : List (Nat × Nat × Nat × Bool × Nat) := [(9, 127, 213, false, 1380), (8, 454, 212, false, 1384)]
def mm_ct : List (Nat × Nat × Nat × Bool × Nat) := mm_ct_0 ++ (mm_ct_1 ++ (mm_ct_2 ++ (mm_ct_3 ++ (mm_ct_4 ++ (mm_ct_5 ++ (mm_ct_6))))))
/-- calls of Object() (0) and of arraycopy (1) -/
def mm_nt : List (Nat × Nat × Nat × Nat) := [(0, 1, 0, 115), (3, 3, 0, 123), (2, 3, 0, 147), (7, 3, 0, 185), (4, 3, 0, 243), (14, 304, 3, 405), (14, 150, 1, 408), (5, 3, 0, 414), (7, 97, 2, 542), (7, 47, 1, 665), (0, 226, 1, 782), (8, 7, 0, 803)]
/-- fields: class, place, kind of object, which, of a nest mate, where the word stands -/
def mm_ft : List (Nat × Nat × Nat × Nat × Bool × Nat) := [(3, 11, 1, 0, false, 126), (3, 26, 1, 1, false, 127), (0, 103, 1, 1, true, 128), (7, 140, 1, 1, true, 129), (3, 19, 1, 2, false, 130), (3, 23, 1, 3, false, 131), (2, 9, 0, 0, false, 148), (2, 21, 0, 1, false, 149), (0, 212, 0, 1, true, 150), (2, 28, 0, 2, false, 151), (2, 40, 0, 3, false, 152), (2, 25, 0, 4, false, 153), (2, 86, 0, 5, false, 154), (2, 31, 0, 6, false, 155), (2, 15, 0, 7, false, 156), (2, 34, 0, 8, false, 157), (2, 18, 0, 9, false, 158), (7, 37, 4, 0, false, 186), (7, 41, 4, 1, false, 187), (0, 150, 4, 1, true, 188), (7, 9, 4, 2, false, 189), (0, 137, 4, 2, true, 190), (7, 44, 4, 3, false, 191), (0, 156, 4, 3, true, 192), (7, 15, 4, 4, false, 193), (0, 235, 4, 4, true, 194), (7, 19, 4, 5, false, 195), (0, 243, 4, 5, true, 196), (7, 53, 4, 6, false, 197), (0, 206, 4, 6, true, 198), (7, 22, 4, 7, false, 199), (7, 25, 4, 8, false, 200), (7, 28, 4, 9, false, 201), (7, 31, 4, 10, false, 202), (7, 34, 4, 11, false, 203), (7, 56, 4, 12, false, 204), (0, 110, 4, 12, true, 205), (7, 59, 4, 13, false, 206), (0, 159, 4, 13, true, 207), (4, 9, 2, 0, false, 244), (0, 219, 2, 0, true, 245), (4, 19, 2, 1, false, 246), (7, 132, 2, 1, true, 247), (4, 15, 2, 2, false, 248), (0, 222, 2, 2, true, 249), (7, 137, 2, 2, true, 250), (5, 9, 3, 0, false, 415), (3, 37, 3, 0, true, 416), (5, 15, 3, 1, false, 417), (5, 19, 3, 2, false, 418), (0, 10, 5, 0, false, 435), (0, 19, 5, 1, false, 436), (0, 28, 5, 2, false, 437), (0, 32, 5, 3, false, 438), (0, 35, 5, 4, false, 439), (0, 40, 5, 5, false, 440), (0, 202, 5, 6, false, 441), (8, 13, 6, 1, false, 808), (8, 17, 6, 2, false, 809), (8, 79, 6, 3, false, 810), (8, 125, 6, 4, false, 811), (8, 20, 6, 5, false, 812), (8, 149, 6, 6, false, 813), (8, 122, 6, 7, false, 814), (8, 23, 6, 8, false, 815), (8, 26, 6, 9, false, 816), (8, 29, 6, 10, false, 817), (8, 82, 6, 11, false, 818), (8, 32, 6, 12, false, 819), (8, 35, 6, 13, false, 820), (8, 38, 6, 14, false, 821), (8, 89, 6, 15, false, 822), (8, 208, 6, 16, false, 823), (8, 211, 6, 17, false, 824), (8, 214, 6, 18, false, 825), (8, 217, 6, 19, false, 826), (8, 220, 6, 20, false, 827), (8, 223, 6, 21, false, 828), (8, 155, 6, 22, false, 829), (8, 152, 6, 23, false, 830), (8, 158, 6, 24, false, 831), (8, 168, 6, 25, false, 832), (8, 165, 6, 26, false, 833), (8, 179, 6, 27, false, 834), (8, 195, 6, 28, false, 835), (8, 185, 6, 29, false, 836), (8, 189, 6, 30, false, 837), (8, 366, 6, 31, false, 838), (8, 41, 6, 32, false, 839), (8, 44, 6, 33, false, 840), (8, 47, 6, 34, false, 841), (8, 50, 6, 35, false, 842), (8, 53, 6, 36, false, 843), (8, 56, 6, 37, false, 844), (8, 59, 6, 38, false, 845), (8, 433, 6, 39, false, 846), (8, 436, 6, 40, false, 847), (8, 439, 6, 41, false, 848), (8, 442, 6, 42, false, 849), (8, 62, 6, 43, false, 850), (8, 66, 6, 44, false, 851), (8, 69, 6, 45, false, 852), (8, 72, 6, 46, false, 853)]
def mm_kt : List (Nat × Nat × Int32 × Nat) := [(10, 265, 1431655765, 637), (10, 266, 858993459, 638), (10, 267, 252645135, 639), (7, 149, 1103515245, 744), (8, 421, 1103515245, 1343)]
def mm_lt : List (Nat × Nat × Int64 × Nat) := [(0, 197, -4611686018427387904, 749), (8, 105, 5, 954), (8, 99, 99, 974), (8, 101, 8, 975), (8, 103, 9, 976), (8, 132, 12, 981), (8, 171, 97, 1006), (8, 173, 122, 1007), (8, 175, 48, 1008), (8, 177, 57, 1009), (8, 183, 10, 1010), (8, 243, 43, 1083), (8, 248, 60, 1084), (8, 128, 77, 1212), (8, 130, 999, 1213), (8, 147, 255, 1219), (8, 445, 3, 1318), (8, 411, 6, 1319), (8, 416, 40, 1328), (8, 447, -1, 1333), (8, 449, 2, 1334), (8, 429, 20, 1352), (8, 431, -4611686018427387904, 1353)]
/-- texts: class, place, which -/
def mm_st : List (Nat × Nat × Nat × Nat) := [(0, 45, 0, 258), (2, 107, 1, 326), (2, 113, 2, 333), (2, 115, 3, 334), (2, 117, 4, 335), (2, 119, 5, 336), (2, 121, 6, 337), (2, 123, 7, 338), (2, 125, 8, 339), (2, 127, 9, 340), (2, 129, 10, 341), (2, 131, 11, 342), (2, 133, 12, 343)]
def mm_sx : List String := ["says 20 + day ; slacks 3 + force ; holds 9 ;", "tone", "day", "numbe\x72", "force", "mended", "seam", "says", "slacks", "holds", "o\x72", "and", "not"]
def mm_sb : List (List Int32) := [[115, 97, 121, 115, 32, 50, 48, 32, 43, 32, 100, 97, 121, 32, 59, 32, 115, 108, 97, 99, 107, 115, 32, 51, 32, 43, 32, 102, 111, 114, 99, 101, 32, 59, 32, 104, 111, 108, 100, 115, 32, 57, 32, 59], [116, 111, 110, 101], [100, 97, 121], [110, 117, 109, 98, 101, 114], [102, 111, 114, 99, 101], [109, 101, 110, 100, 101, 100], [115, 101, 97, 109], [115, 97, 121, 115], [115, 108, 97, 99, 107, 115], [104, 111, 108, 100, 115], [111, 114], [97, 110, 100], [110, 111, 116]]
/-- new: class, place, kind, where classLink, instantiable, initialized stand -/
def mm_ot : List (Nat × Nat × Nat × Nat × Nat × Nat) := [(9, 7, 5, 110, 111, 93), (0, 7, 1, 118, 119, 94), (3, 9, 3, 124, 394, 103), (0, 16, 0, 142, 143, 95), (0, 23, 4, 180, 181, 96), (0, 38, 2, 237, 239, 97), (2, 49, 3, 393, 394, 103), (9, 10, 6, 798, 799, 107)]
/-- rows of references: class, place, sort, where classLink stands -/
def mm_at : List (Nat × Nat × Nat × Nat) := [(3, 9, 12, 124), (0, 38, 13, 237)]
/-- a word stands at a place of the tables, and may be carried to any callee -/
def mm_wa (i : Nat) (w : Cond) : Bool := match lw_tbl[i]? with
  | some x => decide (x = w) && goodWord w
  | none => false
/-- the words that every method of the system is given -/
def mm_ws : List Cond := lw_tbl.filter goodWord
theorem mm_wa_in {i : Nat} {w : Cond} (h : mm_wa i w = true) : w ∈ mm_ws := by
  unfold mm_wa at h
  split at h
  · next x hx =>
    simp only [Bool.and_eq_true, decide_eq_true_eq] at h
    obtain ⟨rfl, h2⟩ := h
    exact List.mem_filter.mpr ⟨List.mem_of_getElem? hx, h2⟩
  · cases h
def mm_c (c : Nat) : String := mm_cls.getD c ""
/-- a method's own words -/
def mm_okm (s : Nat × Nat × Nat × Nat × Nat × Nat × Nat × Nat) : Bool := match mm_get s with
  | (y, _, n, r, c, np, kd) => mm_wa s.2.2.2.2.2.1 (.initialized y.cls) && (mm_wa s.2.2.2.2.2.2.1 (if kd = 1 then .static y else .instanceMethod y) && ((kd != 0 || mm_wa s.2.2.2.2.2.2.2 (.selects y.cls y y)) && (plainName y.cls && (decide (mm_c c = y.cls) && (decide ((parseMethodDescriptor y.desc).map (fun d => d.parameters.length) = some np) && (decide (y.cls ≠ "java/lang/invoke/MethodHandle") && (decide (y.cls ≠ "java/lang/invoke/VarHandle") && (decide (n ≤ 40) && (kd != 2 || (decide (y.name = "<init>") && decide (r = none))))))))))) && decide (kd ≤ 2)
def mm_law : Nat := 224
theorem mm_src_len : mm_src.length = mm_law := by decide +kernel
theorem mm_okm_0 : mm_src_0.all mm_okm = true := by decide +kernel
theorem mm_okm_1 : mm_src_1.all mm_okm = true := by decide +kernel
theorem mm_okm_2 : mm_src_2.all mm_okm = true := by decide +kernel
theorem mm_okm_3 : mm_src_3.all mm_okm = true := by decide +kernel
theorem mm_okm_4 : mm_src_4.all mm_okm = true := by decide +kernel
theorem mm_okm_5 : mm_src_5.all mm_okm = true := by decide +kernel
theorem mm_okm_6 : mm_src_6.all mm_okm = true := by decide +kernel
theorem mm_okm_7 : mm_src_7.all mm_okm = true := by decide +kernel
theorem mm_okm_8 : mm_src_8.all mm_okm = true := by decide +kernel
theorem mm_okm_9 : mm_src_9.all mm_okm = true := by decide +kernel
theorem mm_okm_10 : mm_src_10.all mm_okm = true := by decide +kernel
theorem mm_okm_11 : mm_src_11.all mm_okm = true := by decide +kernel
def mm_okc (q : Nat × Nat × Nat × Bool × Nat) : Bool := match mm_tab[q.2.2.1]? with
  | some r => if q.2.2.2.1 = true then decide (lw_tbl[q.2.2.2.2]? = some (.methodLinkNest (mm_c q.1) q.2.1 r.1 "MendedWithTheWord")) else mm_wa q.2.2.2.2 (.methodLink (mm_c q.1) q.2.1 r.1)
  | none => false
theorem mm_okm_all : ∀ s ∈ mm_src, mm_okm s = true := by
  intro s hs
  simp only [mm_src, List.mem_append] at hs
  rcases hs with h | h | h | h | h | h | h | h | h | h | h | h
  · exact List.all_eq_true.mp mm_okm_0 s h
  · exact List.all_eq_true.mp mm_okm_1 s h
  · exact List.all_eq_true.mp mm_okm_2 s h
  · exact List.all_eq_true.mp mm_okm_3 s h
  · exact List.all_eq_true.mp mm_okm_4 s h
  · exact List.all_eq_true.mp mm_okm_5 s h
  · exact List.all_eq_true.mp mm_okm_6 s h
  · exact List.all_eq_true.mp mm_okm_7 s h
  · exact List.all_eq_true.mp mm_okm_8 s h
  · exact List.all_eq_true.mp mm_okm_9 s h
  · exact List.all_eq_true.mp mm_okm_10 s h
  · exact List.all_eq_true.mp mm_okm_11 s h
theorem mm_okc_0 : mm_ct_0.all mm_okc = true := by decide +kernel
theorem mm_okc_1 : mm_ct_1.all mm_okc = true := by decide +kernel
theorem mm_okc_2 : mm_ct_2.all mm_okc = true := by decide +kernel
theorem mm_okc_3 : mm_ct_3.all mm_okc = true := by decide +kernel
theorem mm_okc_4 : mm_ct_4.all mm_okc = true := by decide +kernel
theorem mm_okc_5 : mm_ct_5.all mm_okc = true := by decide +kernel
theorem mm_okc_6 : mm_ct_6.all mm_okc = true := by decide +kernel
theorem mm_okc_all : ∀ s ∈ mm_ct, mm_okc s = true := by
  intro s hs
  simp only [mm_ct, List.mem_append] at hs
  rcases hs with h | h | h | h | h | h | h
  · exact List.all_eq_true.mp mm_okc_0 s h
  · exact List.all_eq_true.mp mm_okc_1 s h
  · exact List.all_eq_true.mp mm_okc_2 s h
  · exact List.all_eq_true.mp mm_okc_3 s h
  · exact List.all_eq_true.mp mm_okc_4 s h
  · exact List.all_eq_true.mp mm_okc_5 s h
  · exact List.all_eq_true.mp mm_okc_6 s h
def mm_T (ci : Nat) : u_T := (vwCl.getD ci ("", TX1, 0)).2.1
def mm_C (ci : Nat) : String := (vwCl.getD ci ("", TX1, 0)).1
def mm_nf (ci : Nat) : Nat := (vwCl.getD ci ("", TX1, 0)).2.2
def mm_ty (ci : Nat) : Nat → FieldType := match ci with | 0 => tyX1 | 1 => tyX2 | 2 => tyX3 | 3 => tyX4 | 4 => tyX6 | 5 => tyX7 | _ => tyX8
def mm_okf (q : Nat × Nat × Nat × Nat × Bool × Nat) : Bool :=
  decide (q.2.2.1 < 7) && (decide (q.2.2.2.1 < mm_nf q.2.2.1) && (decide ((mm_T q.2.2.1 q.2.2.2.1).1 = mm_C q.2.2.1) && (if q.2.2.2.2.1 = true then decide (lw_tbl[q.2.2.2.2.2]? = some (.fieldLinkNest (mm_c q.1) q.2.1 (mm_C q.2.2.1) (mm_T q.2.2.1 q.2.2.2.1).2.1 (mm_T q.2.2.1 q.2.2.2.1).2.2.1 "MendedWithTheWord")) else mm_wa q.2.2.2.2.2 (.fieldLink (mm_c q.1) q.2.1 (mm_C q.2.2.1) (mm_T q.2.2.1 q.2.2.2.1).2.1 (mm_T q.2.2.1 q.2.2.2.1).2.2.1))))
theorem mm_okf_all : mm_ft.all mm_okf = true := by decide +kernel
def mm_okn (q : Nat × Nat × Nat × Nat) : Bool := mm_wa q.2.2.2 (.methodLink (mm_c q.1) q.2.1 (if q.2.2.1 = 0 then objectInit else if q.2.2.1 = 1 then arraycopyName else if q.2.2.1 = 2 then Lib.Math.abs.name else Lib.Math.min.name))
theorem mm_okn_all : mm_nt.all mm_okn = true := by decide +kernel
theorem mm_jw : mm_wa 543 (.static Lib.Math.abs.name) = true ∧ mm_wa 406 (.static Lib.Math.min.name) = true ∧ mm_wa 105 (.initialized "java/lang/Math") = true ∧ mm_wa 106 (.initialized "java/lang/System") = true ∧ mm_wa 410 (.native arraycopyName) = true ∧ mm_wa 409 (.static arraycopyName) = true ∧ mm_wa 116 (.instanceMethod objectInit) = true := by decide +kernel
theorem mm_jc : mm_wa 544 (.code Lib.Math.abs.name Lib.Math.abs.code 1 (some .int)) = true ∧ mm_wa 407 (.code Lib.Math.min.name Lib.Math.min.code 2 (some .int)) = true ∧ mm_wa 117 (.code objectInit ⟨#[0xb1]⟩ 1 none) = true := by decide +kernel
theorem mm_sf : mm_wa 1387 (.fieldLink "java/lang/String" 9 "java/lang/String" "value" "[B") = true ∧ mm_wa 1388 (.fieldLink "java/lang/String" 15 "java/lang/String" "coder" "B") = true ∧ mm_wa 267 (.fieldLink "java/lang/String" 38 "java/lang/String" "COMPACT_STRINGS" "Z") = true ∧ mm_wa 283 (.fieldLink "java/lang/String" 1053 "jdk/internal/util/Preconditions" "SIOOBE_FORMATTER" "Ljava/util/function/BiFunction;") = true := by decide +kernel
def mm_islay (w : Cond) : Bool := match w with
  | .lays .. | .laysFinal .. | .arrayClass _ => true
  | _ => false
def mm_lays : List Cond := lw_tbl.filter mm_islay
theorem mm_uw0 : ((List.range 7).flatMap (fun ci => u_ws (mm_C ci) (mm_T ci) (mm_nf ci)) ++ [Cond.arrayClass .int, Cond.arrayClass .boolean]).all (fun w => decide (w ∈ mm_lays) && goodWord w) = true := by decide +kernel
theorem mm_okk_all : (mm_kt.all fun q => mm_wa q.2.2.2 (.constant (mm_c q.1) q.2.1 q.2.2.1)) = true := by decide +kernel
theorem mm_okl_all : (mm_lt.all fun q => mm_wa q.2.2.2 (.constantLong (mm_c q.1) q.2.1 q.2.2.1)) = true := by decide +kernel
theorem mm_oko_all : (mm_ot.all fun q => decide (q.2.2.1 < 7) && (mm_wa q.2.2.2.1 (.classLink (mm_c q.1) q.2.1 (mm_C q.2.2.1)) && (mm_wa q.2.2.2.2.1 (.instantiable (mm_C q.2.2.1) (mm_nf q.2.2.1)) && mm_wa q.2.2.2.2.2 (.initialized (mm_C q.2.2.1))))) = true := by decide +kernel
def mm_E (k : Nat) : String := if k = 12 then "MendedWithTheWord$Text" else "MendedWithTheWord$Sheet"
theorem mm_oka_all : (mm_at.all fun q => decide (q.2.2.1 = 12 ∨ q.2.2.1 = 13) && mm_wa q.2.2.2 (.classLink (mm_c q.1) q.2.1 (mm_E q.2.2.1))) = true := by decide +kernel
theorem mm_oks_all : (mm_st.all fun q => decide (q.2.2.1 < 13) && decide (lw_tbl[q.2.2.2]? = some (.stringRef (mm_c q.1) q.2.1 (mm_sx.getD q.2.2.1 "")))) = true := by decide +kernel
end
section
/-! THE SMALL MACHINE: what a method's code does to a heap of numbered cells; one run of a method is a function. -/
/-- nothing known of a local -/
def mm_U : Value := .float 0
/-- a heap: ints, references, (sort, length) of each cell, how many cells, how many slots. Sorts: 0 .. 6 objects (as vwCl), 10 int[], 11 boolean[], 12 Text[], 13 Sheet[] -/
abbrev mm_H : Type := (Nat → Nat → Int32) × (Nat → Nat → Value) × (Nat → Nat × Nat) × Nat × Nat
def gI (M : mm_H) (o k : Nat) : Int32 := M.1 o k
def gR (M : mm_H) (o k : Nat) : Value := M.2.1 o k
def gS (M : mm_H) (o : Nat) : Nat := (M.2.2.1 o).1
def gL (M : mm_H) (o : Nat) : Nat := (M.2.2.1 o).2
def gN (M : mm_H) : Nat := M.2.2.2.1
def gZ (M : mm_H) : Nat := M.2.2.2.2
def pI (M : mm_H) (o k : Nat) (x : Int32) : mm_H := (fun a b => if a = o ∧ b = k then x else M.1 a b, M.2)
def pR (M : mm_H) (o k : Nat) (v : Value) : mm_H := (M.1, fun a b => if a = o ∧ b = k then v else M.2.1 a b, M.2.2)
/-- a new cell -/
def pN (M : mm_H) (sort len sl : Nat) : mm_H := (fun a b => if a = M.2.2.2.1 then 0 else M.1 a b, fun a b => if a = M.2.2.2.1 then (if sort = 6 ∧ b = 27 then .long 0 else .null) else M.2.1 a b, fun a => if a = M.2.2.2.1 then (sort, len) else M.2.2.1 a, M.2.2.2.1 + 1, M.2.2.2.2 + sl)
/-- n ints of a from place s on come to b's place d on -/
def pC (M : mm_H) (a s b d n : Nat) : mm_H := (fun x k => if x = b ∧ d ≤ k ∧ k < d + n then M.1 a (s + (k - d)) else M.1 x k, M.2)
/-- code -/
def mm_I (m pc : Nat) : Option (Instr × Nat) := match mm_tab[m]? with
  | some q => (match decode q.2.1 pc with | .ok r => some r | .error _ => none)
  | none => none
def mm_cl (m : Nat) : Nat := match mm_tab[m]? with | some q => q.2.2.2.2.1 | none => 0
/-- a constructor? -/
def mm_ini (m : Nat) : Bool := match mm_tab[m]? with | some q => q.2.2.2.2.2.2 == 2 | none => false
def mm_len (i : Instr) (len : Nat) : Bool := match i with
  | .tableswitch .. | .lookupswitch .. => true
  | .aload _ | .astore _ | .iload _ | .istore _ | .lload _ | .lstore _ | .bipush _ | .ldc _ | .newarray _ => len == 2
  | .sipush _ | .iinc _ _ | .goto _ | .ifCond _ _ | .if_icmp _ _ | .ifnull _ | .ifnonnull _ | .getfield _ | .putfield _ | .getstatic _ | .new _ | .anewarray _ | .invokespecial _ | .invokestatic _ | .invokevirtual _ | .ldc_w _ | .ldc2_w _ => len == 3
  | _ => len == 1
abbrev mm_X : Type := Nat × List Value × List Value × mm_H
def mm_nl (ls : List Value) : Nat → Bool
  | 0 => true
  | i + 1 => match ls[i]? with | some (.long _) => false | some (.double _) => false | _ => true
def mm_put (ls : List Value) (i : Nat) (v : Value) : Option (List Value) := if i < ls.length ∧ mm_nl ls i = true then some (ls.set i v) else none
def mm_put2 (ls : List Value) (i : Nat) (v : Value) : Option (List Value) := if i + 1 < ls.length ∧ mm_nl ls i = true then some ((ls.set i v).set (i + 1) mm_U) else none
def mm_at_ (pc : Nat) (off : Int) : Option Nat := if 0 ≤ (pc : Int) + off then some ((pc : Int) + off).toNat else none
def mm_ldI (n k pc : Nat) (ls st : List Value) (M : mm_H) : Option mm_X := match ls[k]? with | some (.int x) => some (pc + n, ls, .int x :: st, M) | _ => none
def mm_ldL (n k pc : Nat) (ls st : List Value) (M : mm_H) : Option mm_X := match ls[k]? with | some (.long x) => some (pc + n, ls, .long x :: st, M) | _ => none
def mm_ldA (n k pc : Nat) (ls st : List Value) (M : mm_H) : Option mm_X := match ls[k]? with | some (.ref x) => some (pc + n, ls, .ref x :: st, M) | some .null => some (pc + n, ls, .null :: st, M) | some (.retAddr x) => some (pc + n, ls, .retAddr x :: st, M) | _ => none
def mm_stI (n k pc : Nat) (ls st : List Value) (M : mm_H) : Option mm_X := match st with | .int x :: r => (match mm_put ls k (.int x) with | some l => some (pc + n, l, r, M) | none => none) | _ => none
def mm_stL (n k pc : Nat) (ls st : List Value) (M : mm_H) : Option mm_X := match st with | .long x :: r => (match mm_put2 ls k (.long x) with | some l => some (pc + n, l, r, M) | none => none) | _ => none
def mm_stA (n k pc : Nat) (ls st : List Value) (M : mm_H) : Option mm_X := match st with
  | .ref x :: r => (match mm_put ls k (.ref x) with | some l => some (pc + n, l, r, M) | none => none)
  | .null :: r => (match mm_put ls k .null with | some l => some (pc + n, l, r, M) | none => none)
  | _ => none
def mm_bin (f : Int32 → Int32 → Int32) (pc : Nat) (ls st : List Value) (M : mm_H) : Option mm_X := match st with | .int y :: .int x :: r => some (pc + 1, ls, .int (f x y) :: r, M) | _ => none
def mm_div (f : Int32 → Int32 → Int32) (pc : Nat) (ls st : List Value) (M : mm_H) : Option mm_X := match st with | .int y :: .int x :: r => if y = 0 then none else some (pc + 1, ls, .int (f x y) :: r, M) | _ => none
def mm_binL (f : Int64 → Int64 → Int64) (pc : Nat) (ls st : List Value) (M : mm_H) : Option mm_X := match st with | .long y :: .long x :: r => some (pc + 1, ls, .long (f x y) :: r, M) | _ => none
def mm_divL (f : Int64 → Int64 → Int64) (pc : Nat) (ls st : List Value) (M : mm_H) : Option mm_X := match st with | .long y :: .long x :: r => if y = 0 then none else some (pc + 1, ls, .long (f x y) :: r, M) | _ => none
def mm_un (f : Int32 → Value) (pc : Nat) (ls st : List Value) (M : mm_H) : Option mm_X := match st with | .int x :: r => some (pc + 1, ls, f x :: r, M) | _ => none
def mm_cond (c : ClassFile.Cond) (x y : Int32) : Bool := match c with
  | .eq => decide (x = y) | .ne => !decide (x = y) | .lt => decide (x < y) | .ge => decide (y ≤ x) | .gt => decide (y < x) | .le => decide (x ≤ y)
def mm_br (b : Bool) (off : Int) (pc : Nat) (ls st : List Value) (M : mm_H) : Option mm_X := match mm_at_ pc off with | some t => some (if b = true then t else pc + 3, ls, st, M) | none => none
/-- kept as a value: references, longs -/
def mm_rf : FieldType → Bool | .object _ => true | .array _ => true | .long => true | _ => false
def mm_fld (m idx : Nat) : Option (Nat × Nat × Nat × Nat × Bool × Nat) := mm_ft.find? (fun q => q.1 == mm_cl m && q.2.1 == idx)
def mm_gf (m idx pc : Nat) (ls st : List Value) (M : mm_H) : Option mm_X := match st with
  | .ref o :: r => (match mm_fld m idx with
    | some q => if gS M o = q.2.2.1 then some (pc + 3, ls, (if mm_rf (mm_ty q.2.2.1 q.2.2.2.1) = true then gR M o q.2.2.2.1 else .int (gI M o q.2.2.2.1)) :: r, M) else none
    | none => none)
  | .retAddr j :: r => if j < 13 ∧ mm_cl m = 12 ∧ idx = 9 then some (pc + 3, ls, .retAddr (j + 100) :: r, M) else if j < 13 ∧ mm_cl m = 12 ∧ idx = 15 then some (pc + 3, ls, .int 0 :: r, M) else none
  | _ => none
def mm_pf (m idx pc : Nat) (ls st : List Value) (M : mm_H) : Option mm_X := match st with
  | .int x :: .ref o :: r => (match mm_fld m idx with
    | some q => if gS M o = q.2.2.1 ∧ narrow (mm_ty q.2.2.1 q.2.2.2.1) (.int x) = .int x ∧ fits (mm_ty q.2.2.1 q.2.2.2.1) (.int x) = true ∧ (mm_T q.2.2.1 q.2.2.2.1).2.2.2 = false then some (pc + 3, ls, r, pI M o q.2.2.2.1 x) else none
    | none => none)
  | .ref y :: .ref o :: r => (match mm_fld m idx with
    | some q => if gS M o = q.2.2.1 ∧ (mm_ty q.2.2.1 q.2.2.2.1).isReference = true ∧ (mm_T q.2.2.1 q.2.2.2.1).2.2.2 = true ∧ mm_ini m = true ∧ mm_C q.2.2.1 = mm_c (mm_cl m) ∧ q.2.2.2.2.1 = false then some (pc + 3, ls, r, pR M o q.2.2.2.1 (.ref y)) else none
    | none => none)
  | .long x :: .ref o :: r => (match mm_fld m idx with
    | some q => if gS M o = q.2.2.1 ∧ mm_ty q.2.2.1 q.2.2.2.1 = .long ∧ (mm_T q.2.2.1 q.2.2.2.1).2.2.2 = false then some (pc + 3, ls, r, pR M o q.2.2.2.1 (.long x)) else none
    | none => none)
  | _ => none
def mm_gs (m idx pc : Nat) (ls st : List Value) (M : mm_H) : Option mm_X := if mm_cl m = 12 ∧ idx = 38 then some (pc + 3, ls, .int 1 :: st, M) else if mm_cl m = 12 ∧ idx = 1053 then some (pc + 3, ls, .retAddr 300 :: st, M) else none
/-- the law's own row is .retAddr 200: X's length and numbers -/
def mm_ial (L : Nat) (xs : Nat → Int32) (pc : Nat) (ls st : List Value) (M : mm_H) : Option mm_X := match st with
  | .int i :: .ref o :: r => if gS M o = 10 ∧ 0 ≤ i ∧ i.toNatClampNeg < gL M o then some (pc + 1, ls, .int (gI M o i.toNatClampNeg) :: r, M) else none
  | .int i :: .retAddr j :: r => if j = 200 ∧ 0 ≤ i ∧ i.toNatClampNeg < L then some (pc + 1, ls, .int (xs i.toNatClampNeg) :: r, M) else none
  | _ => none
def mm_bal (pc : Nat) (ls st : List Value) (M : mm_H) : Option mm_X := match st with
  | .int i :: .ref o :: r => if gS M o = 11 ∧ 0 ≤ i ∧ i.toNatClampNeg < gL M o then some (pc + 1, ls, .int (gI M o i.toNatClampNeg) :: r, M) else none
  | .int i :: .retAddr j :: r => if 100 ≤ j ∧ j < 113 ∧ 0 ≤ i ∧ i.toNatClampNeg < (mm_sb.getD (j - 100) []).length then some (pc + 1, ls, .int ((mm_sb.getD (j - 100) []).getD i.toNatClampNeg 0) :: r, M) else none
  | _ => none
def mm_aal (pc : Nat) (ls st : List Value) (M : mm_H) : Option mm_X := match st with
  | .int i :: .ref o :: r => if (gS M o = 12 ∨ gS M o = 13) ∧ 0 ≤ i ∧ i.toNatClampNeg < gL M o then some (pc + 1, ls, gR M o i.toNatClampNeg :: r, M) else none
  | _ => none
def mm_ias (pc : Nat) (ls st : List Value) (M : mm_H) : Option mm_X := match st with
  | .int x :: .int i :: .ref o :: r => if gS M o = 10 ∧ 0 ≤ i ∧ i.toNatClampNeg < gL M o then some (pc + 1, ls, r, pI M o i.toNatClampNeg x) else none
  | _ => none
def mm_bas (pc : Nat) (ls st : List Value) (M : mm_H) : Option mm_X := match st with
  | .int x :: .int i :: .ref o :: r => if gS M o = 11 ∧ 0 ≤ i ∧ i.toNatClampNeg < gL M o then some (pc + 1, ls, r, pI M o i.toNatClampNeg (x &&& 1)) else none
  | _ => none
/-- which objects a row of references holds -/
def mm_el (sort : Nat) : Nat := if sort = 12 then 3 else 2
def mm_aas (pc : Nat) (ls st : List Value) (M : mm_H) : Option mm_X := match st with
  | .ref y :: .int i :: .ref o :: r => if (gS M o = 12 ∨ gS M o = 13) ∧ 0 ≤ i ∧ i.toNatClampNeg < gL M o ∧ gS M y = mm_el (gS M o) then some (pc + 1, ls, r, pR M o i.toNatClampNeg (.ref y)) else none
  | _ => none
def mm_aln (L pc : Nat) (ls st : List Value) (M : mm_H) : Option mm_X := match st with
  | .ref o :: r => if 10 ≤ gS M o ∧ gS M o ≤ 13 then some (pc + 1, ls, .int (nI (gL M o)) :: r, M) else none
  | .retAddr j :: r => if j = 200 then some (pc + 1, ls, .int (nI L) :: r, M) else if 100 ≤ j ∧ j < 113 then some (pc + 1, ls, .int (nI (mm_sb.getD (j - 100) []).length) :: r, M) else none
  | _ => none
def mm_new (m idx pc : Nat) (ls st : List Value) (M : mm_H) : Option mm_X := match mm_ot.find? (fun q => q.1 == mm_cl m && q.2.1 == idx) with
  | some q => some (pc + 3, ls, .ref (gN M) :: st, pN M q.2.2.1 (mm_nf q.2.2.1) (mm_nf q.2.2.1))
  | none => none
def mm_nwa (t : ArrayType) (pc : Nat) (ls st : List Value) (M : mm_H) : Option mm_X := match st with
  | .int n :: r => if 0 ≤ n ∧ n.toNatClampNeg ≤ 100000 then (match t with
    | .int => some (pc + 2, ls, .ref (gN M) :: r, pN M 10 n.toNatClampNeg n.toNatClampNeg)
    | .boolean => some (pc + 2, ls, .ref (gN M) :: r, pN M 11 n.toNatClampNeg n.toNatClampNeg)
    | _ => none) else none
  | _ => none
def mm_ana (m idx pc : Nat) (ls st : List Value) (M : mm_H) : Option mm_X := match st with
  | .int n :: r => if 0 ≤ n ∧ n.toNatClampNeg ≤ 100000 then (match mm_at.find? (fun q => q.1 == mm_cl m && q.2.1 == idx) with
    | some q => some (pc + 3, ls, .ref (gN M) :: r, pN M q.2.2.1 n.toNatClampNeg n.toNatClampNeg)
    | none => none) else none
  | _ => none
def mm_ntv (m idx : Nat) : Option (Nat × Nat × Nat × Nat) := mm_nt.find? (fun q => q.1 == mm_cl m && q.2.1 == idx)
def mm_cs : List Value → Nat | [] => 0 | v :: r => v.category + mm_cs r
def mm_cpy (d m idx pc : Nat) (ls st : List Value) (M : mm_H) : Option mm_X := match st with
  | .int n :: .int dp :: .ref b :: .int sp :: .ref a :: r => (match mm_ntv m idx with
    | some q => if q.2.2.1 = 1 ∧ 0 < d ∧ gS M a = 10 ∧ gS M b = 10 ∧ 0 ≤ n ∧ 0 ≤ sp ∧ 0 ≤ dp ∧ sp.toNatClampNeg + n.toNatClampNeg ≤ gL M a ∧ dp.toNatClampNeg + n.toNatClampNeg ≤ gL M b ∧ mm_cs r ≤ 8 then some (pc + 3, ls, r, pC M a sp.toNatClampNeg b dp.toNatClampNeg n.toNatClampNeg) else none
    | none => none)
  | _ => none
def mm_obj (d m idx pc : Nat) (ls st : List Value) (M : mm_H) : Option mm_X := match st with
  | .ref o :: r => (match mm_ntv m idx with
    | some q => if q.2.2.1 = 0 ∧ 0 < d ∧ mm_cs r ≤ 8 then some (pc + 3, ls, r, M) else none
    | none => none)
  | _ => none
/-- abs and min -/
def mm_mat (d m idx pc : Nat) (ls st : List Value) (M : mm_H) : Option mm_X := match mm_ntv m idx with
  | some q => if q.2.2.1 = 2 ∧ 0 < d then (match st with
      | .int x :: r => if mm_cs r ≤ 8 then some (pc + 3, ls, .int (if 0 ≤ x then x else 0 - x) :: r, M) else none
      | _ => none)
    else if q.2.2.1 = 3 ∧ 0 < d then (match st with
      | .int y :: .int x :: r => if mm_cs r ≤ 8 then some (pc + 3, ls, .int (if y < x then y else x) :: r, M) else none
      | _ => none)
    else mm_cpy d m idx pc ls st M
  | none => none
/-- one step that is no call of a method of the list and no return -/
def mm_step (L : Nat) (xs : Nat → Int32) (d m pc : Nat) (i : Instr) (ls st : List Value) (M : mm_H) : Option mm_X := match i with
  | .iconst n => some (pc + 1, ls, .int (Int32.ofInt n) :: st, M)
  | .bipush n => some (pc + 2, ls, .int (Int8.ofInt n).toInt32 :: st, M)
  | .sipush n => some (pc + 3, ls, .int (Int16.ofInt n).toInt32 :: st, M)
  | .lconst n => some (pc + 1, ls, .long (Int64.ofNat (n : Nat)) :: st, M)
  | .aconst_null => some (pc + 1, ls, .null :: st, M)
  | .iload_n k => mm_ldI 1 k pc ls st M
  | .iload k => mm_ldI 2 k pc ls st M
  | .lload_n k => mm_ldL 1 k pc ls st M
  | .lload k => mm_ldL 2 k pc ls st M
  | .aload_n k => mm_ldA 1 k pc ls st M
  | .aload k => mm_ldA 2 k pc ls st M
  | .istore_n k => mm_stI 1 k pc ls st M
  | .istore k => mm_stI 2 k pc ls st M
  | .lstore_n k => mm_stL 1 k pc ls st M
  | .lstore k => mm_stL 2 k pc ls st M
  | .astore_n k => mm_stA 1 k pc ls st M
  | .astore k => mm_stA 2 k pc ls st M
  | .iinc k n => (match ls[k]? with | some (.int x) => (match mm_put ls k (.int (x + Int32.ofInt n)) with | some l => some (pc + 3, l, st, M) | none => none) | _ => none)
  | .iadd => mm_bin (fun x y => x + y) pc ls st M
  | .isub => mm_bin (fun x y => x - y) pc ls st M
  | .imul => mm_bin (fun x y => x * y) pc ls st M
  | .iand => mm_bin (fun x y => x &&& y) pc ls st M
  | .ior => mm_bin (fun x y => x ||| y) pc ls st M
  | .ixor => mm_bin (fun x y => x ^^^ y) pc ls st M
  | .ishl => mm_bin (fun x y => x <<< (y &&& 31)) pc ls st M
  | .ishr => mm_bin (fun x y => x >>> (y &&& 31)) pc ls st M
  | .iushr => mm_bin (fun x y => (x.toUInt32 >>> (y.toUInt32 &&& Int32.toUInt32 31)).toInt32) pc ls st M
  | .idiv => mm_div (fun x y => x / y) pc ls st M
  | .irem => mm_div (fun x y => x - x / y * y) pc ls st M
  | .ineg => mm_un (fun x => .int (-x)) pc ls st M
  | .i2l => mm_un (fun x => .long x.toInt64) pc ls st M
  | .i2b => mm_un (fun x => .int x.toInt8.toInt32) pc ls st M
  | .i2s => mm_un (fun x => .int x.toInt16.toInt32) pc ls st M
  | .i2c => mm_un (fun x => .int (x.toUInt32 % 65536).toInt32) pc ls st M
  | .l2i => (match st with | .long x :: r => some (pc + 1, ls, .int x.toInt32 :: r, M) | _ => none)
  | .ladd => mm_binL (fun x y => x + y) pc ls st M
  | .lsub => mm_binL (fun x y => x - y) pc ls st M
  | .lmul => mm_binL (fun x y => x * y) pc ls st M
  | .ldiv => mm_divL (fun x y => x / y) pc ls st M
  | .lrem => mm_divL (fun x y => x - x / y * y) pc ls st M
  | .lcmp => (match st with | .long y :: .long x :: r => some (pc + 1, ls, .int (lg_cmp x y) :: r, M) | _ => none)
  | .dup => (match st with | v :: r => if v.category = 1 then some (pc + 1, ls, v :: v :: r, M) else none | _ => none)
  | .dup_x1 => (match st with | v :: w :: r => if v.category = 1 ∧ w.category = 1 then some (pc + 1, ls, v :: w :: v :: r, M) else none | _ => none)
  | .pop => (match st with | v :: r => if v.category = 1 then some (pc + 1, ls, r, M) else none | _ => none)
  | .ifCond c off => (match st with | .int x :: r => mm_br (mm_cond c x 0) off pc ls r M | _ => none)
  | .if_icmp c off => (match st with | .int y :: .int x :: r => mm_br (mm_cond c x y) off pc ls r M | _ => none)
  | .ifnull off => (match st with | .null :: r => mm_br true off pc ls r M | .ref _ :: r => mm_br false off pc ls r M | _ => none)
  | .ifnonnull off => (match st with | .null :: r => mm_br false off pc ls r M | .ref _ :: r => mm_br true off pc ls r M | _ => none)
  | .goto off => mm_br true off pc ls st M
  | .tableswitch df lo hi offs => (match st with
    | .int x :: r => if x.toInt < lo ∨ hi < x.toInt then mm_br true df pc ls r M else (match offs[(x.toInt - lo).toNat]? with | some off => mm_br true off pc ls r M | none => none)
    | _ => none)
  | .lookupswitch df ps => (match st with
    | .int x :: r => if (ps.toList.zip (ps.toList.drop 1)).all (fun (a, next) => a.1 < next.1) = true then mm_br true (Op.lookupswitch.offset ps.toList df x.toInt) pc ls r M else none
    | _ => none)
  | .getfield idx => mm_gf m idx pc ls st M
  | .putfield idx => mm_pf m idx pc ls st M
  | .getstatic idx => mm_gs m idx pc ls st M
  | .iaload => mm_ial L xs pc ls st M
  | .baload => mm_bal pc ls st M
  | .aaload => mm_aal pc ls st M
  | .iastore => mm_ias pc ls st M
  | .bastore => mm_bas pc ls st M
  | .aastore => mm_aas pc ls st M
  | .arraylength => mm_aln L pc ls st M
  | .new idx => mm_new m idx pc ls st M
  | .newarray t => mm_nwa t pc ls st M
  | .anewarray idx => mm_ana m idx pc ls st M
  | .ldc idx => (match mm_kt.find? (fun q => q.1 == mm_cl m && q.2.1 == idx) with
    | some q => some (pc + 2, ls, .int q.2.2.1 :: st, M)
    | none => (match mm_st.find? (fun q => q.1 == mm_cl m && q.2.1 == idx) with
      | some q => some (pc + 2, ls, .retAddr q.2.2.1 :: st, M)
      | none => none))
  | .ldc_w idx => (match mm_kt.find? (fun q => q.1 == mm_cl m && q.2.1 == idx) with
    | some q => some (pc + 3, ls, .int q.2.2.1 :: st, M)
    | none => none)
  | .ldc2_w idx => (match mm_lt.find? (fun q => q.1 == mm_cl m && q.2.1 == idx) with
    | some q => some (pc + 3, ls, .long q.2.2.1 :: st, M)
    | none => none)
  | .invokestatic idx => mm_mat d m idx pc ls st M
  | .invokespecial idx => mm_obj d m idx pc ls st M
  | _ => none
/-- objects by their classes' numbers -/
def mm_ci (c : Nat) : Nat := ([5, 9, 0, 1, 2, 3, 9, 4, 6, 9, 9, 9, 9, 9, 9, 9] : List Nat).getD c 9
def mm_rcv (M : mm_H) (c : Nat) (v : Value) : Bool := match v with
  | .ref o => gS M o == mm_ci c
  | .retAddr j => c == 12 && decide (j < 13)
  | _ => false
def mm_ctf (m idx : Nat) : Option (Nat × Nat × Nat × Bool × Nat) := mm_ct.find? (fun q => q.1 == mm_cl m && q.2.1 == idx)
/-- a call: the method, what it is given, what of the stack stays -/
def mm_call (m : Nat) (i : Instr) (st : List Value) (M : mm_H) : Option (Nat × List Value × List Value) := match i with
  | .invokestatic idx => (match mm_ctf m idx with
    | some q => (match mm_tab[q.2.2.1]? with
      | some r => if r.2.2.2.2.2.2 = 1 ∧ r.2.2.2.2.2.1 ≤ st.length ∧ mm_cs (st.drop r.2.2.2.2.2.1) ≤ 8 ∧ q.2.2.1 ≠ mm_law then some (q.2.2.1, (st.take r.2.2.2.2.2.1).reverse, st.drop r.2.2.2.2.2.1) else none
      | none => none)
    | none => none)
  | .invokevirtual idx => (match mm_ctf m idx with
    | some q => (match mm_tab[q.2.2.1]? with
      | some r => (match st.drop r.2.2.2.2.2.1 with
        | v :: rest => if r.2.2.2.2.2.2 = 0 ∧ r.2.2.2.2.2.1 ≤ st.length ∧ mm_cs rest ≤ 8 ∧ q.2.2.2.1 = false ∧ mm_rcv M r.2.2.2.2.1 v = true ∧ q.2.2.1 ≠ mm_law then some (q.2.2.1, v :: (st.take r.2.2.2.2.2.1).reverse, rest) else none
        | [] => none)
      | none => none)
    | none => none)
  | .invokespecial idx => (match mm_ctf m idx with
    | some q => (match mm_tab[q.2.2.1]? with
      | some r => (match st.drop r.2.2.2.2.2.1 with
        | .ref o :: rest => if r.2.2.2.2.2.2 = 2 ∧ r.2.2.2.2.2.1 ≤ st.length ∧ mm_cs rest ≤ 8 ∧ q.2.2.1 ≠ mm_law then some (q.2.2.1, .ref o :: (st.take r.2.2.2.2.2.1).reverse, rest) else none
        | _ => none)
      | none => none)
    | none => none)
  | _ => none
/-- an answer, by the method's sort of answers -/
def mm_ret (m : Nat) (i : Instr) (st : List Value) : Option (Option Value) := match mm_tab[m]? with
  | some q => (match i, st with
    | .return_, [] => if q.2.2.2.1 = none then some none else none
    | .ireturn, [.int x] => (match q.2.2.2.1 with | some ty => if narrow ty (.int x) = .int x ∧ ty ≠ .long then some (some (.int x)) else none | none => none)
    | .lreturn, [.long x] => if q.2.2.2.1 = some .long then some (some (.long x)) else none
    | .areturn, [.ref o] => (match q.2.2.2.1 with | some ty => if ty.isReference = true then some (some (.ref o)) else none | none => none)
    | .areturn, [.null] => (match q.2.2.2.1 with | some ty => if ty.isReference = true then some (some .null) else none | none => none)
    | _, _ => none)
  | none => none
/-- what a method is given, as its first locals -/
def mm_ex : List Value → List Value
  | [] => []
  | .long x :: r => .long x :: mm_U :: mm_ex r
  | v :: r => v :: mm_ex r
def mm_ent (m : Nat) (as : List Value) : Option (List Value) := match mm_tab[m]? with
  | some q => if (mm_ex as).length ≤ q.2.2.1 then some (mm_ex as ++ List.replicate (q.2.2.1 - (mm_ex as).length) mm_U) else none
  | none => none
/-- a method from a place in its code to its end -/
def mm_run (L : Nat) (xs : Nat → Int32) : Nat → Nat → Nat → Nat → List Value → List Value → mm_H → Option (Option Value × mm_H)
  | 0, _, _, _, _, _, _ => none
  | n + 1, d, m, pc, ls, st, M => match mm_I m pc with
    | none => none
    | some (i, len) => if mm_len i len = true then (match mm_ret m i st with
      | some r => some (r, M)
      | none => (match mm_call m i st M with
        | some (m', as, rest) => (match d with
          | 0 => none
          | d' + 1 => (match mm_ent m' as with
            | none => none
            | some l => (match mm_run L xs n d' m' 0 l [] M with
              | none => none
              | some (r, M') => mm_run L xs n d m (pc + 3) ls (r.toList ++ rest) M')))
        | none => (match mm_step L xs d m pc i ls st M with
          | none => none
          | some (pc', ls', st', M') => mm_run L xs n d m pc' ls' st' M'))) else none
end
section
/-! WHAT THE SMALL MACHINE'S STATES STAND FOR -/
def mm_isnest (w : Cond) : Bool := match w with
  | .fieldLinkNest .. | .methodLinkNest .. => true
  | _ => false
/-- what stands outside the system's own cells (below base): texts, statics, the script, links between nest mates -/
def sw_W (base : Nat) (adK adV : Nat → Nat) (vf : Value) (b L : Nat) (xs : Nat → Int32) (U : State) (H : Heap) : Prop :=
  vk_S 13 (mm_sb.map List.length) mm_sb adK adV (fun q => base ≤ q) U H ∧
  va_Z "java/lang/String" "COMPACT_STRINGS" "Z" (.int 1) (fun q => base ≤ q) U H ∧
  va_Z "jdk/internal/util/Preconditions" "SIOOBE_FORMATTER" "Ljava/util/function/BiFunction;" vf (fun q => base ≤ q) U H ∧
  (∀ w ∈ lw_tbl, mm_isnest w = true → va_Nw w U) ∧ va_AO (mm_E 12) U ∧ va_AO (mm_E 13) U ∧
  (∀ q ∈ mm_st, vk_R (mm_c q.1) q.2.1 (mm_sx.getD q.2.2.1 "") (adK q.2.2.1) U) ∧ va_X b L xs U H ∧ b < base ∧ base ≤ H.size ∧ (vf = .null ∨ ∃ t, vf = .ref t)
theorem sw_same {base : Nat} {adK adV : Nat → Nat} {vf : Value} {b L : Nat} {xs : Nat → Int32} {u U : State} {H : Heap} (hv : u.vm = U.vm) (h : sw_W base adK adV vf b L xs u H) : sw_W base adK adV vf b L xs U H := by
  have ha : u.vm.Alike U.vm := by rw [hv]; exact Vm.Alike.refl U.vm
  obtain ⟨h1, h2, h3, h4, h5, h6, h7, h8, h9⟩ := h
  refine ⟨h1.moved ha, h2.moved ha, h3.moved ha, fun w hw hn => va_Nw.same ?_ hv (h4 w hw hn), h5.moved ha, h6.moved ha, fun q hq => vk_R.same hv.symm (h7 q hq), h8.moved ha, h9⟩
  cases w <;> first | rfl | (exact absurd hn Bool.false_ne_true)
theorem sw_warm {base : Nat} {adK adV : Nat → Nat} {vf : Value} {b L : Nat} {xs : Nat → Int32} {s U : State} {H H1 : Heap} (hW : s.WarmedH U.vm) (hz : base ≤ H1.size) (hq : ∀ a : Nat, a < H.size → ¬ base ≤ a → H1[a]? = H[a]?) (h : sw_W base adK adV vf b L xs s H) : sw_W base adK adV vf b L xs U H1 := by
  have ha := hW.alike
  obtain ⟨h1, h2, h3, h4, h5, h6, h7, h8, h9, h10, h11⟩ := h
  refine ⟨(h1.moved ha).kept hq, (h2.moved ha).kept hq, (h3.moved ha).kept hq, fun w hw hn => ?_, h5.moved ha, h6.moved ha, fun q hq => vk_R.warm hW (h7 q hq), (h8.moved ha).kept (hq b (Nat.lt_of_lt_of_le h9 h10) (Nat.not_le.mpr h9)), h9, hz, h11⟩
  have h := h4 w hw hn
  cases w <;> first | exact va_Nw.warmF hW h | exact va_Nw.warmM hW h | (exact absurd hn Bool.false_ne_true)
/-- a value of the small machine, and the machine's own -/
def vr (vf : Value) (b : Nat) (adK adV : Nat → Nat) (ads : List Nat) (v r : Value) : Prop := match v with
  | .int x => r = .int x
  | .long x => r = .long x
  | .null => r = .null
  | .ref k => ∃ a, ads[k]? = some a ∧ r = .ref a
  | .retAddr j => (j < 13 ∧ r = .ref (adK j)) ∨ (100 ≤ j ∧ j < 113 ∧ r = .ref (adV (j - 100))) ∨ (j = 200 ∧ r = .ref b) ∨ (j = 300 ∧ r = vf)
  | _ => False
def ex_t (a b : List Nat) : Prop := ∀ (k x : Nat), a[k]? = some x → b[k]? = some x
theorem ex_refl (a : List Nat) : ex_t a a := fun _ _ h => h
theorem ex_trans {a b c : List Nat} (h : ex_t a b) (h2 : ex_t b c) : ex_t a c := fun k x q => h2 k x (h k x q)
theorem ex_app (a b : List Nat) : ex_t a (a ++ b) := fun k x h => by
  rw [List.getElem?_append_left (List.getElem?_eq_some_iff.mp h).1]; exact h
theorem vr_mono {vf : Value} {b : Nat} {adK adV : Nat → Nat} {ads ads' : List Nat} {v r : Value} (he : ex_t ads ads') (h : vr vf b adK adV ads v r) : vr vf b adK adV ads' v r := by
  cases v with
  | ref k => obtain ⟨a, h1, h2⟩ := h; exact ⟨a, he k a h1, h2⟩
  | _ => exact h
theorem vr_cat {vf : Value} (hf : vf = .null ∨ ∃ t, vf = .ref t) {b : Nat} {adK adV : Nat → Nat} {ads : List Nat} {v r : Value} (h : vr vf b adK adV ads v r) : r.category = v.category := by
  cases v with
  | ref k => obtain ⟨a, h1, rfl⟩ := h; rfl
  | retAddr j =>
    rcases h with ⟨_, rfl⟩ | ⟨_, _, rfl⟩ | ⟨_, rfl⟩ | ⟨_, rfl⟩
    · rfl
    · rfl
    · rfl
    · rcases hf with rfl | ⟨t, rfl⟩ <;> rfl
  | int x => cases h; rfl
  | long x => cases h; rfl
  | null => cases h; rfl
  | _ => exact absurd h (by intro q; exact q)
/-- stacks -/
def sr (V : Value → Value → Prop) : List Value → List Value → Prop
  | [], [] => True
  | v :: l, r :: k => V v r ∧ sr V l k
  | _, _ => False
theorem sr_mono {V V' : Value → Value → Prop} (h : ∀ v r, V v r → V' v r) : ∀ {l k : List Value}, sr V l k → sr V' l k
  | [], [], _ => True.intro
  | _ :: _, _ :: _, q => ⟨h _ _ q.1, sr_mono h q.2⟩
  | [], _ :: _, q => q.elim
  | _ :: _, [], q => q.elim
theorem sr_len {V : Value → Value → Prop} : ∀ {l k : List Value}, sr V l k → l.length = k.length
  | [], [], _ => rfl
  | _ :: _, _ :: _, q => by simp [sr_len q.2]
  | [], _ :: _, q => q.elim
  | _ :: _, [], q => q.elim
theorem sr_drop {V : Value → Value → Prop} : ∀ (n : Nat) {l k : List Value}, sr V l k → sr V (l.drop n) (k.drop n)
  | 0, _, _, q => q
  | _ + 1, [], [], _ => True.intro
  | n + 1, _ :: _, _ :: _, q => sr_drop n q.2
  | _ + 1, [], _ :: _, q => q.elim
  | _ + 1, _ :: _, [], q => q.elim
theorem sr_take {V : Value → Value → Prop} : ∀ (n : Nat) {l k : List Value}, sr V l k → sr V (l.take n) (k.take n)
  | 0, _, _, _ => True.intro
  | _ + 1, [], [], _ => True.intro
  | n + 1, _ :: _, _ :: _, q => ⟨q.1, sr_take n q.2⟩
  | _ + 1, [], _ :: _, q => q.elim
  | _ + 1, _ :: _, [], q => q.elim
theorem sr_app {V : Value → Value → Prop} : ∀ {l k l2 k2 : List Value}, sr V l k → sr V l2 k2 → sr V (l ++ l2) (k ++ k2)
  | [], [], _, _, _, q => q
  | _ :: _, _ :: _, _, _, q, q2 => ⟨q.1, sr_app q.2 q2⟩
  | [], _ :: _, _, _, q, _ => q.elim
  | _ :: _, [], _, _, q, _ => q.elim
theorem sr_rev {V : Value → Value → Prop} : ∀ {l k : List Value}, sr V l k → sr V l.reverse k.reverse
  | [], [], _ => True.intro
  | _ :: _, _ :: _, q => by rw [List.reverse_cons, List.reverse_cons]; exact sr_app (sr_rev q.2) ⟨q.1, True.intro⟩
  | [], _ :: _, q => q.elim
  | _ :: _, [], q => q.elim
theorem sr_cs {V : Value → Value → Prop} (h : ∀ v r, V v r → r.category = v.category) : ∀ {l k : List Value}, sr V l k → (k.map fun v => v.category).sum = mm_cs l
  | [], [], _ => rfl
  | _ :: _, _ :: _, q => by rw [List.map_cons, List.sum_cons, mm_cs, h _ _ q.1, sr_cs h q.2]
  | [], _ :: _, q => q.elim
  | _ :: _, [], q => q.elim
/-- locals -/
def lr (V : Value → Value → Prop) (lm : List Value) (ls : Array Slot) : Prop := ∃ lv, lv_has ls lm.length lv ∧ ∀ i v, lm[i]? = some v → v ≠ mm_U → ∃ r, V v r ∧ (i, r) ∈ lv
theorem lr_at {V : Value → Value → Prop} {lm : List Value} {ls : Array Slot} (h : lr V lm ls) {i : Nat} {v : Value} (hv : lm[i]? = some v) (hn : v ≠ mm_U) : ∃ r, V v r ∧ ls[i]? = some (.val r) := by
  obtain ⟨lv, h1, h2⟩ := h
  obtain ⟨r, h3, h4⟩ := h2 i v hv hn
  exact ⟨r, h3, h1.2.2 (i, r) h4⟩
theorem lr_mono {V V' : Value → Value → Prop} (h : ∀ v r, V v r → V' v r) {lm : List Value} {ls : Array Slot} (q : lr V lm ls) : lr V' lm ls := by
  obtain ⟨lv, h1, h2⟩ := q
  exact ⟨lv, h1, fun i v hv hn => by obtain ⟨r, a, b⟩ := h2 i v hv hn; exact ⟨r, h v r a, b⟩⟩
theorem lr_put {V : Value → Value → Prop} (hc : ∀ v r, V v r → r.category = v.category) {lm lm' : List Value} {ls' : Array Slot} {i : Nat} {v r : Value} {lv : List (Nat × Value)} (hp : mm_put lm i v = some lm') (hV : V v r)
    (h2 : ∀ i v, lm[i]? = some v → v ≠ mm_U → ∃ r, V v r ∧ (i, r) ∈ lv) (h' : lv_has ls' lm.length ((i, r) :: lv.filter (fun q => !(q.1 == i) && !(q.1 + 1 == i && q.2.category == 2)))) : lr V lm' ls' := by
  unfold mm_put at hp
  split at hp
  · next hcnd =>
    cases hp
    refine ⟨_, by rw [List.length_set]; exact h', fun j w hw hn => ?_⟩
    by_cases hj : j = i
    · subst hj
      rw [List.getElem?_set_self hcnd.1] at hw
      cases hw
      exact ⟨r, hV, List.mem_cons_self⟩
    · rw [List.getElem?_set_ne (Ne.symm hj)] at hw
      obtain ⟨r2, a, b⟩ := h2 j w hw hn
      refine ⟨r2, a, List.mem_cons_of_mem _ (List.mem_filter.mpr ⟨b, ?_⟩)⟩
      have e1 : (j == i) = false := by simpa using hj
      simp only [e1, Bool.not_false, Bool.true_and]
      by_cases hji : j + 1 = i
      · subst hji
        have hnl := hcnd.2
        simp only [mm_nl, hw] at hnl
        have hcat : w.category ≠ 2 := by
          cases w <;> simp_all [Value.category]
        rw [hc _ _ a]
        simp [hcat]
      · have e2 : (j + 1 == i) = false := by simpa using hji
        simp [e2]
  · cases hp
theorem lr_put2 {V : Value → Value → Prop} (hc : ∀ v r, V v r → r.category = v.category) {lm lm' : List Value} {ls' : Array Slot} {i : Nat} {v r : Value} {lv : List (Nat × Value)} (hp : mm_put2 lm i v = some lm') (hV : V v r)
    (h2 : ∀ i v, lm[i]? = some v → v ≠ mm_U → ∃ r, V v r ∧ (i, r) ∈ lv) (h' : lv_has ls' lm.length ((i, r) :: lv.filter (fun q => !(q.1 == i) && (!(q.1 == i + 1) && !(q.1 + 1 == i && q.2.category == 2))))) : lr V lm' ls' := by
  unfold mm_put2 at hp
  split at hp
  · next hcnd =>
    cases hp
    refine ⟨_, by rw [List.length_set, List.length_set]; exact h', fun j w hw hn => ?_⟩
    by_cases hj1 : j = i + 1
    · subst hj1
      rw [List.getElem?_set_self (by rw [List.length_set]; exact hcnd.1)] at hw
      cases hw
      exact absurd rfl hn
    · rw [List.getElem?_set_ne (Ne.symm hj1)] at hw
      by_cases hj : j = i
      · subst hj
        rw [List.getElem?_set_self (by omega)] at hw
        cases hw
        exact ⟨r, hV, List.mem_cons_self⟩
      · rw [List.getElem?_set_ne (Ne.symm hj)] at hw
        obtain ⟨r2, a, b⟩ := h2 j w hw hn
        refine ⟨r2, a, List.mem_cons_of_mem _ (List.mem_filter.mpr ⟨b, ?_⟩)⟩
        have e1 : (j == i) = false := by simpa using hj
        have e3 : (j == i + 1) = false := by simpa using hj1
        simp only [e1, e3, Bool.not_false, Bool.true_and]
        by_cases hji : j + 1 = i
        · subst hji
          have hnl := hcnd.2
          simp only [mm_nl, hw] at hnl
          have hcat : w.category ≠ 2 := by
            cases w <;> simp_all [Value.category]
          rw [hc _ _ a]
          simp [hcat]
        · have e2 : (j + 1 == i) = false := by simpa using hji
          simp [e2]
  · cases hp
/-- what a method begins with -/
theorem lv_args_ex {V : Value → Value → Prop} (hc : ∀ v r, V v r → r.category = v.category) (hd : ∀ x r, ¬ V (.double x) r) : ∀ {as ras : List Value} (n : Nat), sr V as ras → (mm_ex as).length = (lg_sl ras).length ∧ ∀ i v, (mm_ex as)[i]? = some v → v ≠ mm_U → ∃ r, V v r ∧ (n + i, r) ∈ lv_args n ras
  | [], [], n, _ => ⟨rfl, fun i v h => by simp [mm_ex] at h⟩
  | a :: as, r :: ras, n, q => by
    by_cases h2 : a.category = 2
    · have hr2 : r.category = 2 := by rw [hc _ _ q.1]; exact h2
      obtain ⟨x, rfl⟩ : ∃ x, a = .long x := by
        cases a <;> first | exact ⟨_, rfl⟩ | (exact absurd (show (1 : Nat) = 2 from h2) (by decide)) | (exact absurd q.1 (hd _ _))
      obtain ⟨e1, e2⟩ := lv_args_ex hc hd (n + 2) q.2
      have es : lg_sl (r :: ras) = .val r :: .second :: lg_sl ras := by simp [lg_sl, hr2]
      refine ⟨by rw [es]; simp [mm_ex, e1], fun i v hi hn => ?_⟩
      rw [lv_args, if_pos hr2]
      match i, hi with
      | 0, hi => cases hi; exact ⟨r, q.1, List.mem_cons_self⟩
      | 1, hi => cases hi; exact absurd rfl hn
      | i + 2, hi =>
        obtain ⟨r2, a, b⟩ := e2 i v hi hn
        exact ⟨r2, a, List.mem_cons_of_mem _ (by rw [show n + (i + 2) = n + 2 + i by omega]; exact b)⟩
    · have hr2 : ¬ r.category = 2 := by rw [hc _ _ q.1]; exact h2
      obtain ⟨e1, e2⟩ := lv_args_ex hc hd (n + 1) q.2
      have es : lg_sl (r :: ras) = .val r :: lg_sl ras := by simp [lg_sl, hr2]
      have em : mm_ex (a :: as) = a :: mm_ex as := by
        cases a <;> first | rfl | (exact absurd (by decide) h2) | (exact absurd rfl h2)
      refine ⟨by rw [es, em]; simp [e1], fun i v hi hn => ?_⟩
      rw [em] at hi
      rw [lv_args, if_neg hr2]
      match i, hi with
      | 0, hi => cases hi; exact ⟨r, q.1, List.mem_cons_self⟩
      | i + 1, hi =>
        obtain ⟨r2, a, b⟩ := e2 i v hi hn
        exact ⟨r2, a, List.mem_cons_of_mem _ (by rw [show n + (i + 1) = n + 1 + i by omega]; exact b)⟩
  | [], _ :: _, _, q => q.elim
  | _ :: _, [], _, q => q.elim
theorem lr_entry {V : Value → Value → Prop} (hc : ∀ v r, V v r → r.category = v.category) (hd : ∀ x r, ¬ V (.double x) r) {as ras : List Value} (q : sr V as ras) {n : Nat} (hn : (mm_ex as).length ≤ n) :
    lr V (mm_ex as ++ List.replicate (n - (mm_ex as).length) mm_U) ((lg_sl ras ++ List.replicate (n - (lg_sl ras).length) Slot.unset).toArray) := by
  obtain ⟨e1, e2⟩ := lv_args_ex hc hd 0 q
  have hl := lv_entry ras (n := n) (by rw [← e1]; exact hn)
  refine ⟨lv_args 0 ras, ?_, fun i v hi hu => ?_⟩
  · rw [show (mm_ex as ++ List.replicate (n - (mm_ex as).length) mm_U).length = n by simp; omega]
    exact hl
  · by_cases hlt : i < (mm_ex as).length
    · rw [List.getElem?_append_left hlt] at hi
      obtain ⟨r, a, b⟩ := e2 i v hi hu
      exact ⟨r, a, by rw [show i = 0 + i by omega]; exact b⟩
    · rw [List.getElem?_append_right (by omega)] at hi
      exact absurd (List.eq_of_mem_replicate (List.mem_of_getElem? hi)) hu
/-- a cell of the small machine, and the machine's own -/
def cr (V : Value → Value → Prop) (tys : List (ClassId × FieldType)) (M : mm_H) (k : Nat) (e : va_E) : Prop :=
  (gS M k < 7 ∧ ∃ fs, e = .inr (gS M k, fs) ∧ fs.length = mm_nf (gS M k) ∧ ∀ j, j < mm_nf (gS M k) → ∃ r, fs[j]? = some r ∧ (if mm_rf (mm_ty (gS M k) j) = true then V (gR M k j) r else r = .int (gI M k j))) ∨
  (gS M k = 10 ∧ ∃ (cA : ClassId) (t0 : Nat) (g : Nat → Int32), e = .inl (cA, gL M k, .inl g) ∧ tys[t0]? = some (cA, FieldType.int) ∧ ∀ j, j < gL M k → g j = gI M k j) ∨
  (gS M k = 11 ∧ ∃ (cA : ClassId) (t0 : Nat) (g : Nat → Int32), e = .inl (cA, gL M k, .inl g) ∧ tys[t0]? = some (cA, FieldType.boolean) ∧ ∀ j, j < gL M k → g j = gI M k j) ∨
  ((gS M k = 12 ∨ gS M k = 13) ∧ ∃ (cA : ClassId) (t0 : Nat) (g : Nat → Option Nat), e = .inl (cA, gL M k, .inr (.inr (.inr (.inr g)))) ∧ tys[t0]? = some (cA, FieldType.object (mm_E (gS M k))) ∧ ∀ j, j < gL M k → V (gR M k j) (va_rf (g j)))
theorem cr_mono {V V' : Value → Value → Prop} (h : ∀ v r, V v r → V' v r) {tys tys' : List (ClassId × FieldType)} (ht : ∀ (k : Nat) x, tys[k]? = some x → tys'[k]? = some x) {M : mm_H} {k : Nat} {e : va_E} (q : cr V tys M k e) : cr V' tys' M k e := by
  rcases q with ⟨h1, fs, h2, h3, h4⟩ | ⟨h1, cA, t0, g, h2, h3, h4⟩ | ⟨h1, cA, t0, g, h2, h3, h4⟩ | ⟨h1, cA, t0, g, h2, h3, h4⟩
  · refine Or.inl ⟨h1, fs, h2, h3, fun j hj => ?_⟩
    obtain ⟨r, a, b⟩ := h4 j hj
    refine ⟨r, a, ?_⟩
    split at b
    · next hc => rw [if_pos hc]; exact h _ _ b
    · next hc => rw [if_neg hc]; exact b
  · exact Or.inr (Or.inl ⟨h1, cA, t0, g, h2, ht _ _ h3, h4⟩)
  · exact Or.inr (Or.inr (Or.inl ⟨h1, cA, t0, g, h2, ht _ _ h3, h4⟩))
  · exact Or.inr (Or.inr (Or.inr ⟨h1, cA, t0, g, h2, ht _ _ h3, fun j hj => h _ _ (h4 j hj)⟩))
/-- the same cell in another heap of the small machine -/
theorem cr_same {V : Value → Value → Prop} {tys : List (ClassId × FieldType)} {M M' : mm_H} {k : Nat} {e : va_E} (q : cr V tys M k e) (h1 : M'.2.2.1 k = M.2.2.1 k) (h2 : ∀ j, gI M' k j = gI M k j) (h3 : ∀ j, gR M' k j = gR M k j) : cr V tys M' k e := by
  have e1 : gS M' k = gS M k := by unfold gS; rw [h1]
  have e2 : gL M' k = gL M k := by unfold gL; rw [h1]
  unfold cr
  rw [e1, e2]
  simp only [h2, h3]
  exact q
def pw (V : Value → Value → Prop) (ads : List Nat) (ws : va_W) (tys : List (ClassId × FieldType)) (M : mm_H) : Prop :=
  ads.length = gN M ∧ ws.length = gN M ∧ ∀ k, k < gN M → ∃ a e, ads[k]? = some a ∧ ws[k]? = some (a, e) ∧ cr V tys M k e
/-- a cell changes -/
theorem pw_set {V : Value → Value → Prop} {ads : List Nat} {ws : va_W} {tys : List (ClassId × FieldType)} {M M' : mm_H} (h : pw V ads ws tys M) {k a : Nat} {e' : va_E} (hk : ads[k]? = some a) (hN : gN M' = gN M)
    (hs : M'.2.2.1 = M.2.2.1) (ho : ∀ x, x ≠ k → (∀ j, gI M' x j = gI M x j) ∧ ∀ j, gR M' x j = gR M x j) (hc : cr V tys M' k e') : pw V ads (ws.set k (a, e')) tys M' := by
  obtain ⟨h1, h2, h3⟩ := h
  refine ⟨by rw [hN]; exact h1, by rw [hN, List.length_set]; exact h2, fun x hx => ?_⟩
  rw [hN] at hx
  by_cases hxk : x = k
  · subst hxk
    exact ⟨a, e', hk, by rw [List.getElem?_set_self (by omega)], hc⟩
  · obtain ⟨a2, e2, g1, g2, g3⟩ := h3 x hx
    exact ⟨a2, e2, g1, by rw [List.getElem?_set_ne (Ne.symm hxk)]; exact g2, cr_same g3 (by rw [hs]) (ho x hxk).1 (ho x hxk).2⟩
/-- a cell comes -/
theorem pw_new {vf : Value} {b : Nat} {adK adV : Nat → Nat} {ads : List Nat} {ws : va_W} {tys tys' : List (ClassId × FieldType)} {M : mm_H} (h : pw (vr vf b adK adV ads) ads ws tys M) {so len sl q : Nat} {e : va_E}
    (ht : ∀ (k : Nat) x, tys[k]? = some x → tys'[k]? = some x) (hc : cr (vr vf b adK adV (ads ++ [q])) tys' (pN M so len sl) (gN M) e) : pw (vr vf b adK adV (ads ++ [q])) (ads ++ [q]) (ws ++ [(q, e)]) tys' (pN M so len sl) := by
  obtain ⟨h1, h2, h3⟩ := h
  have hN : gN (pN M so len sl) = gN M + 1 := rfl
  refine ⟨by rw [hN]; simp [h1], by rw [hN]; simp [h2], fun x hx => ?_⟩
  rw [hN] at hx
  by_cases hxk : x = gN M
  · subst hxk
    exact ⟨q, e, by rw [← h1]; simp, by rw [← h2]; simp, hc⟩
  · have hlt : x < gN M := by omega
    obtain ⟨a2, e2, g1, g2, g3⟩ := h3 x hlt
    refine ⟨a2, e2, ex_app _ _ _ _ g1, by rw [List.getElem?_append_left (by omega)]; exact g2, cr_same (cr_mono (fun v r => vr_mono (ex_app _ _)) ht g3) ?_ (fun j => ?_) (fun j => ?_)⟩
    · show (if x = gN M then _ else _) = _; rw [if_neg hxk]
    · show (if x = gN M then _ else _) = _; rw [if_neg hxk]; rfl
    · show (if x = gN M then _ else _) = _; rw [if_neg hxk]; rfl
theorem mm_step_mono {L : Nat} {xs : Nat → Int32} {d m pc : Nat} {i : Instr} {ls st : List Value} {M : mm_H} {pc' : Nat} {ls' st' : List Value} {M' : mm_H} (h : mm_step L xs d m pc i ls st M = some (pc', ls', st', M')) : gN M ≤ gN M' ∧ gZ M ≤ gZ M' := by
  unfold mm_step at h
  split at h <;> (try simp only [mm_ldI, mm_ldL, mm_ldA, mm_stI, mm_stL, mm_stA, mm_bin, mm_div, mm_binL, mm_divL, mm_un, mm_br, mm_gf, mm_pf, mm_gs, mm_ial, mm_bal, mm_aal, mm_ias, mm_bas, mm_aas, mm_aln, mm_new, mm_nwa, mm_ana, mm_mat, mm_cpy, mm_obj] at h) <;>
    (repeat' split at h) <;> (first | (cases h; exact ⟨Nat.le_refl _, Nat.le_refl _⟩) | (cases h; exact ⟨Nat.le_succ _, Nat.le_add_right _ _⟩) | (cases h; done))
theorem mm_run_mono {L : Nat} {xs : Nat → Int32} : ∀ (n d m pc : Nat) (ls st : List Value) (M : mm_H) (r : Option Value) (M' : mm_H), mm_run L xs n d m pc ls st M = some (r, M') → gN M ≤ gN M' ∧ gZ M ≤ gZ M' := by
  intro n
  induction n with
  | zero => intro d m pc ls st M r M' h; simp [mm_run] at h
  | succ n ih =>
    intro d m pc ls st M r M' h
    unfold mm_run at h
    split at h
    · cases h
    · split at h
      · split at h
        · cases h; exact ⟨Nat.le_refl _, Nat.le_refl _⟩
        · split at h
          · split at h
            · cases h
            · split at h
              · cases h
              · split at h
                · cases h
                · next h1 =>
                  have a := ih _ _ _ _ _ _ _ _ h1
                  have b := ih _ _ _ _ _ _ _ _ h
                  exact ⟨Nat.le_trans a.1 b.1, Nat.le_trans a.2 b.2⟩
          · split at h
            · cases h
            · next h1 =>
              have a := mm_step_mono h1
              have b := ih _ _ _ _ _ _ _ _ h
              exact ⟨Nat.le_trans a.1 b.1, Nat.le_trans a.2 b.2⟩
      · cases h
end
section
/-! ONE STEP OF THE SMALL MACHINE IS ONE STEP OF THE MACHINE -/
section SND
variable {base : Nat} {adK adV : Nat → Nat} {vf : Value} {b L : Nat} {xs : Nat → Int32} {D : va_G}
variable {p : Program} {l : Launch} {e : Env} {R : Room} {s : State} {m : MethodId} {args : Array Value} {below : List Frame} {meth : Method} {c : Code} {Q : State → Prop}
def mm_rel (base : Nat) (adK adV : Nat → Nat) (vf : Value) (b : Nat) (D : va_G) (s : State) (nL : Nat) (ads : List Nat) (ws : va_W) (tys : List (ClassId × FieldType)) (M : mm_H) (ls st : List Value) (lsr : Array Slot) (rs : List Value) (H : Heap) (locs : List Loc) : Prop :=
  pw (vr vf b adK adV ads) ads ws tys M ∧ va_P D vwCl ws H ∧ va_K D vwCl tys s ∧ va_D (fun q => base ≤ q) ws ∧ va_S (fun q => base ≤ q) s.heap H locs ∧ lr (vr vf b adK adV ads) ls lsr ∧ sr (vr vf b adK adV ads) st rs ∧ ls.length = nL
/-- from a state of the small machine on all goes well -/
def mm_kk (base : Nat) (adK adV : Nat → Nat) (vf : Value) (b : Nat) (D : va_G) (p : Program) (l : Launch) (e : Env) (R : Room) (s : State) (m : MethodId) (args : Array Value) (below : List Frame) (meth : Method) (c : Code) (Q : State → Prop) (n0 z0 : Nat) (ads0 : List Nat) (pc : Nat) (ls st : List Value) (M : mm_H) : Prop :=
  ∀ (ads : List Nat) (ws : va_W) (tys : List (ClassId × FieldType)) (lsr : Array Slot) (rs : List Value) (H : Heap) (locs : List Loc), ex_t ads0 ads → mm_rel base adK adV vf b D s c.maxLocals ads ws tys M ls st lsr rs H locs → W p l e R s m args below meth c H locs (gN M - n0) (gZ M - z0) Q (F0 m pc lsr rs)
/-- what is fixed in a method's body -/
def mm_cx (base : Nat) (adK adV : Nat → Nat) (vf : Value) (b L : Nat) (xs : Nat → Int32) (p : Program) (R : Room) (s : State) (m : MethodId) (args : Array Value) (meth : Method) (c : Code) (d mm n0 z0 nf zf : Nat) : Prop :=
  p.tables.exec = Jvm.exec ∧ (∃ q, mm_tab[mm]? = some q ∧ c.code = q.2.1 ∧ c.maxLocals = q.2.2.1) ∧ s.vm.findClass (mm_c (mm_cl mm)) = some m.cls ∧ (∀ w ∈ mm_ws, w.before args s = true) ∧ sw_W base adK adV vf b L xs s s.heap ∧ (mm_ini mm = true → meth.name = "<init>") ∧ d ≤ R.frames ∧ 80 * d ≤ R.locals ∧ nf - n0 ≤ R.cells ∧ zf - z0 ≤ R.slots
theorem sr_v {V : Value → Value → Prop} {v : Value} {t k : List Value} (h : sr V (v :: t) k) : ∃ r k', k = r :: k' ∧ V v r ∧ sr V t k' := by
  cases k with
  | nil => exact h.elim
  | cons r k' => exact ⟨r, k', rfl, h.1, h.2⟩
theorem sr_i {ads : List Nat} {x : Int32} {t k : List Value} (h : sr (vr vf b adK adV ads) (.int x :: t) k) : ∃ k', k = .int x :: k' ∧ sr (vr vf b adK adV ads) t k' := by
  obtain ⟨r, k', rfl, h1, h2⟩ := sr_v h
  cases h1
  exact ⟨k', rfl, h2⟩
theorem sr_l {ads : List Nat} {x : Int64} {t k : List Value} (h : sr (vr vf b adK adV ads) (.long x :: t) k) : ∃ k', k = .long x :: k' ∧ sr (vr vf b adK adV ads) t k' := by
  obtain ⟨r, k', rfl, h1, h2⟩ := sr_v h
  cases h1
  exact ⟨k', rfl, h2⟩
theorem sr_n {ads : List Nat} {t k : List Value} (h : sr (vr vf b adK adV ads) (.null :: t) k) : ∃ k', k = .null :: k' ∧ sr (vr vf b adK adV ads) t k' := by
  obtain ⟨r, k', rfl, h1, h2⟩ := sr_v h
  cases h1
  exact ⟨k', rfl, h2⟩
theorem sr_r {ads : List Nat} {x : Nat} {t k : List Value} (h : sr (vr vf b adK adV ads) (.ref x :: t) k) : ∃ a k', k = .ref a :: k' ∧ ads[x]? = some a ∧ sr (vr vf b adK adV ads) t k' := by
  obtain ⟨r, k', rfl, ⟨a, h1, rfl⟩, h2⟩ := sr_v h
  exact ⟨a, k', rfl, h1, h2⟩
theorem mm_I_of {mm pc : Nat} {i : Instr} {len : Nat} (h : mm_I mm pc = some (i, len)) {q : mm_MT} (hq : mm_tab[mm]? = some q) : decode q.2.1 pc = .ok (i, len) := by
  unfold mm_I at h
  rw [hq] at h
  dsimp only at h
  split at h
  · next r hr => rw [hr]; cases h; rfl
  · cases h
/-- the end of a step that leaves the world as it was -/
theorem mm_done {n0 z0 : Nat} {ads0 ads : List Nat} {ws : va_W} {tys : List (ClassId × FieldType)} {pc : Nat} {ls st : List Value} {M : mm_H} {lsr : Array Slot} {rs : List Value} {H : Heap} {locs : List Loc}
    (kk : mm_kk base adK adV vf b D p l e R s m args below meth c Q n0 z0 ads0 pc ls st M) (he : ex_t ads0 ads) (hpw : pw (vr vf b adK adV ads) ads ws tys M) (hP : va_P D vwCl ws H) (hK : va_K D vwCl tys s) (hD : va_D (fun q => base ≤ q) ws) (hS : va_S (fun q => base ≤ q) s.heap H locs) (hl : lr (vr vf b adK adV ads) ls lsr) (hst : sr (vr vf b adK adV ads) st rs) (hln : ls.length = c.maxLocals) : W p l e R s m args below meth c H locs (gN M - n0) (gZ M - z0) Q (F0 m pc lsr rs) := kk ads ws tys lsr rs H locs he ⟨hpw, hP, hK, hD, hS, hl, hst, hln⟩
theorem bin_W {n0 z0 : Nat} {ads0 : List Nat} {f : Int32 → Int32 → Int32} {pc pc' : Nat} {ls st ls' st' : List Value} {M M' : mm_H} (h : mm_bin f pc ls st M = some (pc', ls', st', M'))
    (row : ∀ (x y : Int32) (lsr : Array Slot) (rest : List Value) (H : Heap) (locs : List Loc) (cells slots : Nat), W p l e R s m args below meth c H locs cells slots Q (F0 m (pc + 1) lsr (.int (f x y) :: rest)) → W p l e R s m args below meth c H locs cells slots Q (F0 m pc lsr (.int y :: .int x :: rest)))
    (kk : mm_kk base adK adV vf b D p l e R s m args below meth c Q n0 z0 ads0 pc' ls' st' M') : mm_kk base adK adV vf b D p l e R s m args below meth c Q n0 z0 ads0 pc ls st M := by
  unfold mm_bin at h
  split at h
  · cases h
    intro ads ws tys lsr rs H locs he ⟨hpw, hP, hK, hD, hS, hl, hst, hln⟩
    obtain ⟨k_, e_, hst⟩ := sr_i hst
    rw [e_]
    obtain ⟨k_, e_, hst⟩ := sr_i hst
    rw [e_]
    exact row _ _ _ _ _ _ _ _ (mm_done kk he hpw hP hK hD hS hl ⟨rfl, hst⟩ hln)
  · cases h
theorem div_W {n0 z0 : Nat} {ads0 : List Nat} {f : Int32 → Int32 → Int32} {pc pc' : Nat} {ls st ls' st' : List Value} {M M' : mm_H} (h : mm_div f pc ls st M = some (pc', ls', st', M'))
    (row : ∀ (x y : Int32) (lsr : Array Slot) (rest : List Value) (H : Heap) (locs : List Loc) (cells slots : Nat), ¬ y = 0 → W p l e R s m args below meth c H locs cells slots Q (F0 m (pc + 1) lsr (.int (f x y) :: rest)) → W p l e R s m args below meth c H locs cells slots Q (F0 m pc lsr (.int y :: .int x :: rest)))
    (kk : mm_kk base adK adV vf b D p l e R s m args below meth c Q n0 z0 ads0 pc' ls' st' M') : mm_kk base adK adV vf b D p l e R s m args below meth c Q n0 z0 ads0 pc ls st M := by
  unfold mm_div at h
  split at h
  · split at h
    · cases h
    · next hy =>
      cases h
      intro ads ws tys lsr rs H locs he ⟨hpw, hP, hK, hD, hS, hl, hst, hln⟩
      obtain ⟨k_, e_, hst⟩ := sr_i hst
      rw [e_]
      obtain ⟨k_, e_, hst⟩ := sr_i hst
      rw [e_]
      exact row _ _ _ _ _ _ _ _ hy (mm_done kk he hpw hP hK hD hS hl ⟨rfl, hst⟩ hln)
  · cases h
theorem binL_W {n0 z0 : Nat} {ads0 : List Nat} {f : Int64 → Int64 → Int64} {pc pc' : Nat} {ls st ls' st' : List Value} {M M' : mm_H} (h : mm_binL f pc ls st M = some (pc', ls', st', M'))
    (row : ∀ (x y : Int64) (lsr : Array Slot) (rest : List Value) (H : Heap) (locs : List Loc) (cells slots : Nat), W p l e R s m args below meth c H locs cells slots Q (F0 m (pc + 1) lsr (.long (f x y) :: rest)) → W p l e R s m args below meth c H locs cells slots Q (F0 m pc lsr (.long y :: .long x :: rest)))
    (kk : mm_kk base adK adV vf b D p l e R s m args below meth c Q n0 z0 ads0 pc' ls' st' M') : mm_kk base adK adV vf b D p l e R s m args below meth c Q n0 z0 ads0 pc ls st M := by
  unfold mm_binL at h
  split at h
  · cases h
    intro ads ws tys lsr rs H locs he ⟨hpw, hP, hK, hD, hS, hl, hst, hln⟩
    obtain ⟨k_, e_, hst⟩ := sr_l hst
    rw [e_]
    obtain ⟨k_, e_, hst⟩ := sr_l hst
    rw [e_]
    exact row _ _ _ _ _ _ _ _ (mm_done kk he hpw hP hK hD hS hl ⟨rfl, hst⟩ hln)
  · cases h
theorem divL_W {n0 z0 : Nat} {ads0 : List Nat} {f : Int64 → Int64 → Int64} {pc pc' : Nat} {ls st ls' st' : List Value} {M M' : mm_H} (h : mm_divL f pc ls st M = some (pc', ls', st', M'))
    (row : ∀ (x y : Int64) (lsr : Array Slot) (rest : List Value) (H : Heap) (locs : List Loc) (cells slots : Nat), ¬ y = 0 → W p l e R s m args below meth c H locs cells slots Q (F0 m (pc + 1) lsr (.long (f x y) :: rest)) → W p l e R s m args below meth c H locs cells slots Q (F0 m pc lsr (.long y :: .long x :: rest)))
    (kk : mm_kk base adK adV vf b D p l e R s m args below meth c Q n0 z0 ads0 pc' ls' st' M') : mm_kk base adK adV vf b D p l e R s m args below meth c Q n0 z0 ads0 pc ls st M := by
  unfold mm_divL at h
  split at h
  · split at h
    · cases h
    · next hy =>
      cases h
      intro ads ws tys lsr rs H locs he ⟨hpw, hP, hK, hD, hS, hl, hst, hln⟩
      obtain ⟨k_, e_, hst⟩ := sr_l hst
      rw [e_]
      obtain ⟨k_, e_, hst⟩ := sr_l hst
      rw [e_]
      exact row _ _ _ _ _ _ _ _ hy (mm_done kk he hpw hP hK hD hS hl ⟨rfl, hst⟩ hln)
  · cases h
theorem un_W {n0 z0 : Nat} {ads0 : List Nat} {f : Int32 → Value} {pc pc' : Nat} {ls st ls' st' : List Value} {M M' : mm_H} (h : mm_un f pc ls st M = some (pc', ls', st', M')) (hf : ∀ ads x, vr vf b adK adV ads (f x) (f x))
    (row : ∀ (x : Int32) (lsr : Array Slot) (rest : List Value) (H : Heap) (locs : List Loc) (cells slots : Nat), W p l e R s m args below meth c H locs cells slots Q (F0 m (pc + 1) lsr (f x :: rest)) → W p l e R s m args below meth c H locs cells slots Q (F0 m pc lsr (.int x :: rest)))
    (kk : mm_kk base adK adV vf b D p l e R s m args below meth c Q n0 z0 ads0 pc' ls' st' M') : mm_kk base adK adV vf b D p l e R s m args below meth c Q n0 z0 ads0 pc ls st M := by
  unfold mm_un at h
  split at h
  · cases h
    intro ads ws tys lsr rs H locs he ⟨hpw, hP, hK, hD, hS, hl, hst, hln⟩
    obtain ⟨k_, e_, hst⟩ := sr_i hst
    rw [e_]
    exact row _ _ _ _ _ _ _ (mm_done kk he hpw hP hK hD hS hl ⟨hf _ _, hst⟩ hln)
  · cases h
/-- pushing a number -/
theorem push_W {n0 z0 : Nat} {ads0 : List Nat} {v : Value} {pc pc' : Nat} {ls st : List Value} {M : mm_H} (hv : ∀ ads, vr vf b adK adV ads v v)
    (row : ∀ (lsr : Array Slot) (rest : List Value) (H : Heap) (locs : List Loc) (cells slots : Nat), W p l e R s m args below meth c H locs cells slots Q (F0 m pc' lsr (v :: rest)) → W p l e R s m args below meth c H locs cells slots Q (F0 m pc lsr rest))
    (kk : mm_kk base adK adV vf b D p l e R s m args below meth c Q n0 z0 ads0 pc' ls (v :: st) M) : mm_kk base adK adV vf b D p l e R s m args below meth c Q n0 z0 ads0 pc ls st M := by
  intro ads ws tys lsr rs H locs he ⟨hpw, hP, hK, hD, hS, hl, hst, hln⟩
  exact row _ _ _ _ _ _ (mm_done kk he hpw hP hK hD hS hl ⟨hv _, hst⟩ hln)
theorem ldI_W {n0 z0 : Nat} {ads0 : List Nat} {n k pc pc' : Nat} {ls st ls' st' : List Value} {M M' : mm_H} (h : mm_ldI n k pc ls st M = some (pc', ls', st', M'))
    (row : ∀ (x : Int32) (lsr : Array Slot) (rest : List Value) (H : Heap) (locs : List Loc) (cells slots : Nat), lsr[k]? = some (.val (.int x)) → W p l e R s m args below meth c H locs cells slots Q (F0 m (pc + n) lsr (.int x :: rest)) → W p l e R s m args below meth c H locs cells slots Q (F0 m pc lsr rest))
    (kk : mm_kk base adK adV vf b D p l e R s m args below meth c Q n0 z0 ads0 pc' ls' st' M') : mm_kk base adK adV vf b D p l e R s m args below meth c Q n0 z0 ads0 pc ls st M := by
  unfold mm_ldI at h
  split at h
  · next x hx =>
    cases h
    intro ads ws tys lsr rs H locs he ⟨hpw, hP, hK, hD, hS, hl, hst, hln⟩
    obtain ⟨r, h1, h2⟩ := lr_at hl hx (by intro q; cases q)
    cases h1
    exact row _ _ _ _ _ _ _ h2 (mm_done kk he hpw hP hK hD hS hl ⟨rfl, hst⟩ hln)
  · cases h
theorem ldL_W {n0 z0 : Nat} {ads0 : List Nat} {n k pc pc' : Nat} {ls st ls' st' : List Value} {M M' : mm_H} (h : mm_ldL n k pc ls st M = some (pc', ls', st', M'))
    (row : ∀ (x : Int64) (lsr : Array Slot) (rest : List Value) (H : Heap) (locs : List Loc) (cells slots : Nat), lsr[k]? = some (.val (.long x)) → W p l e R s m args below meth c H locs cells slots Q (F0 m (pc + n) lsr (.long x :: rest)) → W p l e R s m args below meth c H locs cells slots Q (F0 m pc lsr rest))
    (kk : mm_kk base adK adV vf b D p l e R s m args below meth c Q n0 z0 ads0 pc' ls' st' M') : mm_kk base adK adV vf b D p l e R s m args below meth c Q n0 z0 ads0 pc ls st M := by
  unfold mm_ldL at h
  split at h
  · next x hx =>
    cases h
    intro ads ws tys lsr rs H locs he ⟨hpw, hP, hK, hD, hS, hl, hst, hln⟩
    obtain ⟨r, h1, h2⟩ := lr_at hl hx (by intro q; cases q)
    cases h1
    exact row _ _ _ _ _ _ _ h2 (mm_done kk he hpw hP hK hD hS hl ⟨rfl, hst⟩ hln)
  · cases h
theorem ldA_W {n0 z0 : Nat} {ads0 : List Nat} {n k pc pc' : Nat} {ls st ls' st' : List Value} {M M' : mm_H} (hvf : vf = .null ∨ ∃ t, vf = .ref t) (h : mm_ldA n k pc ls st M = some (pc', ls', st', M'))
    (row : ∀ (x : Nat) (lsr : Array Slot) (rest : List Value) (H : Heap) (locs : List Loc) (cells slots : Nat), lsr[k]? = some (.val (.ref x)) → W p l e R s m args below meth c H locs cells slots Q (F0 m (pc + n) lsr (.ref x :: rest)) → W p l e R s m args below meth c H locs cells slots Q (F0 m pc lsr rest))
    (rowN : ∀ (lsr : Array Slot) (rest : List Value) (H : Heap) (locs : List Loc) (cells slots : Nat), lsr[k]? = some (.val .null) → W p l e R s m args below meth c H locs cells slots Q (F0 m (pc + n) lsr (.null :: rest)) → W p l e R s m args below meth c H locs cells slots Q (F0 m pc lsr rest))
    (kk : mm_kk base adK adV vf b D p l e R s m args below meth c Q n0 z0 ads0 pc' ls' st' M') : mm_kk base adK adV vf b D p l e R s m args below meth c Q n0 z0 ads0 pc ls st M := by
  unfold mm_ldA at h
  split at h
  · next x hx =>
    cases h
    intro ads ws tys lsr rs H locs he ⟨hpw, hP, hK, hD, hS, hl, hst, hln⟩
    obtain ⟨r, ⟨a, h1, rfl⟩, h2⟩ := lr_at hl hx (by intro q; cases q)
    exact row _ _ _ _ _ _ _ h2 (mm_done kk he hpw hP hK hD hS hl ⟨⟨a, h1, rfl⟩, hst⟩ hln)
  · next hx =>
    cases h
    intro ads ws tys lsr rs H locs he ⟨hpw, hP, hK, hD, hS, hl, hst, hln⟩
    obtain ⟨r, h1, h2⟩ := lr_at hl hx (by intro q; cases q)
    cases h1
    exact rowN _ _ _ _ _ _ h2 (mm_done kk he hpw hP hK hD hS hl ⟨rfl, hst⟩ hln)
  · next x hx =>
    cases h
    intro ads ws tys lsr rs H locs he ⟨hpw, hP, hK, hD, hS, hl, hst, hln⟩
    obtain ⟨r, h1, h2⟩ := lr_at hl hx (by intro q; cases q)
    have h3 : r = .null ∨ ∃ t, r = .ref t := by
      rcases h1 with ⟨_, q⟩ | ⟨_, _, q⟩ | ⟨_, q⟩ | ⟨_, q⟩
      · exact Or.inr ⟨_, q⟩
      · exact Or.inr ⟨_, q⟩
      · exact Or.inr ⟨_, q⟩
      · rw [q]; exact hvf
    rcases h3 with rfl | ⟨t, rfl⟩
    · exact rowN _ _ _ _ _ _ h2 (mm_done kk he hpw hP hK hD hS hl ⟨h1, hst⟩ hln)
    · exact row _ _ _ _ _ _ _ h2 (mm_done kk he hpw hP hK hD hS hl ⟨h1, hst⟩ hln)
  · cases h
theorem mm_put_len {ls l : List Value} {i : Nat} {v : Value} (h : mm_put ls i v = some l) : i < ls.length ∧ l.length = ls.length := by
  unfold mm_put at h
  split at h
  · next hc => cases h; exact ⟨hc.1, List.length_set⟩
  · cases h
theorem mm_put2_len {ls l : List Value} {i : Nat} {v : Value} (h : mm_put2 ls i v = some l) : i + 1 < ls.length ∧ l.length = ls.length := by
  unfold mm_put2 at h
  split at h
  · next hc => cases h; exact ⟨hc.1, by rw [List.length_set, List.length_set]⟩
  · cases h
theorem stI_W {n0 z0 : Nat} {ads0 : List Nat} {n k pc pc' : Nat} {ls st ls' st' : List Value} {M M' : mm_H} (hvf : vf = .null ∨ ∃ t, vf = .ref t) (h : mm_stI n k pc ls st M = some (pc', ls', st', M'))
    (row : ∀ (x : Int32) (nL : Nat) (lv : List (Nat × Value)) (lsr : Array Slot) (rest : List Value) (H : Heap) (locs : List Loc) (cells slots : Nat), lv_has lsr nL lv → k < nL → (∀ lsr', lv_has lsr' nL ((k, .int x) :: lv.filter (fun q => !(q.1 == k) && !(q.1 + 1 == k && q.2.category == 2))) → W p l e R s m args below meth c H locs cells slots Q (F0 m (pc + n) lsr' rest)) → W p l e R s m args below meth c H locs cells slots Q (F0 m pc lsr (.int x :: rest)))
    (kk : mm_kk base adK adV vf b D p l e R s m args below meth c Q n0 z0 ads0 pc' ls' st' M') : mm_kk base adK adV vf b D p l e R s m args below meth c Q n0 z0 ads0 pc ls st M := by
  unfold mm_stI at h
  split at h
  · split at h
    · next l1 hp =>
      cases h
      intro ads ws tys lsr rs H locs he ⟨hpw, hP, hK, hD, hS, ⟨lv, hl1, hl2⟩, hst, hln⟩
      obtain ⟨k_, e_, hst⟩ := sr_i hst
      rw [e_]
      have hz := mm_put_len hp
      exact row _ _ _ _ _ _ _ _ _ hl1 hz.1 (fun lsr' q => mm_done kk he hpw hP hK hD hS (lr_put (fun v r => vr_cat hvf) hp rfl hl2 q) hst (by rw [hz.2]; exact hln))
    · cases h
  · cases h
theorem stL_W {n0 z0 : Nat} {ads0 : List Nat} {n k pc pc' : Nat} {ls st ls' st' : List Value} {M M' : mm_H} (hvf : vf = .null ∨ ∃ t, vf = .ref t) (h : mm_stL n k pc ls st M = some (pc', ls', st', M'))
    (row : ∀ (x : Int64) (nL : Nat) (lv : List (Nat × Value)) (lsr : Array Slot) (rest : List Value) (H : Heap) (locs : List Loc) (cells slots : Nat), lv_has lsr nL lv → k + 1 < nL → (∀ lsr', lv_has lsr' nL ((k, .long x) :: lv.filter (fun q => !(q.1 == k) && (!(q.1 == k + 1) && !(q.1 + 1 == k && q.2.category == 2)))) → W p l e R s m args below meth c H locs cells slots Q (F0 m (pc + n) lsr' rest)) → W p l e R s m args below meth c H locs cells slots Q (F0 m pc lsr (.long x :: rest)))
    (kk : mm_kk base adK adV vf b D p l e R s m args below meth c Q n0 z0 ads0 pc' ls' st' M') : mm_kk base adK adV vf b D p l e R s m args below meth c Q n0 z0 ads0 pc ls st M := by
  unfold mm_stL at h
  split at h
  · split at h
    · next l1 hp =>
      cases h
      intro ads ws tys lsr rs H locs he ⟨hpw, hP, hK, hD, hS, ⟨lv, hl1, hl2⟩, hst, hln⟩
      obtain ⟨k_, e_, hst⟩ := sr_l hst
      rw [e_]
      have hz := mm_put2_len hp
      exact row _ _ _ _ _ _ _ _ _ hl1 hz.1 (fun lsr' q => mm_done kk he hpw hP hK hD hS (lr_put2 (fun v r => vr_cat hvf) hp rfl hl2 q) hst (by rw [hz.2]; exact hln))
    · cases h
  · cases h
theorem stA_W {n0 z0 : Nat} {ads0 : List Nat} {n k pc pc' : Nat} {ls st ls' st' : List Value} {M M' : mm_H} (hvf : vf = .null ∨ ∃ t, vf = .ref t) (h : mm_stA n k pc ls st M = some (pc', ls', st', M'))
    (row : ∀ (x : Nat) (nL : Nat) (lv : List (Nat × Value)) (lsr : Array Slot) (rest : List Value) (H : Heap) (locs : List Loc) (cells slots : Nat), lv_has lsr nL lv → k < nL → (∀ lsr', lv_has lsr' nL ((k, .ref x) :: lv.filter (fun q => !(q.1 == k) && !(q.1 + 1 == k && q.2.category == 2))) → W p l e R s m args below meth c H locs cells slots Q (F0 m (pc + n) lsr' rest)) → W p l e R s m args below meth c H locs cells slots Q (F0 m pc lsr (.ref x :: rest)))
    (rowN : ∀ (nL : Nat) (lv : List (Nat × Value)) (lsr : Array Slot) (rest : List Value) (H : Heap) (locs : List Loc) (cells slots : Nat), lv_has lsr nL lv → k < nL → (∀ lsr', lv_has lsr' nL ((k, .null) :: lv.filter (fun q => !(q.1 == k) && !(q.1 + 1 == k && q.2.category == 2))) → W p l e R s m args below meth c H locs cells slots Q (F0 m (pc + n) lsr' rest)) → W p l e R s m args below meth c H locs cells slots Q (F0 m pc lsr (.null :: rest)))
    (kk : mm_kk base adK adV vf b D p l e R s m args below meth c Q n0 z0 ads0 pc' ls' st' M') : mm_kk base adK adV vf b D p l e R s m args below meth c Q n0 z0 ads0 pc ls st M := by
  unfold mm_stA at h
  split at h
  · split at h
    · next l1 hp =>
      cases h
      intro ads ws tys lsr rs H locs he ⟨hpw, hP, hK, hD, hS, ⟨lv, hl1, hl2⟩, hst, hln⟩
      obtain ⟨a, k_, e_, ha, hst⟩ := sr_r hst
      rw [e_]
      have hz := mm_put_len hp
      exact row _ _ _ _ _ _ _ _ _ hl1 hz.1 (fun lsr' q => mm_done kk he hpw hP hK hD hS (lr_put (fun v r => vr_cat hvf) hp ⟨a, ha, rfl⟩ hl2 q) hst (by rw [hz.2]; exact hln))
    · cases h
  · split at h
    · next l1 hp =>
      cases h
      intro ads ws tys lsr rs H locs he ⟨hpw, hP, hK, hD, hS, ⟨lv, hl1, hl2⟩, hst, hln⟩
      obtain ⟨k_, e_, hst⟩ := sr_n hst
      rw [e_]
      have hz := mm_put_len hp
      exact rowN _ _ _ _ _ _ _ _ hl1 hz.1 (fun lsr' q => mm_done kk he hpw hP hK hD hS (lr_put (fun v r => vr_cat hvf) hp rfl hl2 q) hst (by rw [hz.2]; exact hln))
    · cases h
  · cases h
theorem br_at {pc t : Nat} {off : Int} (h : mm_at_ pc off = some t) : (pc : Int) + off = (t : Int) := by
  unfold mm_at_ at h
  split at h
  · next hc => cases h; omega
  · cases h
end SND
end
section
/-! STEPS THAT READ AND WRITE CELLS -/
section SNH
variable {base : Nat} {adK adV : Nat → Nat} {vf : Value} {b L : Nat} {xs : Nat → Int32} {D : va_G}
variable {p : Program} {l : Launch} {e : Env} {R : Room} {s : State} {m : MethodId} {args : Array Value} {below : List Frame} {meth : Method} {c : Code} {Q : State → Prop}
theorem mm_uw {ci : Nat} (h : ci < 7) : ∀ w ∈ u_ws (mm_C ci) (mm_T ci) (mm_nf ci), w ∈ mm_ws := by
  intro w hw
  have h1 := List.all_eq_true.mp mm_uw0 w (List.mem_append_left _ (List.mem_flatMap.mpr ⟨ci, List.mem_range.mpr h, hw⟩))
  simp only [Bool.and_eq_true, decide_eq_true_eq] at h1
  exact List.mem_filter.mpr ⟨(List.mem_filter.mp h1.1).1, h1.2⟩
theorem mm_aw {ty : FieldType} (h : ty = .int ∨ ty = .boolean) : Cond.arrayClass ty ∈ mm_ws := by
  have h1 := List.all_eq_true.mp mm_uw0 (Cond.arrayClass ty) (List.mem_append_right _ (by rcases h with rfl | rfl <;> simp))
  simp only [Bool.and_eq_true, decide_eq_true_eq] at h1
  exact List.mem_filter.mpr ⟨(List.mem_filter.mp h1.1).1, h1.2⟩
theorem mm_vc {ci : Nat} (h : ci < 7) : vwCl[ci]? = some (mm_C ci, mm_T ci, mm_nf ci) := by
  match ci, h with
  | 0, _ => rfl
  | 1, _ => rfl
  | 2, _ => rfl
  | 3, _ => rfl
  | 4, _ => rfl
  | 5, _ => rfl
  | 6, _ => rfl
theorem mm_tyok {ci : Nat} (h : ci < 7) : ∀ k, k < mm_nf ci → parseFieldDescriptor (mm_T ci k).2.2.1 = some (mm_ty ci k) := by
  match ci, h with
  | 0, _ => exact tyX1_ok
  | 1, _ => exact tyX2_ok
  | 2, _ => exact tyX3_ok
  | 3, _ => exact tyX4_ok
  | 4, _ => exact tyX6_ok
  | 5, _ => exact tyX7_ok
  | 6, _ => exact tyX8_ok
theorem mm_nmok {ci : Nat} (h : ci < 7) : ∀ a, a < mm_nf ci → ∀ b, b < mm_nf ci → a ≠ b → (mm_T ci a).2.1 ≠ (mm_T ci b).2.1 := by
  match ci, h with
  | 0, _ => exact nmX1
  | 1, _ => exact nmX2
  | 2, _ => exact nmX3
  | 3, _ => exact nmX4
  | 4, _ => exact nmX6
  | 5, _ => exact nmX7
  | 6, _ => exact nmX8
theorem mm_find_in {α : Type} {p : α → Bool} {l : List α} {a : α} (h : l.find? p = some a) : a ∈ l ∧ p a = true := ⟨List.mem_of_find?_eq_some h, List.find?_some h⟩
/-- what a field's row in the tables says -/
theorem mm_fld_of {mm idx : Nat} {q : Nat × Nat × Nat × Nat × Bool × Nat} (h : mm_fld mm idx = some q) : q.1 = mm_cl mm ∧ q.2.1 = idx ∧ q.2.2.1 < 7 ∧ q.2.2.2.1 < mm_nf q.2.2.1 ∧ (mm_T q.2.2.1 q.2.2.2.1).1 = mm_C q.2.2.1 ∧
    (if q.2.2.2.2.1 = true then (lw_tbl[q.2.2.2.2.2]? = some (.fieldLinkNest (mm_c (mm_cl mm)) idx (mm_C q.2.2.1) (mm_T q.2.2.1 q.2.2.2.1).2.1 (mm_T q.2.2.1 q.2.2.2.1).2.2.1 "MendedWithTheWord")) else Cond.fieldLink (mm_c (mm_cl mm)) idx (mm_C q.2.2.1) (mm_T q.2.2.1 q.2.2.2.1).2.1 (mm_T q.2.2.1 q.2.2.2.1).2.2.1 ∈ mm_ws) := by
  obtain ⟨h1, h2⟩ := mm_find_in h
  simp only [Bool.and_eq_true, beq_iff_eq] at h2
  have h3 := List.all_eq_true.mp mm_okf_all q h1
  unfold mm_okf at h3
  simp only [Bool.and_eq_true, decide_eq_true_eq] at h3
  obtain ⟨a1, a2, a3, a4⟩ := h3
  refine ⟨h2.1, h2.2, a1, a2, a3, ?_⟩
  rw [h2.1, h2.2] at a4
  split
  · next hn => rw [if_pos hn] at a4; exact of_decide_eq_true a4
  · next hn => rw [if_neg hn] at a4; exact mm_wa_in a4
/-- reading a field, of a nest mate or not -/
theorem get_row {mm idx pc : Nat} {cc : ByteArray} {q : Nat × Nat × Nat × Nat × Bool × Nat} (hq : mm_fld mm idx = some q) (hx : p.tables.exec = Jvm.exec) (hb : c.code = cc) (hts : ∀ w ∈ mm_ws, w.before args s = true) (hown : s.vm.findClass (mm_c (mm_cl mm)) = some m.cls) (hW : sw_W base adK adV vf b L xs s s.heap)
    {ws : va_W} {tys : List (ClassId × FieldType)} {H : Heap} {locs : List Loc} {cells slots a q0 : Nat} {fs : List Value} {v : Value} {lsr : Array Slot} {rest : List Value} (hK : va_K D vwCl tys s) (hP : va_P D vwCl ws H) (he : ws[q0]? = some (a, .inr (q.2.2.1, fs))) (hv : fs[q.2.2.2.1]? = some v) (hdg : decode cc pc = .ok (.getfield idx, 3))
    (kk : W p l e R s m args below meth c H locs cells slots Q (F0 m (pc + 3) lsr (v :: rest))) : W p l e R s m args below meth c H locs cells slots Q (F0 m pc lsr (.ref a :: rest)) := by
  obtain ⟨h1, h2, h3, h4, h5, h6⟩ := mm_fld_of hq
  split at h6
  · have hn := hW.2.2.2.1 _ (List.mem_of_getElem? h6) rfl
    exact va_getN hx hb hts (mm_uw h3) hown hK hP q0 he (mm_vc h3) q.2.2.2.1 h4 (ref := mm_C q.2.2.1) (host := "MendedWithTheWord") (va_Nw.use rfl hn) (fun x hx => by rw [h5] at hx; exact hx) hv hdg kk
  · exact va_get hx hb hts (mm_uw h3) hown hK hP q0 he (mm_vc h3) q.2.2.2.1 h4 (ref := mm_C q.2.2.1) (hts _ h6) (fun x hx => by rw [h5] at hx; exact hx) hv hdg kk
theorem put_row {mm idx pc : Nat} {cc : ByteArray} {q : Nat × Nat × Nat × Nat × Bool × Nat} (hq : mm_fld mm idx = some q) (hx : p.tables.exec = Jvm.exec) (hb : c.code = cc) (hts : ∀ w ∈ mm_ws, w.before args s = true) (hown : s.vm.findClass (mm_c (mm_cl mm)) = some m.cls) (hW : sw_W base adK adV vf b L xs s s.heap)
    {ws : va_W} {tys : List (ClassId × FieldType)} {H : Heap} {locs : List Loc} {cells slots a q0 : Nat} {fs : List Value} {v : Value} {lsr : Array Slot} {rest : List Value} (hK : va_K D vwCl tys s) (hP : va_P D vwCl ws H) (hD : va_D (fun q => base ≤ q) ws) (hS : va_S (fun q => base ≤ q) s.heap H locs) (he : ws[q0]? = some (a, .inr (q.2.2.1, fs))) (hdg : decode cc pc = .ok (.putfield idx, 3))
    (hfin : (mm_T q.2.2.1 q.2.2.2.1).2.2.2 = false) (hn : narrow (mm_ty q.2.2.1 q.2.2.2.1) v = v) (hfit : fits (mm_ty q.2.2.1 q.2.2.2.1) v = true) (hl : q.2.2.2.1 < fs.length)
    (kk : ∀ (H1 : Heap) (locs1 : List Loc), va_P D vwCl (ws.set q0 (a, .inr (q.2.2.1, fs.set q.2.2.2.1 v))) H1 → va_D (fun q => base ≤ q) (ws.set q0 (a, .inr (q.2.2.1, fs.set q.2.2.2.1 v))) → va_S (fun q => base ≤ q) s.heap H1 locs1 → W p l e R s m args below meth c H1 locs1 cells slots Q (F0 m (pc + 3) lsr rest)) : W p l e R s m args below meth c H locs cells slots Q (F0 m pc lsr (v :: .ref a :: rest)) := by
  obtain ⟨h1, h2, h3, h4, h5, h6⟩ := mm_fld_of hq
  split at h6
  · have hnn := hW.2.2.2.1 _ (List.mem_of_getElem? h6) rfl
    exact va_putN hx hb hts (mm_uw h3) (mm_ty q.2.2.1) (mm_tyok h3) (mm_nmok h3) hown hK hP hD hS q0 he (mm_vc h3) q.2.2.2.1 h4 (ref := mm_C q.2.2.1) (host := "MendedWithTheWord") (va_Nw.use rfl hnn) (fun x hx => by rw [h5] at hx; exact hx) hfin (mm_tyok h3 _ h4) hn hfit hl hdg kk
  · exact va_put hx hb hts (mm_uw h3) (mm_ty q.2.2.1) (mm_tyok h3) (mm_nmok h3) hown hK hP hD hS q0 he (mm_vc h3) q.2.2.2.1 h4 (ref := mm_C q.2.2.1) (hts _ h6) (fun x hx => by rw [h5] at hx; exact hx) hfin (mm_tyok h3 _ h4) hn hfit hl hdg kk
/-- a cell of the small machine, by its number -/
theorem pw_at {V : Value → Value → Prop} {ads : List Nat} {ws : va_W} {tys : List (ClassId × FieldType)} {M : mm_H} (h : pw V ads ws tys M) {o a : Nat} (ha : ads[o]? = some a) : o < gN M ∧ ∃ e, ws[o]? = some (a, e) ∧ cr V tys M o e := by
  have hlt : o < gN M := by rw [← h.1]; exact (List.getElem?_eq_some_iff.mp ha).1
  obtain ⟨a2, e, h1, h2, h3⟩ := h.2.2 o hlt
  rw [ha] at h1
  cases h1
  exact ⟨hlt, e, h2, h3⟩
theorem cr_obj {V : Value → Value → Prop} {tys : List (ClassId × FieldType)} {M : mm_H} {k ci : Nat} {e : va_E} (h : cr V tys M k e) (hs : gS M k = ci) (hc : ci < 7) : ∃ fs, e = .inr (ci, fs) ∧ fs.length = mm_nf ci ∧ ∀ j, j < mm_nf ci → ∃ r, fs[j]? = some r ∧ (if mm_rf (mm_ty ci j) = true then V (gR M k j) r else r = .int (gI M k j)) := by
  subst hs
  rcases h with ⟨_, h⟩ | ⟨h, _⟩ | ⟨h, _⟩ | ⟨h | h, _⟩
  · exact h
  all_goals omega
theorem cr_ia {V : Value → Value → Prop} {tys : List (ClassId × FieldType)} {M : mm_H} {k : Nat} {e : va_E} (h : cr V tys M k e) (hs : gS M k = 10) : ∃ (cA : ClassId) (t0 : Nat) (g : Nat → Int32), e = .inl (cA, gL M k, .inl g) ∧ tys[t0]? = some (cA, FieldType.int) ∧ ∀ j, j < gL M k → g j = gI M k j := by
  rcases h with ⟨h, _⟩ | ⟨_, h⟩ | ⟨h, _⟩ | ⟨h | h, _⟩
  · omega
  · exact h
  all_goals omega
theorem cr_za {V : Value → Value → Prop} {tys : List (ClassId × FieldType)} {M : mm_H} {k : Nat} {e : va_E} (h : cr V tys M k e) (hs : gS M k = 11) : ∃ (cA : ClassId) (t0 : Nat) (g : Nat → Int32), e = .inl (cA, gL M k, .inl g) ∧ tys[t0]? = some (cA, FieldType.boolean) ∧ ∀ j, j < gL M k → g j = gI M k j := by
  rcases h with ⟨h, _⟩ | ⟨h, _⟩ | ⟨_, h⟩ | ⟨h | h, _⟩
  · omega
  · omega
  · exact h
  all_goals omega
theorem cr_qa {V : Value → Value → Prop} {tys : List (ClassId × FieldType)} {M : mm_H} {k : Nat} {e : va_E} (h : cr V tys M k e) (hs : gS M k = 12 ∨ gS M k = 13) : ∃ (cA : ClassId) (t0 : Nat) (g : Nat → Option Nat), e = .inl (cA, gL M k, .inr (.inr (.inr (.inr g)))) ∧ tys[t0]? = some (cA, FieldType.object (mm_E (gS M k))) ∧ ∀ j, j < gL M k → V (gR M k j) (va_rf (g j)) := by
  rcases h with ⟨h, _⟩ | ⟨h, _⟩ | ⟨h, _⟩ | ⟨_, h⟩
  · omega
  · omega
  · omega
  · exact h
theorem vp_in_mk {i : Int32} {n : Nat} (h1 : 0 ≤ i) (h2 : i.toNatClampNeg < n) : vp_in i n := fun q => by
  rcases q with q | q
  · exact absurd h1 (Int32.not_le.mpr q)
  · omega
theorem gf_W {n0 z0 mm idx : Nat} {cc : ByteArray} {ads0 : List Nat} {pc pc' : Nat} {ls st ls' st' : List Value} {M M' : mm_H} (h : mm_gf mm idx pc ls st M = some (pc', ls', st', M')) (hx : p.tables.exec = Jvm.exec) (hb : c.code = cc) (hts : ∀ w ∈ mm_ws, w.before args s = true) (hown : s.vm.findClass (mm_c (mm_cl mm)) = some m.cls) (hW : sw_W base adK adV vf b L xs s s.heap) (hdg : decode cc pc = .ok (.getfield idx, 3))
    (kk : mm_kk base adK adV vf b D p l e R s m args below meth c Q n0 z0 ads0 pc' ls' st' M') : mm_kk base adK adV vf b D p l e R s m args below meth c Q n0 z0 ads0 pc ls st M := by
  unfold mm_gf at h
  split at h
  · split at h
    · next q hq =>
      split at h
      · next hs =>
        cases h
        intro ads ws tys lsr rs H locs he ⟨hpw, hP, hK, hD, hS, hl, hst, hln⟩
        obtain ⟨a, k_, e_, ha, hst⟩ := sr_r hst
        rw [e_]
        obtain ⟨hlt, e1, hw, hc⟩ := pw_at hpw ha
        obtain ⟨_, _, h3, h4, _, _⟩ := mm_fld_of hq
        obtain ⟨fs, rfl, hfl, hf⟩ := cr_obj hc hs h3
        obtain ⟨r, hr, hv⟩ := hf _ h4
        refine get_row hq hx hb hts hown hW hK hP hw hr hdg (mm_done kk he hpw hP hK hD hS hl ⟨?_, hst⟩ hln)
        split at hv
        · next hty => rw [if_pos hty]; exact hv
        · next hty => rw [if_neg hty]; exact hv
      · cases h
    · cases h
  · next j r1 =>
    split at h
    · next hc =>
      obtain ⟨hj, hm, rfl⟩ := hc
      cases h
      intro ads ws tys lsr rs H locs he ⟨hpw, hP, hK, hD, hS, hl, hst, hln⟩
      obtain ⟨r, k_, e_, hv, hst⟩ := sr_v hst
      rw [e_]
      have hr : r = .ref (adK j) := by
        rcases hv with ⟨_, q⟩ | ⟨q, _⟩ | ⟨q, _⟩ | ⟨q, _⟩
        · exact q
        all_goals omega
      subst hr
      have hE := (hW.1.1 _ hj).2.2.1
      rw [hm] at hown
      refine vk_getf hx hb hE hS hown (hts _ (mm_wa_in mm_sf.1)) (fun x hx => hx) hdg (mm_done kk he hpw hP hK hD hS hl ⟨?_, hst⟩ hln)
      exact Or.inr (Or.inl ⟨by omega, by omega, by rw [Nat.add_sub_cancel]⟩)
    · split at h
      · next hc =>
        obtain ⟨hj, hm, rfl⟩ := hc
        cases h
        intro ads ws tys lsr rs H locs he ⟨hpw, hP, hK, hD, hS, hl, hst, hln⟩
        obtain ⟨r, k_, e_, hv, hst⟩ := sr_v hst
        rw [e_]
        have hr : r = .ref (adK j) := by
          rcases hv with ⟨_, q⟩ | ⟨q, _⟩ | ⟨q, _⟩ | ⟨q, _⟩
          · exact q
          all_goals omega
        subst hr
        have hE := (hW.1.1 _ hj).2.1
        rw [hm] at hown
        exact vk_getf hx hb hE hS hown (hts _ (mm_wa_in mm_sf.2.1)) (fun x hx => hx) hdg (mm_done kk he hpw hP hK hD hS hl ⟨rfl, hst⟩ hln)
      · cases h
  · cases h
theorem pf_W {n0 z0 mm idx : Nat} {cc : ByteArray} {ads0 : List Nat} {pc pc' : Nat} {ls st ls' st' : List Value} {M M' : mm_H} (h : mm_pf mm idx pc ls st M = some (pc', ls', st', M')) (hx : p.tables.exec = Jvm.exec) (hb : c.code = cc) (hts : ∀ w ∈ mm_ws, w.before args s = true) (hown : s.vm.findClass (mm_c (mm_cl mm)) = some m.cls) (hW : sw_W base adK adV vf b L xs s s.heap) (hini : mm_ini mm = true → meth.name = "<init>") (hdg : decode cc pc = .ok (.putfield idx, 3))
    (kk : mm_kk base adK adV vf b D p l e R s m args below meth c Q n0 z0 ads0 pc' ls' st' M') : mm_kk base adK adV vf b D p l e R s m args below meth c Q n0 z0 ads0 pc ls st M := by
  unfold mm_pf at h
  split at h
  · next x o r =>
    split at h
    · next q hq =>
      split at h
      · next hs =>
        obtain ⟨hs, hn, hfit, hfin⟩ := hs
        cases h
        intro ads ws tys lsr rs H locs he ⟨hpw, hP, hK, hD, hS, hl, hst, hln⟩
        obtain ⟨k_, e_, hst⟩ := sr_i hst
        rw [e_]
        obtain ⟨a, k_, e_, ha, hst⟩ := sr_r hst
        rw [e_]
        obtain ⟨hlt, e1, hw, hc⟩ := pw_at hpw ha
        obtain ⟨_, _, h3, h4, _, _⟩ := mm_fld_of hq
        obtain ⟨fs, rfl, hfl, hf⟩ := cr_obj hc hs h3
        refine put_row hq hx hb hts hown hW hK hP hD hS hw hdg hfin hn hfit (by rw [hfl]; exact h4) (fun H1 locs1 hP hD hS => mm_done (M := pI M o q.2.2.2.1 x) kk he (pw_set hpw ha rfl rfl (fun y hy => ⟨fun j => ?_, fun j => rfl⟩) (Or.inl ⟨by show gS M o < 7; omega, fs.set q.2.2.2.1 (.int x), by show _ = Sum.inr (gS M o, _); rw [hs], by show _ = mm_nf (gS M o); rw [List.length_set, hs]; exact hfl, fun j hj => ?_⟩)) hP hK hD hS hl hst hln)
        · show (if y = o ∧ j = _ then _ else _) = _; rw [if_neg (fun z => hy z.1)]; rfl
        · have hj : j < mm_nf q.2.2.1 := by rw [← hs]; exact hj
          obtain ⟨r0, g1, g2⟩ := hf j hj
          have hnr : mm_rf (mm_ty q.2.2.1 q.2.2.2.1) = false := by
            cases hty : mm_ty q.2.2.1 q.2.2.2.1 <;> rw [hty] at hfit <;> first | rfl | (exact absurd hfit (by simp [fits]))
          by_cases hjk : j = q.2.2.2.1
          · subst hjk
            refine ⟨.int x, by rw [List.getElem?_set_self (by rw [hfl]; exact h4)], ?_⟩
            show (if mm_rf (mm_ty (gS M o) _) = true then _ else _)
            rw [hs, hnr, if_neg (by decide)]
            show _ = Value.int (if o = o ∧ _ = _ then x else _)
            rw [if_pos ⟨rfl, rfl⟩]
          · refine ⟨r0, by rw [List.getElem?_set_ne (Ne.symm hjk)]; exact g1, ?_⟩
            show (if mm_rf (mm_ty (gS M o) j) = true then vr vf b adK adV ads (gR M o j) r0 else r0 = Value.int (if o = o ∧ j = _ then x else _))
            rw [hs, show (if o = o ∧ j = q.2.2.2.1 then x else M.1 o j) = M.1 o j from if_neg (fun z => hjk z.2)]
            exact g2
      · cases h
    · cases h
  · next y o r =>
    split at h
    · next q hq =>
      split at h
      · next hs =>
        obtain ⟨hs, hr, hfin, hi, hC, hne⟩ := hs
        cases h
        intro ads ws tys lsr rs H locs he ⟨hpw, hP, hK, hD, hS, hl, hst, hln⟩
        obtain ⟨a2, k_, e_, ha2, hst⟩ := sr_r hst
        rw [e_]
        obtain ⟨a, k_, e_, ha, hst⟩ := sr_r hst
        rw [e_]
        obtain ⟨hlt, e1, hw, hc⟩ := pw_at hpw ha
        obtain ⟨_, _, h3, h4, h5, h6⟩ := mm_fld_of hq
        rw [if_neg (by rw [hne]; decide)] at h6
        obtain ⟨fs, rfl, hfl, hf⟩ := cr_obj hc hs h3
        have hrf : mm_rf (mm_ty q.2.2.1 q.2.2.2.1) = true := by
          cases hty : mm_ty q.2.2.1 q.2.2.2.1 <;> rw [hty] at hr <;> first | rfl | (exact absurd hr Bool.false_ne_true)
        have hrt : ∀ v : Value, (v = .ref a2) → narrow (mm_ty q.2.2.1 q.2.2.2.1) v = v ∧ fits (mm_ty q.2.2.1 q.2.2.2.1) v = true := by
          rintro v rfl
          cases hty : mm_ty q.2.2.1 q.2.2.2.1 <;> rw [hty] at hr <;> first | exact ⟨rfl, rfl⟩ | (exact absurd hr (by decide))
        refine va_putF hx hb hts (mm_uw h3) (mm_ty q.2.2.1) (mm_tyok h3) (mm_nmok h3) hown hK hP hD hS o hw (mm_vc h3) q.2.2.2.1 h4 (ref := mm_C q.2.2.1) (hts _ h6) (fun x hx => by rw [h5] at hx; exact hx) hfin (hini hi) (by rw [h5, hC]) (mm_tyok h3 _ h4) (hrt _ rfl).1 (hrt _ rfl).2 (by rw [hfl]; exact h4) hdg
          (fun H1 locs1 hP hD hS => mm_done (M := pR M o q.2.2.2.1 (.ref y)) kk he (pw_set hpw ha rfl rfl (fun z hz => ⟨fun j => rfl, fun j => ?_⟩) (Or.inl ⟨by show gS M o < 7; omega, fs.set q.2.2.2.1 (.ref a2), by show _ = Sum.inr (gS M o, _); rw [hs], by show _ = mm_nf (gS M o); rw [List.length_set, hs]; exact hfl, fun j hj => ?_⟩)) hP hK hD hS hl hst hln)
        · show (if z = o ∧ j = _ then _ else _) = _; rw [if_neg (fun w => hz w.1)]; rfl
        · have hj : j < mm_nf q.2.2.1 := by rw [← hs]; exact hj
          obtain ⟨r0, g1, g2⟩ := hf j hj
          by_cases hjk : j = q.2.2.2.1
          · subst hjk
            refine ⟨.ref a2, by rw [List.getElem?_set_self (by rw [hfl]; exact h4)], ?_⟩
            show (if mm_rf (mm_ty (gS M o) _) = true then _ else _)
            rw [hs, hrf, if_pos rfl]
            show vr vf b adK adV ads (if o = o ∧ _ = _ then _ else _) _
            rw [if_pos ⟨rfl, rfl⟩]
            exact ⟨a2, ha2, rfl⟩
          · refine ⟨r0, by rw [List.getElem?_set_ne (Ne.symm hjk)]; exact g1, ?_⟩
            show (if mm_rf (mm_ty (gS M o) j) = true then vr vf b adK adV ads (if o = o ∧ j = _ then _ else _) r0 else r0 = Value.int (gI M o j))
            rw [hs, show (if o = o ∧ j = q.2.2.2.1 then Value.ref y else M.2.1 o j) = M.2.1 o j from if_neg (fun z => hjk z.2)]
            exact g2
      · cases h
    · cases h
  · next x o r =>
    split at h
    · next q hq =>
      split at h
      · next hs =>
        obtain ⟨hs, hty, hfin⟩ := hs
        cases h
        intro ads ws tys lsr rs H locs he ⟨hpw, hP, hK, hD, hS, hl, hst, hln⟩
        obtain ⟨k_, e_, hst⟩ := sr_l hst
        rw [e_]
        obtain ⟨a, k_, e_, ha, hst⟩ := sr_r hst
        rw [e_]
        obtain ⟨hlt, e1, hw, hc⟩ := pw_at hpw ha
        obtain ⟨_, _, h3, h4, _, _⟩ := mm_fld_of hq
        obtain ⟨fs, rfl, hfl, hf⟩ := cr_obj hc hs h3
        refine put_row hq hx hb hts hown hW hK hP hD hS hw hdg hfin (by rw [hty]; rfl) (by rw [hty]; rfl) (by rw [hfl]; exact h4) (fun H1 locs1 hP hD hS => mm_done (M := pR M o q.2.2.2.1 (.long x)) kk he (pw_set hpw ha rfl rfl (fun y hy => ⟨fun j => rfl, fun j => ?_⟩) (Or.inl ⟨by show gS M o < 7; omega, fs.set q.2.2.2.1 (.long x), by show _ = Sum.inr (gS M o, _); rw [hs], by show _ = mm_nf (gS M o); rw [List.length_set, hs]; exact hfl, fun j hj => ?_⟩)) hP hK hD hS hl hst hln)
        · show (if y = o ∧ j = _ then _ else _) = _; rw [if_neg (fun z => hy z.1)]; rfl
        · have hj : j < mm_nf q.2.2.1 := by rw [← hs]; exact hj
          obtain ⟨r0, g1, g2⟩ := hf j hj
          by_cases hjk : j = q.2.2.2.1
          · subst hjk
            refine ⟨.long x, by rw [List.getElem?_set_self (by rw [hfl]; exact h4)], ?_⟩
            show (if mm_rf (mm_ty (gS M o) _) = true then _ else _)
            rw [hs, hty, if_pos (show mm_rf FieldType.long = true from rfl)]
            show vr vf b adK adV ads (if o = o ∧ _ = _ then _ else _) _
            rw [if_pos ⟨rfl, rfl⟩]
            exact rfl
          · refine ⟨r0, by rw [List.getElem?_set_ne (Ne.symm hjk)]; exact g1, ?_⟩
            show (if mm_rf (mm_ty (gS M o) j) = true then vr vf b adK adV ads (if o = o ∧ j = _ then _ else _) r0 else r0 = Value.int (gI M o j))
            rw [hs, show (if o = o ∧ j = q.2.2.2.1 then Value.long x else M.2.1 o j) = M.2.1 o j from if_neg (fun z => hjk z.2)]
            exact g2
      · cases h
    · cases h
  · cases h
theorem gs_W {n0 z0 mm idx : Nat} {cc : ByteArray} {ads0 : List Nat} {pc pc' : Nat} {ls st ls' st' : List Value} {M M' : mm_H} (h : mm_gs mm idx pc ls st M = some (pc', ls', st', M')) (hx : p.tables.exec = Jvm.exec) (hb : c.code = cc) (hts : ∀ w ∈ mm_ws, w.before args s = true) (hown : s.vm.findClass (mm_c (mm_cl mm)) = some m.cls) (hW : sw_W base adK adV vf b L xs s s.heap) (hdg : decode cc pc = .ok (.getstatic idx, 3))
    (kk : mm_kk base adK adV vf b D p l e R s m args below meth c Q n0 z0 ads0 pc' ls' st' M') : mm_kk base adK adV vf b D p l e R s m args below meth c Q n0 z0 ads0 pc ls st M := by
  unfold mm_gs at h
  split at h
  · next hc =>
    obtain ⟨hm, rfl⟩ := hc
    cases h
    intro ads ws tys lsr rs H locs he ⟨hpw, hP, hK, hD, hS, hl, hst, hln⟩
    rw [hm] at hown
    exact va_gets hx hb hW.2.1 hS hown (hts _ (mm_wa_in mm_sf.2.2.1)) (fun x hx => hx) hdg (mm_done kk he hpw hP hK hD hS hl ⟨rfl, hst⟩ hln)
  · split at h
    · next hc =>
      obtain ⟨hm, rfl⟩ := hc
      cases h
      intro ads ws tys lsr rs H locs he ⟨hpw, hP, hK, hD, hS, hl, hst, hln⟩
      rw [hm] at hown
      exact va_gets hx hb hW.2.2.1 hS hown (hts _ (mm_wa_in mm_sf.2.2.2)) (fun x hx => hx) hdg (mm_done kk he hpw hP hK hD hS hl ⟨Or.inr (Or.inr (Or.inr ⟨rfl, rfl⟩)), hst⟩ hln)
    · cases h
theorem ial_W {n0 z0 : Nat} {cc : ByteArray} {ads0 : List Nat} {pc pc' : Nat} {ls st ls' st' : List Value} {M M' : mm_H} (h : mm_ial L xs pc ls st M = some (pc', ls', st', M')) (hx : p.tables.exec = Jvm.exec) (hb : c.code = cc) (hW : sw_W base adK adV vf b L xs s s.heap) (hdg : decode cc pc = .ok (.iaload, 1))
    (kk : mm_kk base adK adV vf b D p l e R s m args below meth c Q n0 z0 ads0 pc' ls' st' M') : mm_kk base adK adV vf b D p l e R s m args below meth c Q n0 z0 ads0 pc ls st M := by
  unfold mm_ial at h
  split at h
  · split at h
    · next hs =>
      obtain ⟨hs, hi1, hi2⟩ := hs
      cases h
      intro ads ws tys lsr rs H locs he ⟨hpw, hP, hK, hD, hS, hl, hst, hln⟩
      obtain ⟨k_, e_, hst⟩ := sr_i hst
      rw [e_]
      obtain ⟨a, k_, e_, ha, hst⟩ := sr_r hst
      rw [e_]
      obtain ⟨hlt, e1, hw, hc⟩ := pw_at hpw ha
      obtain ⟨cA, t0, g, rfl, ht, hg⟩ := cr_ia hc hs
      refine va_iald hx hb hK hP _ t0 hw ht (vp_in_mk hi1 hi2) hdg ?_
      rw [hg _ hi2]
      exact mm_done kk he hpw hP hK hD hS hl ⟨rfl, hst⟩ hln
    · cases h
  · split at h
    · next hs =>
      obtain ⟨rfl, hi1, hi2⟩ := hs
      cases h
      intro ads ws tys lsr rs H locs he ⟨hpw, hP, hK, hD, hS, hl, hst, hln⟩
      obtain ⟨k_, e_, hst⟩ := sr_i hst
      rw [e_]
      obtain ⟨r, k_, e_, hv, hst⟩ := sr_v hst
      rw [e_]
      have hr : r = .ref b := by
        rcases hv with ⟨q, _⟩ | ⟨_, q, _⟩ | ⟨_, q⟩ | ⟨q, _⟩
        · omega
        · omega
        · exact q
        · omega
      subst hr
      obtain ⟨_, _, _, _, _, _, _, hX, hbb, hbs, _⟩ := hW
      exact va_sld hx hb hX (Nat.lt_of_lt_of_le hbb hbs) (Nat.not_le.mpr hbb) hS (vp_in_mk hi1 hi2) hdg (mm_done kk he hpw hP hK hD hS hl ⟨rfl, hst⟩ hln)
    · cases h
  · cases h
theorem bal_W {n0 z0 : Nat} {cc : ByteArray} {ads0 : List Nat} {pc pc' : Nat} {ls st ls' st' : List Value} {M M' : mm_H} (h : mm_bal pc ls st M = some (pc', ls', st', M')) (hx : p.tables.exec = Jvm.exec) (hb : c.code = cc) (hW : sw_W base adK adV vf b L xs s s.heap) (hdg : decode cc pc = .ok (.baload, 1))
    (kk : mm_kk base adK adV vf b D p l e R s m args below meth c Q n0 z0 ads0 pc' ls' st' M') : mm_kk base adK adV vf b D p l e R s m args below meth c Q n0 z0 ads0 pc ls st M := by
  unfold mm_bal at h
  split at h
  · split at h
    · next hs =>
      obtain ⟨hs, hi1, hi2⟩ := hs
      cases h
      intro ads ws tys lsr rs H locs he ⟨hpw, hP, hK, hD, hS, hl, hst, hln⟩
      obtain ⟨k_, e_, hst⟩ := sr_i hst
      rw [e_]
      obtain ⟨a, k_, e_, ha, hst⟩ := sr_r hst
      rw [e_]
      obtain ⟨hlt, e1, hw, hc⟩ := pw_at hpw ha
      obtain ⟨cA, t0, g, rfl, ht, hg⟩ := cr_za hc hs
      refine va_zald hx hb hK hP _ t0 hw ht (vp_in_mk hi1 hi2) hdg ?_
      rw [hg _ hi2]
      exact mm_done kk he hpw hP hK hD hS hl ⟨rfl, hst⟩ hln
    · cases h
  · next i j r =>
    split at h
    · next hs =>
      obtain ⟨hj1, hj2, hi1, hi2⟩ := hs
      cases h
      intro ads ws tys lsr rs H locs he ⟨hpw, hP, hK, hD, hS, hl, hst, hln⟩
      obtain ⟨k_, e_, hst⟩ := sr_i hst
      rw [e_]
      obtain ⟨r, k_, e_, hv, hst⟩ := sr_v hst
      rw [e_]
      have hr : r = .ref (adV (j - 100)) := by
        rcases hv with ⟨q, _⟩ | ⟨_, _, q⟩ | ⟨q, _⟩ | ⟨q, _⟩
        · omega
        · exact q
        · omega
        · omega
      subst hr
      have hT := (hW.1.1 (j - 100) (by omega)).2.2.2
      have hll : (mm_sb.map List.length).getD (j - 100) 0 = (mm_sb.getD (j - 100) []).length := by
        simp [List.getD_eq_getElem?_getD, List.getElem?_map]
        cases mm_sb[j - 100]? <;> rfl
      rw [hll] at hT
      exact va_tb hx hb hT hS (vp_in_mk hi1 hi2) rfl hdg (mm_done kk he hpw hP hK hD hS hl ⟨rfl, hst⟩ hln)
    · cases h
  · cases h
theorem aal_W {n0 z0 : Nat} {cc : ByteArray} {ads0 : List Nat} {pc pc' : Nat} {ls st ls' st' : List Value} {M M' : mm_H} (h : mm_aal pc ls st M = some (pc', ls', st', M')) (hx : p.tables.exec = Jvm.exec) (hb : c.code = cc) (hdg : decode cc pc = .ok (.aaload, 1))
    (kk : mm_kk base adK adV vf b D p l e R s m args below meth c Q n0 z0 ads0 pc' ls' st' M') : mm_kk base adK adV vf b D p l e R s m args below meth c Q n0 z0 ads0 pc ls st M := by
  unfold mm_aal at h
  split at h
  · split at h
    · next hs =>
      obtain ⟨hs, hi1, hi2⟩ := hs
      cases h
      intro ads ws tys lsr rs H locs he ⟨hpw, hP, hK, hD, hS, hl, hst, hln⟩
      obtain ⟨k_, e_, hst⟩ := sr_i hst
      rw [e_]
      obtain ⟨a, k_, e_, ha, hst⟩ := sr_r hst
      rw [e_]
      obtain ⟨hlt, e1, hw, hc⟩ := pw_at hpw ha
      obtain ⟨cA, t0, g, rfl, ht, hg⟩ := cr_qa hc hs
      exact va_aldq hx hb hK hP _ t0 hw ht (vp_in_mk hi1 hi2) hdg (mm_done kk he hpw hP hK hD hS hl ⟨hg _ hi2, hst⟩ hln)
    · cases h
  · cases h
theorem ias_W {n0 z0 : Nat} {cc : ByteArray} {ads0 : List Nat} {pc pc' : Nat} {ls st ls' st' : List Value} {M M' : mm_H} (h : mm_ias pc ls st M = some (pc', ls', st', M')) (hx : p.tables.exec = Jvm.exec) (hb : c.code = cc) (hdg : decode cc pc = .ok (.iastore, 1))
    (kk : mm_kk base adK adV vf b D p l e R s m args below meth c Q n0 z0 ads0 pc' ls' st' M') : mm_kk base adK adV vf b D p l e R s m args below meth c Q n0 z0 ads0 pc ls st M := by
  unfold mm_ias at h
  split at h
  · next x i o r =>
    split at h
    · next hs =>
      obtain ⟨hs, hi1, hi2⟩ := hs
      cases h
      intro ads ws tys lsr rs H locs he ⟨hpw, hP, hK, hD, hS, hl, hst, hln⟩
      obtain ⟨k_, e_, hst⟩ := sr_i hst
      rw [e_]
      obtain ⟨k_, e_, hst⟩ := sr_i hst
      rw [e_]
      obtain ⟨a, k_, e_, ha, hst⟩ := sr_r hst
      rw [e_]
      obtain ⟨hlt, e1, hw, hc⟩ := pw_at hpw ha
      obtain ⟨cA, t0, g, rfl, ht, hg⟩ := cr_ia hc hs
      refine va_iast hx hb hK hP hD hS _ t0 hw ht (vp_in_mk hi1 hi2) hdg (fun H1 locs1 hP hD hS => mm_done (M := pI M o i.toNatClampNeg x) kk he (pw_set hpw ha rfl rfl (fun y hy => ⟨fun j => ?_, fun j => rfl⟩) (Or.inr (Or.inl ⟨hs, cA, t0, _, rfl, ht, fun j hj => ?_⟩))) hP hK hD hS hl hst hln)
      · show (if y = o ∧ j = _ then _ else _) = _; rw [if_neg (fun z => hy z.1)]; rfl
      · show upd g _ x j = (if o = o ∧ j = _ then x else _)
        by_cases hji : j = i.toNatClampNeg
        · subst hji; simp [upd]
        · rw [if_neg (fun z => hji z.2), ← show g j = M.1 o j from hg j hj]; simp [upd, hji]
    · cases h
  · cases h
theorem bas_W {n0 z0 : Nat} {cc : ByteArray} {ads0 : List Nat} {pc pc' : Nat} {ls st ls' st' : List Value} {M M' : mm_H} (h : mm_bas pc ls st M = some (pc', ls', st', M')) (hx : p.tables.exec = Jvm.exec) (hb : c.code = cc) (hdg : decode cc pc = .ok (.bastore, 1))
    (kk : mm_kk base adK adV vf b D p l e R s m args below meth c Q n0 z0 ads0 pc' ls' st' M') : mm_kk base adK adV vf b D p l e R s m args below meth c Q n0 z0 ads0 pc ls st M := by
  unfold mm_bas at h
  split at h
  · next x i o r =>
    split at h
    · next hs =>
      obtain ⟨hs, hi1, hi2⟩ := hs
      cases h
      intro ads ws tys lsr rs H locs he ⟨hpw, hP, hK, hD, hS, hl, hst, hln⟩
      obtain ⟨k_, e_, hst⟩ := sr_i hst
      rw [e_]
      obtain ⟨k_, e_, hst⟩ := sr_i hst
      rw [e_]
      obtain ⟨a, k_, e_, ha, hst⟩ := sr_r hst
      rw [e_]
      obtain ⟨hlt, e1, hw, hc⟩ := pw_at hpw ha
      obtain ⟨cA, t0, g, rfl, ht, hg⟩ := cr_za hc hs
      refine va_zast hx hb hK hP hD hS _ t0 hw ht (vp_in_mk hi1 hi2) hdg (fun H1 locs1 hP hD hS => mm_done (M := pI M o i.toNatClampNeg (x &&& 1)) kk he (pw_set hpw ha rfl rfl (fun y hy => ⟨fun j => ?_, fun j => rfl⟩) (Or.inr (Or.inr (Or.inl ⟨hs, cA, t0, _, rfl, ht, fun j hj => ?_⟩)))) hP hK hD hS hl hst hln)
      · show (if y = o ∧ j = _ then _ else _) = _; rw [if_neg (fun z => hy z.1)]; rfl
      · show upd g _ (vp_nar .boolean x) j = (if o = o ∧ j = _ then x &&& 1 else _)
        by_cases hji : j = i.toNatClampNeg
        · subst hji; simp [upd]; rfl
        · rw [if_neg (fun z => hji z.2), ← show g j = M.1 o j from hg j hj]; simp [upd, hji]
    · cases h
  · cases h
theorem aas_W {n0 z0 : Nat} {cc : ByteArray} {ads0 : List Nat} {pc pc' : Nat} {ls st ls' st' : List Value} {M M' : mm_H} (h : mm_aas pc ls st M = some (pc', ls', st', M')) (hx : p.tables.exec = Jvm.exec) (hb : c.code = cc) (hdg : decode cc pc = .ok (.aastore, 1))
    (kk : mm_kk base adK adV vf b D p l e R s m args below meth c Q n0 z0 ads0 pc' ls' st' M') : mm_kk base adK adV vf b D p l e R s m args below meth c Q n0 z0 ads0 pc ls st M := by
  unfold mm_aas at h
  split at h
  · next x i o r =>
    split at h
    · next hs =>
      obtain ⟨hs, hi1, hi2, hel⟩ := hs
      cases h
      intro ads ws tys lsr rs H locs he ⟨hpw, hP, hK, hD, hS, hl, hst, hln⟩
      obtain ⟨a2, k_, e_, ha2, hst⟩ := sr_r hst
      rw [e_]
      obtain ⟨k_, e_, hst⟩ := sr_i hst
      rw [e_]
      obtain ⟨a, k_, e_, ha, hst⟩ := sr_r hst
      rw [e_]
      obtain ⟨hlt, e1, hw, hc⟩ := pw_at hpw ha
      obtain ⟨hlt2, e2, hw2, hc2⟩ := pw_at hpw ha2
      obtain ⟨cA, t0, g, rfl, ht, hg⟩ := cr_qa hc hs
      have hci : mm_el (gS M o) < 7 ∧ mm_C (mm_el (gS M o)) = mm_E (gS M o) := by rcases hs with q | q <;> rw [q] <;> exact ⟨by decide, rfl⟩
      obtain ⟨fs, rfl, -, -⟩ := cr_obj hc2 hel hci.1
      refine va_astq hx hb hK hP hD hS o t0 x (mm_el (gS M o)) (r := (mm_C (mm_el (gS M o)), mm_T (mm_el (gS M o)), mm_nf (mm_el (gS M o)))) hw (by rw [hci.2]; exact ht) hw2 (mm_vc hci.1) (vp_in_mk hi1 hi2) hdg (fun H1 locs1 hP hD hS => mm_done (M := pR M o i.toNatClampNeg (.ref x)) kk he (pw_set hpw ha rfl rfl (fun y hy => ⟨fun j => rfl, fun j => ?_⟩) (Or.inr (Or.inr (Or.inr ⟨hs, cA, t0, _, rfl, ht, fun j hj => ?_⟩)))) hP hK hD hS hl hst hln)
      · show (if y = o ∧ j = _ then _ else _) = _; rw [if_neg (fun z => hy z.1)]; rfl
      · show vr vf b adK adV ads (if o = o ∧ j = _ then _ else _) (va_rf (va_up g _ _ j))
        by_cases hji : j = i.toNatClampNeg
        · subst hji; simp [va_up]; exact ⟨a2, ha2, rfl⟩
        · rw [if_neg (fun z => hji z.2)]; simp only [va_up, if_neg hji]; exact hg j hj
    · cases h
  · cases h
theorem aln_W {n0 z0 : Nat} {cc : ByteArray} {ads0 : List Nat} {pc pc' : Nat} {ls st ls' st' : List Value} {M M' : mm_H} (h : mm_aln L pc ls st M = some (pc', ls', st', M')) (hx : p.tables.exec = Jvm.exec) (hb : c.code = cc) (hW : sw_W base adK adV vf b L xs s s.heap) (hdg : decode cc pc = .ok (.arraylength, 1))
    (kk : mm_kk base adK adV vf b D p l e R s m args below meth c Q n0 z0 ads0 pc' ls' st' M') : mm_kk base adK adV vf b D p l e R s m args below meth c Q n0 z0 ads0 pc ls st M := by
  unfold mm_aln at h
  split at h
  · next o r =>
    split at h
    · next hs =>
      cases h
      intro ads ws tys lsr rs H locs he ⟨hpw, hP, hK, hD, hS, hl, hst, hln⟩
      obtain ⟨a, k_, e_, ha, hst⟩ := sr_r hst
      rw [e_]
      obtain ⟨hlt, e1, hw, hc⟩ := pw_at hpw ha
      have key : ∃ (cA : ClassId) (t0 : Nat) (x : (Nat → Int32) ⊕ (Nat → Int64) ⊕ (Nat → UInt32) ⊕ (Nat → UInt64) ⊕ (Nat → Option Nat)) (ty : FieldType), e1 = .inl (cA, (gL M o, x)) ∧ tys[t0]? = some (cA, ty) := by
        rcases hc with ⟨q, _⟩ | ⟨_, cA, t0, g, q1, q2, _⟩ | ⟨_, cA, t0, g, q1, q2, _⟩ | ⟨_, cA, t0, g, q1, q2, _⟩
        · omega
        · exact ⟨cA, t0, _, _, q1, q2⟩
        · exact ⟨cA, t0, _, _, q1, q2⟩
        · exact ⟨cA, t0, _, _, q1, q2⟩
      obtain ⟨cA, t0, x, ty, rfl, ht⟩ := key
      exact va_alen hx hb hK hP o t0 hw ht rfl hdg (mm_done kk he hpw hP hK hD hS hl ⟨rfl, hst⟩ hln)
    · cases h
  · next j r =>
    split at h
    · next hj =>
      subst hj
      cases h
      intro ads ws tys lsr rs H locs he ⟨hpw, hP, hK, hD, hS, hl, hst, hln⟩
      obtain ⟨r, k_, e_, hv, hst⟩ := sr_v hst
      rw [e_]
      have hr : r = .ref b := by
        rcases hv with ⟨q, _⟩ | ⟨_, q, _⟩ | ⟨_, q⟩ | ⟨q, _⟩
        · omega
        · omega
        · exact q
        · omega
      subst hr
      obtain ⟨_, _, _, _, _, _, _, hX, hbb, hbs, _⟩ := hW
      exact va_slen hx hb hX (Nat.lt_of_lt_of_le hbb hbs) (Nat.not_le.mpr hbb) hS hdg (mm_done kk he hpw hP hK hD hS hl ⟨rfl, hst⟩ hln)
    · split at h
      · next hs =>
        cases h
        intro ads ws tys lsr rs H locs he ⟨hpw, hP, hK, hD, hS, hl, hst, hln⟩
        obtain ⟨r, k_, e_, hv, hst⟩ := sr_v hst
        rw [e_]
        have hr : r = .ref (adV (j - 100)) := by
          rcases hv with ⟨q, _⟩ | ⟨_, _, q⟩ | ⟨q, _⟩ | ⟨q, _⟩
          · omega
          · exact q
          · omega
          · omega
        subst hr
        have hT := (hW.1.1 (j - 100) (by omega)).2.2.2
        have hll : (mm_sb.map List.length).getD (j - 100) 0 = (mm_sb.getD (j - 100) []).length := by
          simp [List.getD_eq_getElem?_getD, List.getElem?_map]
          cases mm_sb[j - 100]? <;> rfl
        rw [hll] at hT
        exact va_tlen hx hb hT hS rfl hdg (mm_done kk he hpw hP hK hD hS hl ⟨rfl, hst⟩ hln)
      · cases h
  · cases h
end SNH
end
section
/-! STEPS THAT MAKE CELLS; THE JDK'S OWN -/
section SNN
variable {base : Nat} {adK adV : Nat → Nat} {vf : Value} {b L : Nat} {xs : Nat → Int32} {D : va_G}
variable {p : Program} {l : Launch} {e : Env} {R : Room} {s : State} {m : MethodId} {args : Array Value} {below : List Frame} {meth : Method} {c : Code} {Q : State → Prop}
theorem sub1 {a n : Nat} (h : n ≤ a) (k : Nat) : a - n + k = a + k - n := by omega
theorem sr_ext {ads ads' : List Nat} (he : ex_t ads ads') {l k : List Value} (h : sr (vr vf b adK adV ads) l k) : sr (vr vf b adK adV ads') l k := sr_mono (fun _ _ => vr_mono he) h
theorem lr_ext {ads ads' : List Nat} (he : ex_t ads ads') {lm : List Value} {ls : Array Slot} (h : lr (vr vf b adK adV ads) lm ls) : lr (vr vf b adK adV ads') lm ls := lr_mono (fun _ _ => vr_mono he) h
theorem new_W {n0 z0 nf zf mm idx : Nat} {cc : ByteArray} {ads0 : List Nat} {pc pc' : Nat} {ls st ls' st' : List Value} {M M' : mm_H} (h : mm_new mm idx pc ls st M = some (pc', ls', st', M')) (hx : p.tables.exec = Jvm.exec) (hb : c.code = cc) (hts : ∀ w ∈ mm_ws, w.before args s = true) (hown : s.vm.findClass (mm_c (mm_cl mm)) = some m.cls) (hbs : base ≤ s.heap.size)
    (hn : n0 ≤ gN M ∧ z0 ≤ gZ M ∧ gN M' ≤ nf ∧ gZ M' ≤ zf ∧ nf - n0 ≤ R.cells ∧ zf - z0 ≤ R.slots) (hdg : decode cc pc = .ok (.new idx, 3))
    (kk : mm_kk base adK adV vf b D p l e R s m args below meth c Q n0 z0 ads0 pc' ls' st' M') : mm_kk base adK adV vf b D p l e R s m args below meth c Q n0 z0 ads0 pc ls st M := by
  unfold mm_new at h
  split at h
  · next q hq =>
    cases h
    obtain ⟨h1, h2⟩ := mm_find_in hq
    simp only [Bool.and_eq_true, beq_iff_eq] at h2
    have h3 := List.all_eq_true.mp mm_oko_all q h1
    simp only [Bool.and_eq_true, decide_eq_true_eq] at h3
    obtain ⟨hci, w1, w2, w3⟩ := h3
    have w1 := mm_wa_in w1
    have w2 := mm_wa_in w2
    have w3 := mm_wa_in w3
    rw [h2.1, h2.2] at w1
    intro ads ws tys lsr rs H locs he ⟨hpw, hP, hK, hD, hS, hl, hst, hln⟩
    obtain ⟨n1, n2, n3, n4, n5, n6⟩ := hn
    have n3 : gN M + 1 ≤ nf := n3
    have n4 : gZ M + mm_nf q.2.2.1 ≤ zf := n4
    refine va_new hx hb hts (mm_uw hci) (mm_ty q.2.2.1) (mm_tyok hci) hown (hts _ w1) (hts _ w2) (hts _ w3) hK hP hD hS (fun q h => Nat.le_trans hbs h) (mm_vc hci) (fs := (List.range (mm_nf q.2.2.1)).map (fun j => defaultValue (mm_ty q.2.2.1 j))) (fun j hj => ?_) (by omega) (by omega) hdg (fun a H1 hP hD hS => ?_)
    · unfold vp_V
      rw [List.getD_eq_getElem?_getD, List.getElem?_map, List.getElem?_range hj]
      rfl
    · rw [sub1 n1, sub1 n2]
      have hex := ex_app ads [a]
      refine mm_done (M := pN M q.2.2.1 (mm_nf q.2.2.1) (mm_nf q.2.2.1)) (ads := ads ++ [a]) kk (ex_trans he hex) (pw_new (tys' := tys) hpw (fun _ _ h => h) (Or.inl ?_)) hP hK hD hS (lr_ext hex hl) ⟨⟨a, by rw [← hpw.1]; simp, rfl⟩, sr_ext hex hst⟩ hln
      have e1 : gS (pN M q.2.2.1 (mm_nf q.2.2.1) (mm_nf q.2.2.1)) (gN M) = q.2.2.1 := by show (if gN M = gN M then _ else _ : Nat × Nat).1 = _; rw [if_pos rfl]
      rw [e1]
      refine ⟨hci, _, rfl, by simp, fun j hj => ⟨_, by rw [List.getElem?_map, List.getElem?_range hj]; rfl, ?_⟩⟩
      have er : gR (pN M q.2.2.1 (mm_nf q.2.2.1) (mm_nf q.2.2.1)) (gN M) j = (if q.2.2.1 = 6 ∧ j = 27 then .long 0 else .null) := by show (if gN M = gN M then _ else _) = _; rw [if_pos rfl]
      have ei : gI (pN M q.2.2.1 (mm_nf q.2.2.1) (mm_nf q.2.2.1)) (gN M) j = 0 := by show (if gN M = gN M then _ else _) = _; rw [if_pos rfl]
      rw [er, ei]
      show if mm_rf (mm_ty q.2.2.1 j) = true then _ else defaultValue (mm_ty q.2.2.1 j) = Value.int 0
      have hty : (mm_rf (mm_ty q.2.2.1 j) = true ∧ defaultValue (mm_ty q.2.2.1 j) = (if q.2.2.1 = 6 ∧ j = 27 then .long 0 else .null)) ∨ (mm_rf (mm_ty q.2.2.1 j) = false ∧ defaultValue (mm_ty q.2.2.1 j) = .int 0) := by
        have hall : ∀ ci, ci < 7 → ∀ j, j < 47 → (mm_rf (mm_ty ci j) = true ∧ defaultValue (mm_ty ci j) = (if ci = 6 ∧ j = 27 then .long 0 else .null)) ∨ (mm_rf (mm_ty ci j) = false ∧ defaultValue (mm_ty ci j) = .int 0) := by decide +kernel
        have h47 : ∀ ci, ci < 7 → mm_nf ci ≤ 47 := by decide +kernel
        exact hall _ hci j (Nat.lt_of_lt_of_le hj (h47 _ hci))
      rcases hty with ⟨q1, q2⟩ | ⟨q1, q2⟩
      · rw [if_pos q1]
        show vr vf b adK adV _ _ (defaultValue (mm_ty q.2.2.1 j))
        rw [q2]
        split <;> exact rfl
      · rw [if_neg (by rw [q1]; decide)]
        exact q2
  · cases h
theorem nwa_W {n0 z0 nf zf : Nat} {t : ArrayType} {cc : ByteArray} {ads0 : List Nat} {pc pc' : Nat} {ls st ls' st' : List Value} {M M' : mm_H} (h : mm_nwa t pc ls st M = some (pc', ls', st', M')) (hx : p.tables.exec = Jvm.exec) (hb : c.code = cc) (hts : ∀ w ∈ mm_ws, w.before args s = true) (hbs : base ≤ s.heap.size)
    (hn : n0 ≤ gN M ∧ z0 ≤ gZ M ∧ gN M' ≤ nf ∧ gZ M' ≤ zf ∧ nf - n0 ≤ R.cells ∧ zf - z0 ≤ R.slots) (hdg : decode cc pc = .ok (.newarray t, 2))
    (kk : mm_kk base adK adV vf b D p l e R s m args below meth c Q n0 z0 ads0 pc' ls' st' M') : mm_kk base adK adV vf b D p l e R s m args below meth c Q n0 z0 ads0 pc ls st M := by
  unfold mm_nwa at h
  split at h
  · next n r =>
    split at h
    · next hc =>
      obtain ⟨hn0, hnk⟩ := hc
      have hneg : ¬ n < 0 := fun q => absurd hn0 (Int32.not_le.mpr q)
      obtain ⟨n1, n2, n3, n4, n5, n6⟩ := hn
      split at h
      · cases h
        have n3 : gN M + 1 ≤ nf := n3
        have n4 : gZ M + n.toNatClampNeg ≤ zf := n4
        intro ads ws tys lsr rs H locs he ⟨hpw, hP, hK, hD, hS, hl, hst, hln⟩
        obtain ⟨k_, e_, hst⟩ := sr_i hst
        rw [e_]
        refine va_newa (ty := .int) hx hb (hts _ (mm_aw (Or.inl rfl))) rfl hK hP hD hS (fun q h => Nat.le_trans hbs h) (a0 := (n.toNatClampNeg, .inl (fun _ => 0))) (fun cA => rfl) hneg rfl (by show _ * 4 ≤ _; omega) (by omega) (by omega) hdg (fun a cA H1 hK hP hD hS => ?_)
        rw [sub1 n1, sub1 n2]
        have hex := ex_app ads [a]
        refine mm_done (M := pN M 10 n.toNatClampNeg n.toNatClampNeg) (ads := ads ++ [a]) (tys := tys ++ [(cA, .int)]) kk (ex_trans he hex) (pw_new hpw (fun k x h => by rw [List.getElem?_append_left (List.getElem?_eq_some_iff.mp h).1]; exact h) (Or.inr (Or.inl ?_))) hP hK hD hS (lr_ext hex hl) ⟨⟨a, by rw [← hpw.1]; simp, rfl⟩, sr_ext hex hst⟩ hln
        refine ⟨by show (if gN M = gN M then _ else _ : Nat × Nat).1 = _; rw [if_pos rfl], cA, tys.length, fun _ => 0, ?_, by simp, fun j hj => ?_⟩
        · show _ = Sum.inl (cA, (if gN M = gN M then _ else _ : Nat × Nat).2, _); rw [if_pos rfl]
        · show _ = (if gN M = gN M then _ else _); rw [if_pos rfl]
      · cases h
        have n3 : gN M + 1 ≤ nf := n3
        have n4 : gZ M + n.toNatClampNeg ≤ zf := n4
        intro ads ws tys lsr rs H locs he ⟨hpw, hP, hK, hD, hS, hl, hst, hln⟩
        obtain ⟨k_, e_, hst⟩ := sr_i hst
        rw [e_]
        refine va_newa (ty := .boolean) hx hb (hts _ (mm_aw (Or.inr rfl))) rfl hK hP hD hS (fun q h => Nat.le_trans hbs h) (a0 := (n.toNatClampNeg, .inl (fun _ => 0))) (fun cA => rfl) hneg rfl (by show _ * 1 ≤ _; omega) (by omega) (by omega) hdg (fun a cA H1 hK hP hD hS => ?_)
        rw [sub1 n1, sub1 n2]
        have hex := ex_app ads [a]
        refine mm_done (M := pN M 11 n.toNatClampNeg n.toNatClampNeg) (ads := ads ++ [a]) (tys := tys ++ [(cA, .boolean)]) kk (ex_trans he hex) (pw_new hpw (fun k x h => by rw [List.getElem?_append_left (List.getElem?_eq_some_iff.mp h).1]; exact h) (Or.inr (Or.inr (Or.inl ?_)))) hP hK hD hS (lr_ext hex hl) ⟨⟨a, by rw [← hpw.1]; simp, rfl⟩, sr_ext hex hst⟩ hln
        refine ⟨by show (if gN M = gN M then _ else _ : Nat × Nat).1 = _; rw [if_pos rfl], cA, tys.length, fun _ => 0, ?_, by simp, fun j hj => ?_⟩
        · show _ = Sum.inl (cA, (if gN M = gN M then _ else _ : Nat × Nat).2, _); rw [if_pos rfl]
        · show _ = (if gN M = gN M then _ else _); rw [if_pos rfl]
      · cases h
    · cases h
  · cases h
theorem ana_W {n0 z0 nf zf mm idx : Nat} {cc : ByteArray} {ads0 : List Nat} {pc pc' : Nat} {ls st ls' st' : List Value} {M M' : mm_H} (h : mm_ana mm idx pc ls st M = some (pc', ls', st', M')) (hx : p.tables.exec = Jvm.exec) (hb : c.code = cc) (hts : ∀ w ∈ mm_ws, w.before args s = true) (hown : s.vm.findClass (mm_c (mm_cl mm)) = some m.cls) (hW : sw_W base adK adV vf b L xs s s.heap) (hbs : base ≤ s.heap.size)
    (hn : n0 ≤ gN M ∧ z0 ≤ gZ M ∧ gN M' ≤ nf ∧ gZ M' ≤ zf ∧ nf - n0 ≤ R.cells ∧ zf - z0 ≤ R.slots) (hdg : decode cc pc = .ok (.anewarray idx, 3))
    (kk : mm_kk base adK adV vf b D p l e R s m args below meth c Q n0 z0 ads0 pc' ls' st' M') : mm_kk base adK adV vf b D p l e R s m args below meth c Q n0 z0 ads0 pc ls st M := by
  unfold mm_ana at h
  split at h
  · next n r =>
    split at h
    · next hc =>
      obtain ⟨hn0, hnk⟩ := hc
      have hneg : ¬ n < 0 := fun q => absurd hn0 (Int32.not_le.mpr q)
      obtain ⟨n1, n2, n3, n4, n5, n6⟩ := hn
      split at h
      · next q hq =>
        cases h
        obtain ⟨h1, h2⟩ := mm_find_in hq
        simp only [Bool.and_eq_true, beq_iff_eq] at h2
        have h3 := List.all_eq_true.mp mm_oka_all q h1
        simp only [Bool.and_eq_true, decide_eq_true_eq] at h3
        obtain ⟨hso, w1⟩ := h3
        have w1 := mm_wa_in w1
        rw [h2.1, h2.2] at w1
        have n3 : gN M + 1 ≤ nf := n3
        have n4 : gZ M + n.toNatClampNeg ≤ zf := n4
        have hao : va_AO (mm_E q.2.2.1) s := by
          rcases hso with z | z <;> rw [z]
          · exact hW.2.2.2.2.1
          · exact hW.2.2.2.2.2.1
        intro ads ws tys lsr rs H locs he ⟨hpw, hP, hK, hD, hS, hl, hst, hln⟩
        obtain ⟨k_, e_, hst⟩ := sr_i hst
        rw [e_]
        refine va_newq hx hb hown (hts _ w1) hao hK hP hD hS (fun q h => Nat.le_trans hbs h) hneg rfl (by omega) (by omega) (by omega) hdg (fun a cA H1 hK hP hD hS => ?_)
        rw [sub1 n1, sub1 n2]
        have hex := ex_app ads [a]
        have e1 : gS (pN M q.2.2.1 n.toNatClampNeg n.toNatClampNeg) (gN M) = q.2.2.1 := by show (if gN M = gN M then _ else _ : Nat × Nat).1 = _; rw [if_pos rfl]
        refine mm_done (M := pN M q.2.2.1 n.toNatClampNeg n.toNatClampNeg) (ads := ads ++ [a]) (tys := tys ++ [(cA, .object (mm_E q.2.2.1))]) kk (ex_trans he hex) (pw_new hpw (fun k x h => by rw [List.getElem?_append_left (List.getElem?_eq_some_iff.mp h).1]; exact h) (Or.inr (Or.inr (Or.inr ?_)))) hP hK hD hS (lr_ext hex hl) ⟨⟨a, by rw [← hpw.1]; simp, rfl⟩, sr_ext hex hst⟩ hln
        refine ⟨by rw [e1]; exact hso, cA, tys.length, fun _ => none, ?_, by rw [e1]; simp, fun j hj => ?_⟩
        · show _ = Sum.inl (cA, (if gN M = gN M then _ else _ : Nat × Nat).2, _); rw [if_pos rfl]
        · show vr vf b adK adV _ (if gN M = gN M then _ else _) _; rw [if_pos rfl, if_neg (by omega)]; rfl
      · cases h
    · cases h
  · cases h
/-- the pool's rows of the JDK's own -/
theorem ntv_of {mm idx : Nat} {q : Nat × Nat × Nat × Nat} (h : mm_ntv mm idx = some q) : Cond.methodLink (mm_c (mm_cl mm)) idx (if q.2.2.1 = 0 then objectInit else if q.2.2.1 = 1 then arraycopyName else if q.2.2.1 = 2 then Lib.Math.abs.name else Lib.Math.min.name) ∈ mm_ws := by
  obtain ⟨h1, h2⟩ := mm_find_in h
  simp only [Bool.and_eq_true, beq_iff_eq] at h2
  have h3 := mm_wa_in (List.all_eq_true.mp mm_okn_all q h1)
  rw [h2.1, h2.2] at h3
  exact h3
theorem cpy_W {n0 z0 d mm idx : Nat} {cc : ByteArray} {ads0 : List Nat} {pc pc' : Nat} {ls st ls' st' : List Value} {M M' : mm_H} (hvf : vf = .null ∨ ∃ t, vf = .ref t) (h : mm_cpy d mm idx pc ls st M = some (pc', ls', st', M')) (hx : p.tables.exec = Jvm.exec) (hb : c.code = cc) (hts : ∀ w ∈ mm_ws, w.before args s = true) (hown : s.vm.findClass (mm_c (mm_cl mm)) = some m.cls) (hr : d ≤ R.frames ∧ 80 * d ≤ R.locals) (hdg : decode cc pc = .ok (.invokestatic idx, 3))
    (kk : mm_kk base adK adV vf b D p l e R s m args below meth c Q n0 z0 ads0 pc' ls' st' M') : mm_kk base adK adV vf b D p l e R s m args below meth c Q n0 z0 ads0 pc ls st M := by
  unfold mm_cpy at h
  split at h
  · next n dp o1 sp o0 r =>
    split at h
    · next q hq =>
      split at h
      · next hs =>
        obtain ⟨hq1, hd, ha, hbb, hn, hsp, hdp, h4, h5, hcs⟩ := hs
        cases h
        have hlk := ntv_of hq
        rw [if_neg (by omega), if_pos hq1] at hlk
        intro ads ws tys lsr rs H locs he ⟨hpw, hP, hK, hD, hS, hl, hst, hln⟩
        obtain ⟨k_, e_, hst⟩ := sr_i hst
        rw [e_]
        obtain ⟨k_, e_, hst⟩ := sr_i hst
        rw [e_]
        obtain ⟨a1, k_, e_, ha1, hst⟩ := sr_r hst
        rw [e_]
        obtain ⟨k_, e_, hst⟩ := sr_i hst
        rw [e_]
        obtain ⟨a0, k_, e_, ha0, hst⟩ := sr_r hst
        rw [e_]
        obtain ⟨hlt1, e1, hw1, hc1⟩ := pw_at hpw ha1
        obtain ⟨hlt0, e0, hw0, hc0⟩ := pw_at hpw ha0
        obtain ⟨cA1, t1, g1, rfl, ht1, hg1⟩ := cr_ia hc1 hbb
        obtain ⟨cA0, t0, g0, rfl, ht0, hg0⟩ := cr_ia hc0 ha
        have nn : ∀ z : Int32, 0 ≤ z → ¬ z < 0 := fun z h q => absurd h (Int32.not_le.mpr q)
        obtain ⟨_, _, _, jw4, jw5, jw6, _⟩ := mm_jw
        have hm : c.maxLocals = lsr.size := by
          obtain ⟨lv, q1, -⟩ := hl
          rw [q1.1]; exact hln.symm
        refine va_copyi hx hb hm hown (hts _ hlk) (hts _ (mm_wa_in jw5)) (hts _ (mm_wa_in jw6)) (hts _ (mm_wa_in jw4)) hK hP hD hS o0 o1 t0 t1 hw0 hw1 ht0 ht1 rfl (nn _ hsp) (nn _ hdp) (nn _ hn) h4 h5 (fun i hi => rfl) (by omega)
          (by rw [sr_cs (fun v r => vr_cat hvf) hst]; have : nativeFrameWords "java/lang/System" "arraycopy" 5 ≤ 40 := by decide +kernel
              omega) hdg (fun H1 locs1 hP hD hS => mm_done (M := pC M o0 sp.toNatClampNeg o1 dp.toNatClampNeg n.toNatClampNeg) kk he (pw_set hpw ha1 rfl rfl (fun y hy => ⟨fun j => ?_, fun j => rfl⟩) (Or.inr (Or.inl ⟨hbb, cA1, t1, _, rfl, ht1, fun j hj => ?_⟩))) hP hK hD hS hl hst hln)
        · show (if y = o1 ∧ _ then _ else _) = _; rw [if_neg (fun z => hy z.1)]; rfl
        · show va_cpy g0 g1 _ _ _ j = (if o1 = o1 ∧ _ then _ else _)
          unfold va_cpy
          by_cases hj2 : dp.toNatClampNeg ≤ j ∧ j < dp.toNatClampNeg + n.toNatClampNeg
          · rw [if_pos hj2, if_pos ⟨rfl, hj2⟩]
            exact hg0 _ (by omega)
          · rw [if_neg hj2, if_neg (fun z => hj2 z.2)]
            exact hg1 _ hj
      · cases h
    · cases h
  · cases h
theorem mat_W {n0 z0 nf zf d mm idx : Nat} {cc : ByteArray} {ads0 : List Nat} {pc pc' : Nat} {ls st ls' st' : List Value} {M M' : mm_H} (hvf : vf = .null ∨ ∃ t, vf = .ref t) (h : mm_mat d mm idx pc ls st M = some (pc', ls', st', M')) (hx : p.tables.exec = Jvm.exec) (hb : c.code = cc) (hts : ∀ w ∈ mm_ws, w.before args s = true) (hown : s.vm.findClass (mm_c (mm_cl mm)) = some m.cls) (hr : d ≤ R.frames ∧ 80 * d ≤ R.locals) (hn : gN M' ≤ nf ∧ gZ M' ≤ zf ∧ nf - n0 ≤ R.cells ∧ zf - z0 ≤ R.slots) (hdg : decode cc pc = .ok (.invokestatic idx, 3))
    (kk : mm_kk base adK adV vf b D p l e R s m args below meth c Q n0 z0 ads0 pc' ls' st' M') : mm_kk base adK adV vf b D p l e R s m args below meth c Q n0 z0 ads0 pc ls st M := by
  have h0 := h
  unfold mm_mat at h
  split at h
  · next q hq =>
    have hlk := ntv_of hq
    obtain ⟨jw1, jw2, jw3, _⟩ := mm_jw
    obtain ⟨jc1, jc2, _⟩ := mm_jc
    split at h
    · next hc =>
      split at h
      · split at h
        · next hcs =>
          cases h
          rw [if_neg (by omega), if_neg (by omega), if_pos hc.1] at hlk
          intro ads ws tys lsr rs H locs he ⟨hpw, hP, hK, hD, hS, hl, hst, hln⟩
          obtain ⟨k_, e_, hst⟩ := sr_i hst
          rw [e_]
          have hm : c.maxLocals = lsr.size := by
            obtain ⟨lv, q1, -⟩ := hl
            rw [q1.1]; exact hln.symm
          exact va_mabs hx hb hm hown (hts _ hlk) (hts _ (mm_wa_in jw1)) (hts _ (mm_wa_in jw3)) (hts _ (mm_wa_in jc1)) (by omega) (by rw [sr_cs (fun v r => vr_cat hvf) hst]; omega) (by omega) (by omega) hdg (mm_done kk he hpw hP hK hD hS hl ⟨rfl, hst⟩ hln)
        · cases h
      · cases h
    · split at h
      · next hc =>
        split at h
        · split at h
          · next hcs =>
            cases h
            rw [if_neg (by omega), if_neg (by omega), if_neg (by omega)] at hlk
            intro ads ws tys lsr rs H locs he ⟨hpw, hP, hK, hD, hS, hl, hst, hln⟩
            obtain ⟨k_, e_, hst⟩ := sr_i hst
            rw [e_]
            obtain ⟨k_, e_, hst⟩ := sr_i hst
            rw [e_]
            have hm : c.maxLocals = lsr.size := by
              obtain ⟨lv, q1, -⟩ := hl
              rw [q1.1]; exact hln.symm
            exact va_mmin hx hb hm hown (hts _ hlk) (hts _ (mm_wa_in jw2)) (hts _ (mm_wa_in jw3)) (hts _ (mm_wa_in jc2)) (by omega) (by rw [sr_cs (fun v r => vr_cat hvf) hst]; omega) (by omega) (by omega) hdg (mm_done kk he hpw hP hK hD hS hl ⟨rfl, hst⟩ hln)
          · cases h
        · cases h
      · exact cpy_W hvf h hx hb hts hown hr hdg kk
  · cases h
theorem obj_W {n0 z0 d mm idx : Nat} {cc : ByteArray} {ads0 : List Nat} {pc pc' : Nat} {ls st ls' st' : List Value} {M M' : mm_H} (hvf : vf = .null ∨ ∃ t, vf = .ref t) (hr : d ≤ R.frames ∧ 80 * d ≤ R.locals) (h : mm_obj d mm idx pc ls st M = some (pc', ls', st', M')) (hx : p.tables.exec = Jvm.exec) (hb : c.code = cc) (hts : ∀ w ∈ mm_ws, w.before args s = true) (hown : s.vm.findClass (mm_c (mm_cl mm)) = some m.cls) (hdg : decode cc pc = .ok (.invokespecial idx, 3))
    (kk : mm_kk base adK adV vf b D p l e R s m args below meth c Q n0 z0 ads0 pc' ls' st' M') : mm_kk base adK adV vf b D p l e R s m args below meth c Q n0 z0 ads0 pc ls st M := by
  unfold mm_obj at h
  split at h
  · split at h
    · next q hq =>
      split at h
      · next hq0 =>
        cases h
        have hlk := ntv_of hq
        rw [if_pos hq0.1] at hlk
        intro ads ws tys lsr rs H locs he ⟨hpw, hP, hK, hD, hS, hl, hst, hln⟩
        obtain ⟨a, k_, e_, ha, hst⟩ := sr_r hst
        rw [e_]
        obtain ⟨_, _, _, _, _, _, jw7⟩ := mm_jw
        have hm : c.maxLocals = lsr.size := by
          obtain ⟨lv, q1, -⟩ := hl
          rw [q1.1]; exact hln.symm
        refine W.objInit hx hb hown (hts _ hlk) (hts _ (mm_wa_in jw7)) (hts _ (mm_wa_in mm_jc.2.2)) rfl hm.symm rfl hdg (by omega) (by rw [sr_cs (fun v r => vr_cat hvf) hst]; show 2 * 0 + _ + _ ≤ _; omega) ?_
        exact mm_done kk he hpw hP hK hD hS hl hst hln
      · cases h
    · cases h
  · cases h
end SNN
end
section
/-! A RUN OF THE SMALL MACHINE IS A RUN OF THE MACHINE -/
section SNR
variable {base : Nat} {adK adV : Nat → Nat} {vf : Value} {b L : Nat} {xs : Nat → Int32} {D : va_G}
variable {p : Program} {l : Launch} {e : Env} {R : Room} {s : State} {m : MethodId} {args : Array Value} {below : List Frame} {meth : Method} {c : Code} {Q : State → Prop}
theorem mm_len1 {i : Instr} {len n : Nat} (h : mm_len i len = true) (hi : mm_len i n = true) (hj : ∀ a b : Nat, mm_len i a = true → mm_len i b = true → a = b) : len = n := hj _ _ h hi
theorem step_W {n0 z0 nf zf d mm pc len : Nat} {i : Instr} {ads0 : List Nat} {pc' : Nat} {ls st ls' st' : List Value} {M M' : mm_H} (hcx : mm_cx base adK adV vf b L xs p R s m args meth c d mm n0 z0 nf zf) (hI : mm_I mm pc = some (i, len)) (hlen : mm_len i len = true) (h : mm_step L xs d mm pc i ls st M = some (pc', ls', st', M'))
    (hn : n0 ≤ gN M ∧ z0 ≤ gZ M ∧ gN M' ≤ nf ∧ gZ M' ≤ zf) (kk : mm_kk base adK adV vf b D p l e R s m args below meth c Q n0 z0 ads0 pc' ls' st' M') : mm_kk base adK adV vf b D p l e R s m args below meth c Q n0 z0 ads0 pc ls st M := by
  obtain ⟨hx, ⟨q, hq, hb, hml⟩, hown, hts, hW, hini, hr1, hr2, hr3, hr4⟩ := hcx
  have hdg := mm_I_of hI hq
  have hvf : vf = .null ∨ ∃ t, vf = .ref t := hW.2.2.2.2.2.2.2.2.2.2
  have hbs : base ≤ s.heap.size := hW.2.2.2.2.2.2.2.2.2.1
  have hn6 : n0 ≤ gN M ∧ z0 ≤ gZ M ∧ gN M' ≤ nf ∧ gZ M' ≤ zf ∧ nf - n0 ≤ R.cells ∧ zf - z0 ≤ R.slots := ⟨hn.1, hn.2.1, hn.2.2.1, hn.2.2.2, hr3, hr4⟩
  cases i
  case iconst n => cases h; simp only [mm_len, beq_iff_eq] at hlen; subst hlen; refine push_W ?_ (fun lsr rest H locs cells slots k => lv_iconst hx hb hdg rfl k) kk; exact fun _ => rfl
  case bipush n => cases h; simp only [mm_len, beq_iff_eq] at hlen; subst hlen; refine push_W ?_ (fun lsr rest H locs cells slots k => lv_bipush hx hb hdg rfl k) kk; exact fun _ => rfl
  case sipush n => cases h; simp only [mm_len, beq_iff_eq] at hlen; subst hlen; refine push_W ?_ (fun lsr rest H locs cells slots k => lv_sipush hx hb hdg rfl k) kk; exact fun _ => rfl
  case lconst n => cases h; simp only [mm_len, beq_iff_eq] at hlen; subst hlen; refine push_W ?_ (fun lsr rest H locs cells slots k => lv_lconst hx hb hdg rfl k) kk; exact fun _ => rfl
  case aconst_null => cases h; simp only [mm_len, beq_iff_eq] at hlen; subst hlen; refine push_W ?_ (fun lsr rest H locs cells slots k => lv_null hx hb hdg k) kk; exact fun _ => rfl
  case iload_n n => simp only [mm_len, beq_iff_eq] at hlen; subst hlen; exact ldI_W h (fun x lsr rest H locs cells slots q k => lv_iload_n hx hb hdg rfl q k) kk
  case iload n => simp only [mm_len, beq_iff_eq] at hlen; subst hlen; exact ldI_W h (fun x lsr rest H locs cells slots q k => lv_iload hx hb hdg q k) kk
  case lload_n n => simp only [mm_len, beq_iff_eq] at hlen; subst hlen; exact ldL_W h (fun x lsr rest H locs cells slots q k => lv_lload_n hx hb hdg rfl q k) kk
  case lload n => simp only [mm_len, beq_iff_eq] at hlen; subst hlen; exact ldL_W h (fun x lsr rest H locs cells slots q k => lv_lload hx hb hdg q k) kk
  case aload_n n => simp only [mm_len, beq_iff_eq] at hlen; subst hlen; exact ldA_W hvf h (fun x lsr rest H locs cells slots q k => lv_aload_n hx hb hdg rfl q k) (fun lsr rest H locs cells slots q k => lv_aload_nN hx hb hdg rfl q k) kk
  case aload n => simp only [mm_len, beq_iff_eq] at hlen; subst hlen; exact ldA_W hvf h (fun x lsr rest H locs cells slots q k => lv_aload hx hb hdg q k) (fun lsr rest H locs cells slots q k => lv_aloadN hx hb hdg q k) kk
  case istore_n n => simp only [mm_len, beq_iff_eq] at hlen; subst hlen; exact stI_W hvf h (fun x nL lv lsr rest H locs cells slots q q2 k => lv_istore_n hx hb hdg rfl q q2 rfl k) kk
  case istore n => simp only [mm_len, beq_iff_eq] at hlen; subst hlen; exact stI_W hvf h (fun x nL lv lsr rest H locs cells slots q q2 k => lv_istore hx hb hdg q q2 rfl k) kk
  case lstore_n n => simp only [mm_len, beq_iff_eq] at hlen; subst hlen; exact stL_W hvf h (fun x nL lv lsr rest H locs cells slots q q2 k => lv_lstore_n hx hb hdg rfl q q2 rfl k) kk
  case lstore n => simp only [mm_len, beq_iff_eq] at hlen; subst hlen; exact stL_W hvf h (fun x nL lv lsr rest H locs cells slots q q2 k => lv_lstore hx hb hdg q q2 rfl k) kk
  case astore_n n => simp only [mm_len, beq_iff_eq] at hlen; subst hlen; exact stA_W hvf h (fun x nL lv lsr rest H locs cells slots q q2 k => lv_astore_n hx hb hdg rfl q q2 rfl k) (fun nL lv lsr rest H locs cells slots q q2 k => lv_astore_nN hx hb hdg rfl q q2 rfl k) kk
  case astore n => simp only [mm_len, beq_iff_eq] at hlen; subst hlen; exact stA_W hvf h (fun x nL lv lsr rest H locs cells slots q q2 k => lv_astore hx hb hdg q q2 rfl k) (fun nL lv lsr rest H locs cells slots q q2 k => lv_astoreN hx hb hdg q q2 rfl k) kk
  case iinc k n =>
    simp only [mm_len, beq_iff_eq] at hlen; subst hlen
    unfold mm_step at h
    dsimp only at h
    split at h
    · next x hxk =>
      split at h
      · next l1 hp =>
        cases h
        intro ads ws tys lsr rs H locs he ⟨hpw, hP, hK, hD, hS, ⟨lv, hl1, hl2⟩, hst, hln⟩
        obtain ⟨r, g1, g2⟩ := hl2 k _ hxk (by intro z; cases z)
        cases g1
        obtain ⟨j, hj⟩ := List.getElem?_of_mem g2
        have hz := mm_put_len hp
        exact lv_iinc hx hb hdg hl1 hj rfl hz.1 rfl (fun lsr' z => mm_done kk he hpw hP hK hD hS (lr_put (fun v r => vr_cat hvf) hp rfl hl2 z) hst (by rw [hz.2]; exact hln))
      · cases h
    · cases h
  case iadd => simp only [mm_len, beq_iff_eq] at hlen; subst hlen; exact bin_W h (fun x y lsr rest H locs cells slots k => lv_iadd hx hb hdg k) kk
  case isub => simp only [mm_len, beq_iff_eq] at hlen; subst hlen; exact bin_W h (fun x y lsr rest H locs cells slots k => lv_isub hx hb hdg k) kk
  case imul => simp only [mm_len, beq_iff_eq] at hlen; subst hlen; exact bin_W h (fun x y lsr rest H locs cells slots k => lv_imul hx hb hdg k) kk
  case iand => simp only [mm_len, beq_iff_eq] at hlen; subst hlen; exact bin_W h (fun x y lsr rest H locs cells slots k => lv_iand hx hb hdg k) kk
  case ior => simp only [mm_len, beq_iff_eq] at hlen; subst hlen; exact bin_W h (fun x y lsr rest H locs cells slots k => lv_ior hx hb hdg k) kk
  case ixor => simp only [mm_len, beq_iff_eq] at hlen; subst hlen; exact bin_W h (fun x y lsr rest H locs cells slots k => lv_ixor hx hb hdg k) kk
  case ishl => simp only [mm_len, beq_iff_eq] at hlen; subst hlen; exact bin_W h (fun x y lsr rest H locs cells slots k => lv_ishl hx hb hdg k) kk
  case ishr => simp only [mm_len, beq_iff_eq] at hlen; subst hlen; exact bin_W h (fun x y lsr rest H locs cells slots k => lv_ishr hx hb hdg k) kk
  case iushr => simp only [mm_len, beq_iff_eq] at hlen; subst hlen; exact bin_W h (fun x y lsr rest H locs cells slots k => lv_iushr hx hb hdg rfl k) kk
  case idiv => simp only [mm_len, beq_iff_eq] at hlen; subst hlen; exact div_W h (fun x y lsr rest H locs cells slots z k => lv_idiv hx hb hdg z k) kk
  case irem => simp only [mm_len, beq_iff_eq] at hlen; subst hlen; exact div_W h (fun x y lsr rest H locs cells slots z k => lv_irem hx hb hdg z k) kk
  case ineg => simp only [mm_len, beq_iff_eq] at hlen; subst hlen; exact un_W h (fun _ _ => rfl) (fun x lsr rest H locs cells slots k => lv_ineg hx hb hdg k) kk
  case i2l => simp only [mm_len, beq_iff_eq] at hlen; subst hlen; exact un_W h (fun _ _ => rfl) (fun x lsr rest H locs cells slots k => lv_i2l hx hb hdg rfl k) kk
  case i2b => simp only [mm_len, beq_iff_eq] at hlen; subst hlen; exact un_W h (fun _ _ => rfl) (fun x lsr rest H locs cells slots k => lv_i2b hx hb hdg rfl k) kk
  case i2s => simp only [mm_len, beq_iff_eq] at hlen; subst hlen; exact un_W h (fun _ _ => rfl) (fun x lsr rest H locs cells slots k => lv_i2s hx hb hdg rfl k) kk
  case i2c => simp only [mm_len, beq_iff_eq] at hlen; subst hlen; exact un_W h (fun _ _ => rfl) (fun x lsr rest H locs cells slots k => lv_i2c hx hb hdg rfl k) kk
  case l2i =>
    simp only [mm_len, beq_iff_eq] at hlen; subst hlen
    unfold mm_step at h
    dsimp only at h
    split at h
    · cases h
      intro ads ws tys lsr rs H locs he ⟨hpw, hP, hK, hD, hS, hl, hst, hln⟩
      obtain ⟨k_, e_, hst⟩ := sr_l hst
      rw [e_]
      exact lv_l2i hx hb hdg rfl (mm_done kk he hpw hP hK hD hS hl ⟨rfl, hst⟩ hln)
    · cases h
  case ladd => simp only [mm_len, beq_iff_eq] at hlen; subst hlen; exact binL_W h (fun x y lsr rest H locs cells slots k => lv_ladd hx hb hdg k) kk
  case lsub => simp only [mm_len, beq_iff_eq] at hlen; subst hlen; exact binL_W h (fun x y lsr rest H locs cells slots k => lv_lsub hx hb hdg k) kk
  case lmul => simp only [mm_len, beq_iff_eq] at hlen; subst hlen; exact binL_W h (fun x y lsr rest H locs cells slots k => lv_lmul hx hb hdg k) kk
  case ldiv => simp only [mm_len, beq_iff_eq] at hlen; subst hlen; exact divL_W h (fun x y lsr rest H locs cells slots z k => lv_ldiv hx hb hdg z k) kk
  case lrem => simp only [mm_len, beq_iff_eq] at hlen; subst hlen; exact divL_W h (fun x y lsr rest H locs cells slots z k => lv_lrem hx hb hdg z k) kk
  case lcmp =>
    simp only [mm_len, beq_iff_eq] at hlen; subst hlen
    unfold mm_step at h
    dsimp only at h
    split at h
    · cases h
      intro ads ws tys lsr rs H locs he ⟨hpw, hP, hK, hD, hS, hl, hst, hln⟩
      obtain ⟨k_, e_, hst⟩ := sr_l hst
      rw [e_]
      obtain ⟨k_, e_, hst⟩ := sr_l hst
      rw [e_]
      exact W.lcmp hx hb hdg (mm_done kk he hpw hP hK hD hS hl ⟨rfl, hst⟩ hln)
    · cases h
  case dup =>
    simp only [mm_len, beq_iff_eq] at hlen; subst hlen
    unfold mm_step at h
    dsimp only at h
    split at h
    · split at h
      · next hc =>
        cases h
        intro ads ws tys lsr rs H locs he ⟨hpw, hP, hK, hD, hS, hl, hst, hln⟩
        obtain ⟨r, k_, e_, hv, hst⟩ := sr_v hst
        rw [e_]
        exact lv_dup hx hb hdg (by rw [vr_cat hvf hv]; exact hc) (mm_done kk he hpw hP hK hD hS hl ⟨hv, hv, hst⟩ hln)
      · cases h
    · cases h
  case dup_x1 =>
    simp only [mm_len, beq_iff_eq] at hlen; subst hlen
    unfold mm_step at h
    dsimp only at h
    split at h
    · split at h
      · next hc =>
        cases h
        intro ads ws tys lsr rs H locs he ⟨hpw, hP, hK, hD, hS, hl, hst, hln⟩
        obtain ⟨r, k_, e_, hv, hst⟩ := sr_v hst
        rw [e_]
        obtain ⟨r2, k_, e_, hv2, hst⟩ := sr_v hst
        rw [e_]
        exact lv_dup_x1 hx hb hdg (by rw [vr_cat hvf hv]; exact hc.1) (by rw [vr_cat hvf hv2]; exact hc.2) (mm_done kk he hpw hP hK hD hS hl ⟨hv, hv2, hv, hst⟩ hln)
      · cases h
    · cases h
  case pop =>
    simp only [mm_len, beq_iff_eq] at hlen; subst hlen
    unfold mm_step at h
    dsimp only at h
    split at h
    · split at h
      · next hc =>
        cases h
        intro ads ws tys lsr rs H locs he ⟨hpw, hP, hK, hD, hS, hl, hst, hln⟩
        obtain ⟨r, k_, e_, hv, hst⟩ := sr_v hst
        rw [e_]
        exact lv_pop hx hb hdg (by rw [vr_cat hvf hv]; exact hc) (mm_done kk he hpw hP hK hD hS hl hst hln)
      · cases h
    · cases h
  case ifCond cnd off =>
    simp only [mm_len, beq_iff_eq] at hlen; subst hlen
    unfold mm_step at h
    dsimp only at h
    split at h
    · next x r =>
      unfold mm_br at h
      split at h
      · next t ht =>
        have ht := br_at ht
        cases h
        intro ads ws tys lsr rs H locs he ⟨hpw, hP, hK, hD, hS, hl, hst, hln⟩
        obtain ⟨k_, e_, hst⟩ := sr_i hst
        rw [e_]
        have kw := mm_done kk he hpw hP hK hD hS hl hst hln
        cases cnd
        · exact lv_if_eq hx hb hdg ht (fun z => by rw [if_pos (by simp [mm_cond, z])] at kw; exact kw) (fun z => by rw [if_neg (by simp [mm_cond, z])] at kw; exact kw)
        · exact lv_if_ne hx hb hdg ht (fun z => by rw [if_pos (by simp [mm_cond, z])] at kw; exact kw) (fun z => by rw [if_neg (by simp [mm_cond, z])] at kw; exact kw)
        · exact lv_if_lt hx hb hdg ht (fun z => by rw [if_pos (by simp only [mm_cond, decide_eq_true_eq]; exact z)] at kw; exact kw) (fun z => by rw [if_neg (by simp only [mm_cond, decide_eq_true_eq]; exact z)] at kw; exact kw)
        · exact lv_if_ge hx hb hdg ht (fun z => by rw [if_pos (by simp only [mm_cond, decide_eq_true_eq]; exact z)] at kw; exact kw) (fun z => by rw [if_neg (by simp only [mm_cond, decide_eq_true_eq]; exact z)] at kw; exact kw)
        · exact lv_if_gt hx hb hdg ht (fun z => by rw [if_pos (by simp only [mm_cond, decide_eq_true_eq]; exact z)] at kw; exact kw) (fun z => by rw [if_neg (by simp only [mm_cond, decide_eq_true_eq]; exact z)] at kw; exact kw)
        · exact lv_if_le hx hb hdg ht (fun z => by rw [if_pos (by simp only [mm_cond, decide_eq_true_eq]; exact z)] at kw; exact kw) (fun z => by rw [if_neg (by simp only [mm_cond, decide_eq_true_eq]; exact z)] at kw; exact kw)
      · cases h
    · cases h
  case if_icmp cnd off =>
    simp only [mm_len, beq_iff_eq] at hlen; subst hlen
    unfold mm_step at h
    dsimp only at h
    split at h
    · next y x r =>
      unfold mm_br at h
      split at h
      · next t ht =>
        have ht := br_at ht
        cases h
        intro ads ws tys lsr rs H locs he ⟨hpw, hP, hK, hD, hS, hl, hst, hln⟩
        obtain ⟨k_, e_, hst⟩ := sr_i hst
        rw [e_]
        obtain ⟨k_, e_, hst⟩ := sr_i hst
        rw [e_]
        have kw := mm_done kk he hpw hP hK hD hS hl hst hln
        cases cnd
        · exact lv_icmp_eq hx hb hdg ht (fun z => by rw [if_pos (by simp [mm_cond, z])] at kw; exact kw) (fun z => by rw [if_neg (by simp [mm_cond, z])] at kw; exact kw)
        · exact lv_icmp_ne hx hb hdg ht (fun z => by rw [if_pos (by simp [mm_cond, z])] at kw; exact kw) (fun z => by rw [if_neg (by simp [mm_cond, z])] at kw; exact kw)
        · exact lv_icmp_lt hx hb hdg ht (fun z => by rw [if_pos (by simp only [mm_cond, decide_eq_true_eq]; exact z)] at kw; exact kw) (fun z => by rw [if_neg (by simp only [mm_cond, decide_eq_true_eq]; exact z)] at kw; exact kw)
        · exact lv_icmp_ge hx hb hdg ht (fun z => by rw [if_pos (by simp only [mm_cond, decide_eq_true_eq]; exact z)] at kw; exact kw) (fun z => by rw [if_neg (by simp only [mm_cond, decide_eq_true_eq]; exact z)] at kw; exact kw)
        · exact lv_icmp_gt hx hb hdg ht (fun z => by rw [if_pos (by simp only [mm_cond, decide_eq_true_eq]; exact z)] at kw; exact kw) (fun z => by rw [if_neg (by simp only [mm_cond, decide_eq_true_eq]; exact z)] at kw; exact kw)
        · exact lv_icmp_le hx hb hdg ht (fun z => by rw [if_pos (by simp only [mm_cond, decide_eq_true_eq]; exact z)] at kw; exact kw) (fun z => by rw [if_neg (by simp only [mm_cond, decide_eq_true_eq]; exact z)] at kw; exact kw)
      · cases h
    · cases h
  case ifnull off =>
    simp only [mm_len, beq_iff_eq] at hlen; subst hlen
    unfold mm_step at h
    dsimp only at h
    split at h
    · unfold mm_br at h
      split at h
      · next t ht =>
        have ht := br_at ht
        cases h
        intro ads ws tys lsr rs H locs he ⟨hpw, hP, hK, hD, hS, hl, hst, hln⟩
        obtain ⟨k_, e_, hst⟩ := sr_n hst
        rw [e_]
        exact lv_ifnullN hx hb hdg ht (mm_done kk he hpw hP hK hD hS hl hst hln)
      · cases h
    · unfold mm_br at h
      split at h
      · cases h
        intro ads ws tys lsr rs H locs he ⟨hpw, hP, hK, hD, hS, hl, hst, hln⟩
        obtain ⟨_, k_, e_, _, hst⟩ := sr_r hst
        rw [e_]
        exact lv_ifnull hx hb hdg (mm_done kk he hpw hP hK hD hS hl hst hln)
      · cases h
    · cases h
  case ifnonnull off =>
    simp only [mm_len, beq_iff_eq] at hlen; subst hlen
    unfold mm_step at h
    dsimp only at h
    split at h
    · unfold mm_br at h
      split at h
      · cases h
        intro ads ws tys lsr rs H locs he ⟨hpw, hP, hK, hD, hS, hl, hst, hln⟩
        obtain ⟨k_, e_, hst⟩ := sr_n hst
        rw [e_]
        exact lv_ifnonnullN hx hb hdg (mm_done kk he hpw hP hK hD hS hl hst hln)
      · cases h
    · unfold mm_br at h
      split at h
      · next t ht =>
        have ht := br_at ht
        cases h
        intro ads ws tys lsr rs H locs he ⟨hpw, hP, hK, hD, hS, hl, hst, hln⟩
        obtain ⟨_, k_, e_, _, hst⟩ := sr_r hst
        rw [e_]
        exact lv_ifnonnull hx hb hdg ht (mm_done kk he hpw hP hK hD hS hl hst hln)
      · cases h
    · cases h
  case goto off =>
    simp only [mm_len, beq_iff_eq] at hlen; subst hlen
    unfold mm_step at h
    dsimp only at h
    unfold mm_br at h
    split at h
    · next t ht =>
      have ht := br_at ht
      cases h
      intro ads ws tys lsr rs H locs he ⟨hpw, hP, hK, hD, hS, hl, hst, hln⟩
      exact lv_goto hx hb hdg ht (mm_done kk he hpw hP hK hD hS hl hst hln)
    · cases h
  case tableswitch df lo hi offs =>
    unfold mm_step at h
    dsimp only at h
    split at h
    · next x r =>
      split at h
      · next ho =>
        unfold mm_br at h
        split at h
        · next t ht =>
          have ht := br_at ht
          cases h
          intro ads ws tys lsr rs H locs he ⟨hpw, hP, hK, hD, hS, hl, hst, hln⟩
          obtain ⟨k_, e_, hst⟩ := sr_i hst
          rw [e_]
          exact lv_tableOut hx hb hdg ho ht (mm_done kk he hpw hP hK hD hS hl hst hln)
        · cases h
      · next ho =>
        split at h
        · next off hof =>
          unfold mm_br at h
          split at h
          · next t ht =>
            have ht := br_at ht
            cases h
            intro ads ws tys lsr rs H locs he ⟨hpw, hP, hK, hD, hS, hl, hst, hln⟩
            obtain ⟨k_, e_, hst⟩ := sr_i hst
            rw [e_]
            exact lv_tableIn hx hb hdg (fun z => ho (Or.inl z)) (fun z => ho (Or.inr z)) hof ht (mm_done kk he hpw hP hK hD hS hl hst hln)
          · cases h
        · cases h
    · cases h
  case lookupswitch df ps =>
    unfold mm_step at h
    dsimp only at h
    split at h
    · next x r =>
      split at h
      · next ho =>
        unfold mm_br at h
        split at h
        · next t ht =>
          have ht := br_at ht
          cases h
          intro ads ws tys lsr rs H locs he ⟨hpw, hP, hK, hD, hS, hl, hst, hln⟩
          obtain ⟨k_, e_, hst⟩ := sr_i hst
          rw [e_]
          exact lv_lookup hx hb hdg ho rfl ht (mm_done kk he hpw hP hK hD hS hl hst hln)
        · cases h
      · cases h
    · cases h
  case getfield idx => simp only [mm_len, beq_iff_eq] at hlen; subst hlen; exact gf_W h hx hb hts hown hW hdg kk
  case putfield idx => simp only [mm_len, beq_iff_eq] at hlen; subst hlen; exact pf_W h hx hb hts hown hW hini hdg kk
  case getstatic idx => simp only [mm_len, beq_iff_eq] at hlen; subst hlen; exact gs_W h hx hb hts hown hW hdg kk
  case iaload => simp only [mm_len, beq_iff_eq] at hlen; subst hlen; exact ial_W h hx hb hW hdg kk
  case baload => simp only [mm_len, beq_iff_eq] at hlen; subst hlen; exact bal_W h hx hb hW hdg kk
  case aaload => simp only [mm_len, beq_iff_eq] at hlen; subst hlen; exact aal_W h hx hb hdg kk
  case iastore => simp only [mm_len, beq_iff_eq] at hlen; subst hlen; exact ias_W h hx hb hdg kk
  case bastore => simp only [mm_len, beq_iff_eq] at hlen; subst hlen; exact bas_W h hx hb hdg kk
  case aastore => simp only [mm_len, beq_iff_eq] at hlen; subst hlen; exact aas_W h hx hb hdg kk
  case arraylength => simp only [mm_len, beq_iff_eq] at hlen; subst hlen; exact aln_W h hx hb hW hdg kk
  case new idx => simp only [mm_len, beq_iff_eq] at hlen; subst hlen; exact new_W h hx hb hts hown hbs hn6 hdg kk
  case newarray t => simp only [mm_len, beq_iff_eq] at hlen; subst hlen; exact nwa_W h hx hb hts hbs hn6 hdg kk
  case anewarray idx => simp only [mm_len, beq_iff_eq] at hlen; subst hlen; exact ana_W h hx hb hts hown hW hbs hn6 hdg kk
  case ldc idx =>
    simp only [mm_len, beq_iff_eq] at hlen; subst hlen
    unfold mm_step at h
    dsimp only at h
    split at h
    · next q hq =>
      cases h
      obtain ⟨h1, h2⟩ := mm_find_in hq
      simp only [Bool.and_eq_true, beq_iff_eq] at h2
      have h3 := mm_wa_in (List.all_eq_true.mp mm_okk_all q h1)
      rw [h2.1, h2.2] at h3
      refine push_W ?_ (fun lsr rest H locs cells slots k => lv_ldc hx hb hown (hts _ h3) hdg k) kk; exact fun _ => rfl
    · split at h
      · next q hq =>
        cases h
        obtain ⟨h1, h2⟩ := mm_find_in hq
        simp only [Bool.and_eq_true, beq_iff_eq] at h2
        have h3 := List.all_eq_true.mp mm_oks_all q h1
        simp only [Bool.and_eq_true, decide_eq_true_eq] at h3
        have hv := hW.2.2.2.2.2.2.1 q h1
        rw [h2.1, h2.2] at hv
        intro ads ws tys lsr rs H locs he ⟨hpw, hP, hK, hD, hS, hl, hst, hln⟩
        exact va_ldcS hx hb hown hv hdg (mm_done kk he hpw hP hK hD hS hl ⟨Or.inl ⟨h3.1, rfl⟩, hst⟩ hln)
      · cases h
  case ldc_w idx =>
    simp only [mm_len, beq_iff_eq] at hlen; subst hlen
    unfold mm_step at h
    dsimp only at h
    split at h
    · next q hq =>
      cases h
      obtain ⟨h1, h2⟩ := mm_find_in hq
      simp only [Bool.and_eq_true, beq_iff_eq] at h2
      have h3 := mm_wa_in (List.all_eq_true.mp mm_okk_all q h1)
      rw [h2.1, h2.2] at h3
      refine push_W ?_ (fun lsr rest H locs cells slots k => lv_ldcw hx hb hown (hts _ h3) hdg k) kk; exact fun _ => rfl
    · cases h
  case ldc2_w idx =>
    simp only [mm_len, beq_iff_eq] at hlen; subst hlen
    unfold mm_step at h
    dsimp only at h
    split at h
    · next q hq =>
      cases h
      obtain ⟨h1, h2⟩ := mm_find_in hq
      simp only [Bool.and_eq_true, beq_iff_eq] at h2
      have h3 := mm_wa_in (List.all_eq_true.mp mm_okl_all q h1)
      rw [h2.1, h2.2] at h3
      refine push_W ?_ (fun lsr rest H locs cells slots k => lv_ldc2 hx hb hown (hts _ h3) hdg k) kk; exact fun _ => rfl
    · cases h
  case invokestatic idx => simp only [mm_len, beq_iff_eq] at hlen; subst hlen; exact mat_W hvf h hx hb hts hown ⟨hr1, hr2⟩ ⟨hn.2.2.1, hn.2.2.2, hr3, hr4⟩ hdg kk
  case invokespecial idx => simp only [mm_len, beq_iff_eq] at hlen; subst hlen; exact obj_W hvf ⟨hr1, hr2⟩ h hx hb hts hown hdg kk
  all_goals exact absurd h (by intro z; cases z)
end SNR
end
section
/-! CALLS, AND WHOLE RUNS -/
section SNC
variable {base : Nat} {adK adV : Nat → Nat} {vf : Value} {b L : Nat} {xs : Nat → Int32} {D : va_G} {l : Launch}
theorem mm_chin (k : Nat) : ∀ w ∈ mm_ch k, w ∈ lw_tbl := by
  intro w hw
  have h : w ∈ tables_1 := by
    unfold tables_1
    simp only [List.mem_append]
    unfold mm_ch at hw
    split at hw
    · exact Or.inl hw
    · exact Or.inr (Or.inl hw)
    · exact Or.inr (Or.inr (Or.inl hw))
    · exact Or.inr (Or.inr (Or.inr (Or.inl hw)))
    · exact Or.inr (Or.inr (Or.inr (Or.inr (Or.inl hw))))
    · exact Or.inr (Or.inr (Or.inr (Or.inr (Or.inr hw))))
  exact List.mem_append_right _ h
theorem mm_meth {m : Nat} {q : mm_MT} (hq : mm_tab[m]? = some q) (hl : m ≠ mm_law) : Cond.code q.1 q.2.1 q.2.2.1 q.2.2.2.1 ∈ mm_ws ∧ Cond.initialized q.1.cls ∈ mm_ws ∧ (if q.2.2.2.2.2.2 = 1 then Cond.static q.1 else Cond.instanceMethod q.1) ∈ mm_ws ∧ (q.2.2.2.2.2.2 = 0 → Cond.selects q.1.cls q.1 q.1 ∈ mm_ws) ∧ plainName q.1.cls = true ∧ mm_c q.2.2.2.2.1 = q.1.cls ∧
    (parseMethodDescriptor q.1.desc).map (fun d => d.parameters.length) = some q.2.2.2.2.2.1 ∧ q.1.cls ≠ "java/lang/invoke/MethodHandle" ∧ q.1.cls ≠ "java/lang/invoke/VarHandle" ∧ q.2.2.1 ≤ 40 ∧ (q.2.2.2.2.2.2 = 2 → q.1.name = "<init>" ∧ q.2.2.2.1 = none) := by
  have hlen := mm_src_len
  have hm : m < (mm_src.map mm_get).length := by
    have h1 := (List.getElem?_eq_some_iff.mp hq).1
    unfold mm_tab at h1
    rw [List.length_append] at h1
    simp only [List.length_map, List.length_cons, List.length_nil] at h1 ⊢
    omega
  unfold mm_tab at hq
  rw [List.getElem?_append_left hm] at hq
  rw [List.getElem?_map] at hq
  cases hs : mm_src[m]? with
  | none => rw [hs] at hq; cases hq
  | some s =>
    rw [hs] at hq
    have hq : mm_get s = q := Option.some.inj hq
    have hok := mm_okm_all s (List.mem_of_getElem? hs)
    have hcode : q.2.2.2.2.2.2 ≤ 2 → Cond.code q.1 q.2.1 q.2.2.1 q.2.2.2.1 ∈ mm_ws := by
      intro hk
      unfold mm_get at hq
      split at hq
      · next y b n r hc =>
        subst hq
        exact List.mem_filter.mpr ⟨mm_chin _ _ (List.mem_of_getElem? hc), rfl⟩
      · subst hq
        exact absurd hk (by decide)
    unfold mm_okm at hok
    rw [hq] at hok
    obtain ⟨y, cc, n, r, c, np, kd⟩ := q
    simp only [Bool.and_eq_true, Bool.or_eq_true, decide_eq_true_eq, bne_iff_ne] at hok
    obtain ⟨⟨h1, h2, h3, h4, h5, h6, h7, h8, h9, h10⟩, h11⟩ := hok
    refine ⟨hcode h11, mm_wa_in h1, mm_wa_in h2, fun hk => ?_, h4, h5, h6, h7, h8, h9, fun hk => ?_⟩
    · rcases h3 with h3 | h3
      · exact absurd hk h3
      · exact mm_wa_in h3
    · rcases h10 with h10 | h10
      · exact absurd hk h10
      · exact h10
theorem mm_ctf_of {mm idx : Nat} {q : Nat × Nat × Nat × Bool × Nat} (h : mm_ctf mm idx = some q) {r : mm_MT} (hr : mm_tab[q.2.2.1]? = some r) :
    if q.2.2.2.1 = true then Cond.methodLinkNest (mm_c (mm_cl mm)) idx r.1 "MendedWithTheWord" ∈ lw_tbl else Cond.methodLink (mm_c (mm_cl mm)) idx r.1 ∈ mm_ws := by
  obtain ⟨h1, h2⟩ := mm_find_in h
  simp only [Bool.and_eq_true, beq_iff_eq] at h2
  have h3 := mm_okc_all q h1
  unfold mm_okc at h3
  rw [hr] at h3
  dsimp only at h3
  rw [h2.1, h2.2] at h3
  split
  · next hn => rw [if_pos hn] at h3; exact List.mem_of_getElem? (of_decide_eq_true h3)
  · next hn => rw [if_neg hn] at h3; exact mm_wa_in h3
theorem mm_good : ∀ w ∈ mm_ws, w ∈ mm_ws ∧ ((w.onTables && w.keeps) = true ∨ ∃ ty, w = .arrayClass ty) := fun w hw => ⟨hw, good_of_word (List.mem_filter.mp hw).2⟩
theorem mm_goodc {y : MethodName} {cc : ByteArray} {n : Nat} {r : Option FieldType} (h : Cond.code y cc n r ∈ mm_ws) : GoodIn mm_ws (.code y cc n r :: mm_ws) := fun w hw => by
  rcases List.mem_cons.mp hw with rfl | hw
  · exact mm_good _ h
  · exact mm_good w hw
abbrev mm_S : Type := List Nat × va_W × List (ClassId × FieldType)
def mm_Pc (base : Nat) (adK adV : Nat → Nat) (vf : Value) (b L : Nat) (xs : Nat → Int32) (D : va_G) (ras : List Value) (ws : va_W) (tys : List (ClassId × FieldType)) : Array Value → State → Prop :=
  va_Pc ras (fun U => sw_W base adK adV vf b L xs U U.heap ∧ va_P D vwCl ws U.heap ∧ va_K D vwCl tys U ∧ va_D (fun q => base ≤ q) ws)
def mm_B (base : Nat) (D : va_G) (u : mm_S) (t : State) : Prop := va_P D vwCl u.2.1 t.heap ∧ va_K D vwCl u.2.2 t ∧ va_D (fun q => base ≤ q) u.2.1
def mm_po (adK adV : Nat → Nat) (vf : Value) (b : Nat) (ads : List Nat) (M : mm_H) (u : mm_S) : Prop := ex_t ads u.1 ∧ pw (vr vf b adK adV u.1) u.1 u.2.1 u.2.2 M
def mm_Qc (base : Nat) (adK adV : Nat → Nat) (vf : Value) (b : Nat) (D : va_G) (ads : List Nat) (M : mm_H) (r : Option Value) : Array Value → State → Outcome → State → Prop := match r with
  | none => va_Qv (mm_po adK adV vf b ads M) (mm_B base D) (fun q => base ≤ q)
  | some (.int x) => va_Qi (fun r u => r = x ∧ mm_po adK adV vf b ads M u) (mm_B base D) (fun q => base ≤ q)
  | some (.long x) => va_Ql (fun r u => r = x ∧ mm_po adK adV vf b ads M u) (mm_B base D) (fun q => base ≤ q)
  | some v => va_Qq (fun r u => vr vf b adK adV u.1 v (va_rf r) ∧ mm_po adK adV vf b ads M u) (mm_B base D) (fun q => base ≤ q)
/-- what a method's body is asked: for every caller -/
def mm_all (base : Nat) (adK adV : Nat → Nat) (vf : Value) (b L : Nat) (xs : Nat → Int32) (D : va_G) (l : Launch) (d mm pc : Nat) (ls st : List Value) (M : mm_H) (r : Option Value) (M' : mm_H) : Prop :=
  ∀ (p : Program) (e : Env) (R : Room) (s : State) (m : MethodId) (args : Array Value) (below : List Frame) (meth : Method) (c : Code) (Q : State → Prop) (n0 z0 nf zf : Nat) (ads0 : List Nat), mm_cx base adK adV vf b L xs p R s m args meth c d mm n0 z0 nf zf → n0 ≤ gN M → z0 ≤ gZ M → gN M' ≤ nf → gZ M' ≤ zf →
    (∀ (pc : Nat) (i : Instr) (len : Nat) (ls' st' : List Value), mm_I mm pc = some (i, len) → mm_len i len = true → mm_ret mm i st' = some r → mm_kk base adK adV vf b D p l e R s m args below meth c Q n0 z0 ads0 pc ls' st' M') →
    mm_kk base adK adV vf b D p l e R s m args below meth c Q n0 z0 ads0 pc ls st M
theorem vr_nodouble (ads : List Nat) : ∀ x r, ¬ vr vf b adK adV ads (.double x) r := fun _ _ h => h
/-- a method of the list by its contract -/
theorem mm_met {d mm : Nat} {q : mm_MT} {as l0 ras : List Value} {M M' : mm_H} {r : Option Value} {ads : List Nat} {ws : va_W} {tys : List (ClassId × FieldType)} (hq : mm_tab[mm]? = some q) (hl : mm ≠ mm_law) (he : mm_ent mm as = some l0) (hall : mm_all base adK adV vf b L xs D l d mm 0 l0 [] M r M') (hmo : gN M ≤ gN M' ∧ gZ M ≤ gZ M')
    (hpw : pw (vr vf b adK adV ads) ads ws tys M) (har : sr (vr vf b adK adV ads) as ras) (hvf : vf = .null ∨ ∃ t, vf = .ref t) :
    Met l q.1 (.code q.1 q.2.1 q.2.2.1 q.2.2.2.1 :: mm_ws) { frames := d, cells := gN M' - gN M, slots := gZ M' - gZ M, locals := 80 * d } (mm_Pc base adK adV vf b L xs D ras ws tys) (mm_Qc base adK adV vf b D ads M' r) (gN M' - gN M) (gZ M' - gZ M) (fun q => base ≤ q) := by
  obtain ⟨w1, w2, w3, w4, w5, w6, w7, w8, w9, w10, w11⟩ := mm_meth hq hl
  refine Met.ofW (cc := q.2.1) (maxL := q.2.2.1) (ret := q.2.2.2.1) w5 rfl ?_
  intro p e s m args below meth c s₁ B hml hv
  obtain ⟨rfl, hW, hP, hK, hD⟩ := hv
  have hx := B.exec
  have hb := B.bytes
  have hr := B.returns
  have hts := atoms_spec (ws := .code q.1 q.2.1 q.2.2.1 q.2.2.2.1 :: mm_ws) B.pre
  have hown : s.vm.findClass q.1.cls = some m.cls := findClass_of_methodNamed B.named
  have hcl : mm_c (mm_cl mm) = q.1.cls := by unfold mm_cl; rw [hq]; exact w6
  have hname : meth.name = q.1.name := (name_of_methodNamed B.named B.method).1
  rw [lg_entry_eq]
  have hle : (mm_ex as).length ≤ q.2.2.1 ∧ l0 = mm_ex as ++ List.replicate (q.2.2.1 - (mm_ex as).length) mm_U := by
    unfold mm_ent at he
    rw [hq] at he
    dsimp only at he
    split at he
    · next hc => exact ⟨hc, (Option.some.inj he).symm⟩
    · cases he
  obtain ⟨hle, rfl⟩ := hle
  have hlr := lr_entry (V := vr vf b adK adV ads) (fun v r => vr_cat hvf) (vr_nodouble ads) har hle
  have hlocks := B.notSynchronized
  have K := hall p e (headSpec (.code q.1 q.2.1 q.2.2.1 q.2.2.2.1 :: mm_ws) { frames := d, cells := gN M' - gN M, slots := gZ M' - gZ M, locals := 80 * d }).room s m ras.toArray below meth c (MQ below (mm_Qc base adK adV vf b D ads M' r) ras.toArray s (gN M' - gN M) (gZ M' - gZ M) (fun q => base ≤ q)) (gN M) (gZ M) (gN M') (gZ M') ads
    ⟨hx, ⟨q, hq, hb, hml⟩, by rw [hcl]; exact hown, fun w hw => hts w (List.mem_cons_of_mem _ hw), hW, fun hi => by
      rw [hname]
      unfold mm_ini at hi
      rw [hq] at hi
      exact (w11 (by simpa using hi)).1, Nat.le_refl d, Nat.le_refl (80 * d), Nat.le_refl _, Nat.le_refl _⟩ (Nat.le_refl _) (Nat.le_refl _) (Nat.le_refl _) (Nat.le_refl _) ?_
    ads ws tys _ [] s.heap [] (ex_refl ads) ⟨hpw, hP, hK, hD, va_S.rf, hlr, True.intro, by rw [hml]; simp; omega⟩
  · rw [Nat.sub_self, Nat.sub_self] at K
    exact K
  · intro pc i len ls' st' hI hlen hret ads' ws' tys' lsr rs H locs hex ⟨hpw, hP, hK, hD, hS, hl, hst, hln⟩
    have hdg := mm_I_of hI hq
    unfold mm_ret at hret
    rw [hq] at hret
    dsimp only at hret
    split at hret
    · split at hret
      · next hn =>
        cases hret
        simp only [mm_len, beq_iff_eq] at hlen
        subst hlen
        cases rs with
        | cons a k => exact hst.elim
        | nil => exact W.vret hx hb (hr.trans hn) (fun t ht hW => ⟨⟨(ads', ws', tys'), rfl, ⟨hex, hpw⟩, by rw [ht]; exact hP, va_K.moved hW.alike hK, hD⟩, hS.F ht⟩) hS.2.2 hdg
      · cases hret
    · split at hret
      · next ty hty =>
        split at hret
        · next hn =>
          cases hret
          simp only [mm_len, beq_iff_eq] at hlen
          subst hlen
          obtain ⟨k_, e_, hst⟩ := sr_i hst
          cases k_ with
          | cons a k => exact hst.elim
          | nil =>
            rw [e_]
            exact W.zret hx hb (hr.trans hty) hn.1 (fun t ht hW => ⟨⟨_, (ads', ws', tys'), rfl, ⟨rfl, hex, hpw⟩, by rw [ht]; exact hP, va_K.moved hW.alike hK, hD⟩, hS.F ht⟩) hS.2.2 hdg
        · cases hret
      · cases hret
    · split at hret
      · next hn =>
        cases hret
        simp only [mm_len, beq_iff_eq] at hlen
        subst hlen
        obtain ⟨k_, e_, hst⟩ := sr_l hst
        cases k_ with
        | cons a k => exact hst.elim
        | nil =>
          rw [e_]
          exact W.lret hx hb (hr.trans hn) (fun t ht hW => ⟨⟨_, (ads', ws', tys'), rfl, ⟨rfl, hex, hpw⟩, by rw [ht]; exact hP, va_K.moved hW.alike hK, hD⟩, hS.F ht⟩) hS.2.2 hdg
      · cases hret
    · split at hret
      · next ty hty =>
        split at hret
        · next hn =>
          cases hret
          simp only [mm_len, beq_iff_eq] at hlen
          subst hlen
          obtain ⟨a, k_, e_, ha, hst⟩ := sr_r hst
          cases k_ with
          | cons a k => exact hst.elim
          | nil =>
            rw [e_]
            exact W.aret hx hb (hr.trans hty) (by cases ty <;> first | exact Or.inl ⟨_, rfl⟩ | exact Or.inr ⟨_, rfl⟩ | (exact absurd hn Bool.false_ne_true)) (Or.inr ⟨a, rfl⟩) (fun t ht hW => ⟨⟨some a, (ads', ws', tys'), rfl, ⟨⟨a, ha, rfl⟩, hex, hpw⟩, by rw [ht]; exact hP, va_K.moved hW.alike hK, hD⟩, hS.F ht⟩) hS.2.2 hdg
        · cases hret
      · cases hret
    · split at hret
      · next ty hty =>
        split at hret
        · next hn =>
          cases hret
          simp only [mm_len, beq_iff_eq] at hlen
          subst hlen
          obtain ⟨k_, e_, hst⟩ := sr_n hst
          cases k_ with
          | cons a k => exact hst.elim
          | nil =>
            rw [e_]
            exact W.aret hx hb (hr.trans hty) (by cases ty <;> first | exact Or.inl ⟨_, rfl⟩ | exact Or.inr ⟨_, rfl⟩ | (exact absurd hn Bool.false_ne_true)) (Or.inl rfl) (fun t ht hW => ⟨⟨none, (ads', ws', tys'), rfl, ⟨rfl, hex, hpw⟩, by rw [ht]; exact hP, va_K.moved hW.alike hK, hD⟩, hS.F ht⟩) hS.2.2 hdg
        · cases hret
      · cases hret
    · cases hret
end SNC
end
section
/-! CALLS -/
section SNK
variable {base : Nat} {adK adV : Nat → Nat} {vf : Value} {b L : Nat} {xs : Nat → Int32} {D : va_G} {l : Launch}
variable {p : Program} {e : Env} {R : Room} {s : State} {m : MethodId} {args : Array Value} {below : List Frame} {meth : Method} {c : Code} {Q : State → Prop}
/-- behind a call -/
theorem back_W {n0 z0 pc : Nat} {ads0 ads : List Nat} {ls rest rr st0 : List Value} {M M1 : mm_H} {lsr : Array Slot} {H : Heap} {locs : List Loc} {r : Option Value} {a : Array Value}
    (hrun : va_Run p l e R s m args below meth c H locs (gN M - n0) (gZ M - z0) (gN M1 - gN M) (gZ M1 - gZ M) (F0 m pc lsr st0) rr (mm_Qc base adK adV vf b D ads M1 r a) (fun q => base ≤ q)) (hS : va_S (fun q => base ≤ q) s.heap H locs) (hl : lr (vr vf b adK adV ads) ls lsr) (hln : ls.length = c.maxLocals) (hst : sr (vr vf b adK adV ads) rest rr) (he : ex_t ads0 ads)
    (hn : n0 ≤ gN M ∧ z0 ≤ gZ M) (hmo : gN M ≤ gN M1 ∧ gZ M ≤ gZ M1) (kk : mm_kk base adK adV vf b D p l e R s m args below meth c Q n0 z0 ads0 (pc + 3) ls (r.toList ++ rest) M1) : W p l e R s m args below meth c H locs (gN M - n0) (gZ M - z0) Q (F0 m pc lsr st0) := by
  have e1 : gN M - n0 + (gN M1 - gN M) = gN M1 - n0 := by omega
  have e2 : gZ M - z0 + (gZ M1 - gZ M) = gZ M1 - z0 := by omega
  have fin : ∀ (u : mm_S) (t : State) (H1 : Heap) (locs1 : List Loc) (rs : List Value), t.heap = H1 → s.vm.Alike t.vm → mm_po adK adV vf b ads M1 u → mm_B base D u t → va_S (fun q => base ≤ q) s.heap H1 locs1 → sr (vr vf b adK adV u.1) (r.toList ++ rest) rs → W p l e R s m args below meth c H1 locs1 (gN M - n0 + (gN M1 - gN M)) (gZ M - z0 + (gZ M1 - gZ M)) Q (F0 m (pc + 3) lsr rs) := by
    intro u t H1 locs1 rs ht hvm hp hB hS hs
    rw [e1, e2]
    exact kk u.1 u.2.1 u.2.2 lsr rs H1 locs1 (ex_trans he hp.1) ⟨hp.2, by rw [← ht]; exact hB.1, va_K.moved hvm.symm hB.2.1, hB.2.2, hS, lr_ext hp.1 hl, hs, hln⟩
  cases r with
  | none => exact va_callv (S := mm_S) (a := a) hrun hS (fun q _ h => h) (fun q h => h) (fun u t H1 locs1 ht hvm hp hB hz hk hS => fin u t H1 locs1 _ ht hvm hp hB hS (sr_ext hp.1 hst))
  | some v =>
    cases v with
    | int x => exact va_calli (S := mm_S) (a := a) hrun hS (fun q _ h => h) (fun q h => h) (fun r u t H1 locs1 ht hvm hp hB hz hk hS => fin u t H1 locs1 _ ht hvm hp.2 hB hS ⟨by rw [hp.1]; rfl, sr_ext hp.2.1 hst⟩)
    | long x => exact va_calll (S := mm_S) (a := a) hrun hS (fun q _ h => h) (fun q h => h) (fun r u t H1 locs1 ht hvm hp hB hz hk hS => fin u t H1 locs1 _ ht hvm hp.2 hB hS ⟨by rw [hp.1]; rfl, sr_ext hp.2.1 hst⟩)
    | _ => exact va_callq (S := mm_S) (a := a) hrun hS (fun q _ h => h) (fun q h => h) (fun r u t H1 locs1 ht hvm hp hB hz hk hS => fin u t H1 locs1 _ ht hvm hp.2 hB hS ⟨hp.1, sr_ext hp.2.1 hst⟩)
theorem mm_Pc_blind {ras : List Value} {ws : va_W} {tys : List (ClassId × FieldType)} : FrameBlind (mm_Pc base adK adV vf b L xs D ras ws tys) := fun a U g mk q => by
  obtain ⟨q0, q1, q2, q3, q4⟩ := q
  exact ⟨q0, sw_same (u := U) (U := U.calling g mk a) rfl q1, q2, va_K.moved (u := U) (U := U.calling g mk a) (Vm.Alike.refl U.vm) q3, q4⟩
theorem mm_Pc_at {ras : List Value} {ws : va_W} {tys : List (ClassId × FieldType)} {H : Heap} {locs : List Loc} (hW : sw_W base adK adV vf b L xs s s.heap) (hS : va_S (fun q => base ≤ q) s.heap H locs) (hP : va_P D vwCl ws H) (hK : va_K D vwCl tys s) (hD : va_D (fun q => base ≤ q) ws) : ∀ U : State, U.heap = H → s.WarmedH U.vm → mm_Pc base adK adV vf b L xs D ras ws tys ras.toArray U := by
  intro U hU hwm
  refine ⟨rfl, ?_, by rw [hU]; exact hP, va_K.moved hwm.alike hK, hD⟩
  rw [hU]
  exact sw_warm hwm (Nat.le_trans hW.2.2.2.2.2.2.2.2.2.1 hS.1) hS.2.1 hW
theorem mm_split {np : Nat} {st : List Value} {v : Value} {rest : List Value} {rs : List Value} {V : Value → Value → Prop} (h : st.drop np = v :: rest) (hs : sr V st rs) : ∃ rv rr, rs = rs.take np ++ rv :: rr ∧ V v rv ∧ sr V rest rr ∧ sr V (st.take np) (rs.take np) := by
  have h1 := sr_drop np hs
  rw [h] at h1
  obtain ⟨rv, rr, e1, e2, e3⟩ := sr_v h1
  exact ⟨rv, rr, by rw [← e1, List.take_append_drop], e2, e3, sr_take np hs⟩
theorem call_W {d mm m' pc len n0 z0 nf zf : Nat} {i : Instr} {ads0 : List Nat} {ls st as rest l0 : List Value} {M M1 : mm_H} {r : Option Value} (hcx : mm_cx base adK adV vf b L xs p R s m args meth c (d + 1) mm n0 z0 nf zf) (hI : mm_I mm pc = some (i, len)) (hlen : mm_len i len = true) (h : mm_call mm i st M = some (m', as, rest)) (he0 : mm_ent m' as = some l0) (hall : mm_all base adK adV vf b L xs D l d m' 0 l0 [] M r M1)
    (hmo : gN M ≤ gN M1 ∧ gZ M ≤ gZ M1) (hn : n0 ≤ gN M ∧ z0 ≤ gZ M ∧ gN M1 ≤ nf ∧ gZ M1 ≤ zf) (kk : mm_kk base adK adV vf b D p l e R s m args below meth c Q n0 z0 ads0 (pc + 3) ls (r.toList ++ rest) M1) : mm_kk base adK adV vf b D p l e R s m args below meth c Q n0 z0 ads0 pc ls st M := by
  obtain ⟨hx, ⟨q0, hq0, hb, hml⟩, hown, hts, hW, hini, hr1, hr2, hr3, hr4⟩ := hcx
  have hdg := mm_I_of hI hq0
  have hvf : vf = .null ∨ ∃ t, vf = .ref t := hW.2.2.2.2.2.2.2.2.2.2
  have hcat : ∀ (ads : List Nat) (v r : Value), vr vf b adK adV ads v r → r.category = v.category := fun ads v r => vr_cat hvf
  unfold mm_call at h
  cases i
  case invokestatic idx =>
    simp only [mm_len, beq_iff_eq] at hlen
    subst hlen
    dsimp only at h
    split at h
    · next q hq =>
      split at h
      · next y hy =>
        split at h
        · next hc =>
          obtain ⟨hk, hnp, hcs, hlaw⟩ := hc
          cases h
          obtain ⟨w1, w2, w3, w4, w5, w6, w7, w8, w9, w10, w11⟩ := mm_meth hy hlaw
          rw [if_pos hk] at w3
          have hlk := mm_ctf_of hq hy
          intro ads ws tys lsr rs H locs he ⟨hpw, hP, hK, hD, hS, hl, hst, hln⟩
          have ha : sr (vr vf b adK adV ads) (st.take y.2.2.2.2.2.1).reverse (rs.take y.2.2.2.2.2.1).reverse := sr_rev (sr_take _ hst)
          have hM := mm_met (ras := (rs.take y.2.2.2.2.2.1).reverse) (ws := ws) (tys := tys) hy hlaw he0 hall hmo hpw ha hvf
          have hl9 : lsr.size = c.maxLocals := by obtain ⟨lv, z, -⟩ := hl; rw [z.1]; exact hln
          have hrl : rs.length = st.length := (sr_len hst).symm
          have hroom : d + 1 ≤ R.frames ∧ 8 + (y.2.2.1 + 11) + 80 * d ≤ R.locals := ⟨hr1, by omega⟩
          have hcs' : (((rs.drop y.2.2.2.2.2.1).map fun v => v.category).sum) ≤ 8 := by rw [sr_cs (hcat ads) (sr_drop _ hst)]; exact hcs
          split at hlk
          · have hnw := hW.2.2.2.1 _ hlk rfl
            exact back_W (va_runSN (As := (rs.take y.2.2.2.2.2.1).reverse) (rest := rs.drop y.2.2.2.2.2.1) ⟨hx, hb, rfl, hown, hts⟩ hM ⟨va_cnB y.2.2.2.2.2.1 hts (mm_goodc w1) rfl rfl rfl hnw (hts _ w2) ⟨w8, w9, w7⟩ hroom, hts _ w3, True.intro⟩ ⟨mm_Pc_blind, mm_Pc_at hW hS hP hK hD⟩ rfl (by simp; omega) hl9 (by simp) (lv_room hcs') hdg ⟨by show gN M - n0 + (gN M1 - gN M) ≤ _; omega, by show gZ M - z0 + (gZ M1 - gZ M) ≤ _; omega⟩) hS hl hln (sr_drop _ hst) he ⟨hn.1, hn.2.1⟩ hmo kk
          · exact back_W (va_runS (As := (rs.take y.2.2.2.2.2.1).reverse) (rest := rs.drop y.2.2.2.2.2.1) ⟨hx, hb, rfl, hown, hts⟩ hM (va_cwS y.2.2.2.2.2.1 hts (fun w hw => by
              unfold va_wsS at hw
              rcases List.mem_append.mp hw with hw | hw
              · simp only [List.mem_cons, List.not_mem_nil, or_false] at hw
                rcases hw with rfl | rfl | rfl
                · exact mm_good _ hlk
                · exact mm_good _ w3
                · exact mm_good _ w2
              · exact mm_goodc w1 w hw) rfl rfl rfl ⟨w8, w9, w7⟩ hroom) ⟨mm_Pc_blind, mm_Pc_at hW hS hP hK hD⟩ rfl (by simp; omega) hl9 (by simp) (lv_room hcs') hdg ⟨by show gN M - n0 + (gN M1 - gN M) ≤ _; omega, by show gZ M - z0 + (gZ M1 - gZ M) ≤ _; omega⟩) hS hl hln (sr_drop _ hst) he ⟨hn.1, hn.2.1⟩ hmo kk
        · cases h
      · cases h
    · cases h
  case invokevirtual idx =>
    simp only [mm_len, beq_iff_eq] at hlen
    subst hlen
    dsimp only at h
    split at h
    · next q hq =>
      split at h
      · next y hy =>
        split at h
        · next v rst hdr =>
          split at h
          · next hc =>
            obtain ⟨hk, hnp, hcs, hnest, hrcv, hlaw⟩ := hc
            cases h
            obtain ⟨w1, w2, w3, w4, w5, w6, w7, w8, w9, w10, w11⟩ := mm_meth hy hlaw
            rw [if_neg (by omega)] at w3
            have w4 := w4 hk
            have hlk := mm_ctf_of hq hy
            rw [if_neg (by rw [hnest]; decide)] at hlk
            intro ads ws tys lsr rs H locs he ⟨hpw, hP, hK, hD, hS, hl, hst, hln⟩
            obtain ⟨rv, rr, ers, hv, hrr, htk⟩ := mm_split hdr hst
            have hrec : ∃ a, rv = .ref a ∧ ∃ cellB : Cell, H[a]? = some cellB ∧ cellB.vm.isStatics = false ∧ s.vm.findClass y.1.cls = some cellB.cls := by
              cases v with
              | ref o =>
                obtain ⟨a, ha, rfl⟩ := hv
                refine ⟨a, rfl, ?_⟩
                obtain ⟨hlt, e1, hw, hcr⟩ := pw_at hpw ha
                unfold mm_rcv at hrcv
                simp only [beq_iff_eq] at hrcv
                have h7 : mm_ci y.2.2.2.2.1 < 7 ∧ mm_C (mm_ci y.2.2.2.2.1) = mm_c y.2.2.2.2.1 := by
                  have hall : ∀ k, k < 16 → mm_ci k < 7 → mm_C (mm_ci k) = mm_c k := by decide +kernel
                  have hlt7 : mm_ci y.2.2.2.2.1 < 7 := by
                    rcases hcr with ⟨z, _⟩ | ⟨z, _⟩ | ⟨z, _⟩ | ⟨z, _⟩
                    · rw [hrcv] at z; exact z
                    all_goals
                      exfalso
                      have hle : mm_ci y.2.2.2.2.1 ≤ 9 := by
                        unfold mm_ci
                        rw [List.getD_eq_getElem?_getD]
                        cases hz : ([5, 9, 0, 1, 2, 3, 9, 4, 6, 9, 9, 9, 9, 9, 9, 9] : List Nat)[y.2.2.2.2.1]? with
                        | none => exact Nat.le_refl 9
                        | some w =>
                          have := List.mem_of_getElem? hz
                          simp only [List.mem_cons, List.not_mem_nil, or_false] at this
                          simp only [Option.getD_some]
                          omega
                      omega
                  have hk16 : y.2.2.2.2.1 < 16 := by
                    rcases Nat.lt_or_ge y.2.2.2.2.1 16 with z | z
                    · exact z
                    · exfalso
                      have : mm_ci y.2.2.2.2.1 = 9 := by
                        unfold mm_ci
                        rw [List.getD_eq_getElem?_getD, List.getElem?_eq_none (by simpa using z)]
                        rfl
                      omega
                  exact ⟨hlt7, hall _ hk16 hlt7⟩
                obtain ⟨fs, rfl, -, -⟩ := cr_obj hcr hrcv h7.1
                have hrc := va_recv hK hP (mm_vc h7.1) hw
                rw [show (mm_C (mm_ci y.2.2.2.2.1), mm_T (mm_ci y.2.2.2.2.1), mm_nf (mm_ci y.2.2.2.2.1)).1 = y.1.cls from h7.2.trans w6] at hrc
                exact hrc
              | retAddr j =>
                unfold mm_rcv at hrcv
                simp only [Bool.and_eq_true, beq_iff_eq, decide_eq_true_eq] at hrcv
                have hr : rv = .ref (adK j) := by
                  rcases hv with ⟨_, z⟩ | ⟨z, _⟩ | ⟨z, _⟩ | ⟨z, _⟩
                  · exact z
                  all_goals omega
                refine ⟨_, hr, ?_⟩
                have hrc := vk_recv hW.1 hrcv.2 hS
                rw [hrcv.1] at w6
                rw [← w6]
                exact hrc
              | _ => exact absurd hrcv (by intro z; cases z)
            obtain ⟨a, rfl, hrec⟩ := hrec
            have ha : sr (vr vf b adK adV ads) (v :: (st.take y.2.2.2.2.2.1).reverse) (.ref a :: (rs.take y.2.2.2.2.2.1).reverse) := ⟨hv, sr_rev htk⟩
            have hM := mm_met (ras := .ref a :: (rs.take y.2.2.2.2.2.1).reverse) (ws := ws) (tys := tys) hy hlaw he0 hall hmo hpw ha hvf
            have hl9 : lsr.size = c.maxLocals := by obtain ⟨lv, z, -⟩ := hl; rw [z.1]; exact hln
            have hrl : rs.length = st.length := (sr_len hst).symm
            have hroom : d + 1 ≤ R.frames ∧ 8 + (y.2.2.1 + 11) + 80 * d ≤ R.locals := ⟨hr1, by omega⟩
            have hcs' : ((rr.map fun v => v.category).sum) ≤ 8 := by rw [sr_cs (hcat ads) hrr]; exact hcs
            exact back_W (va_runV (As := (rs.take y.2.2.2.2.2.1).reverse) (rest := rr) (C := y.1.cls) ⟨hx, hb, rfl, hown, hts⟩ hM (cwV y.2.2.2.2.2.1 hts (fun w hw => by
              unfold wsV at hw
              rcases List.mem_append.mp hw with hw | hw
              · simp only [List.mem_cons, List.not_mem_nil, or_false] at hw
                rcases hw with rfl | rfl | rfl | rfl
                · exact mm_good _ hlk
                · exact mm_good _ w3
                · exact mm_good _ w4
                · exact mm_good _ w2
              · exact mm_goodc w1 w hw) rfl rfl rfl ⟨rfl, w8, w9, w7⟩ hroom) ⟨mm_Pc_blind, hrec, mm_Pc_at hW hS hP hK hD⟩ rfl (by simp; omega) hl9 (by rw [List.reverse_reverse]; exact ers) (lv_room hcs') hdg ⟨by show gN M - n0 + (gN M1 - gN M) ≤ _; omega, by show gZ M - z0 + (gZ M1 - gZ M) ≤ _; omega⟩) hS hl hln hrr he ⟨hn.1, hn.2.1⟩ hmo kk
          · cases h
        · cases h
      · cases h
    · cases h
  case invokespecial idx =>
    simp only [mm_len, beq_iff_eq] at hlen
    subst hlen
    dsimp only at h
    split at h
    · next q hq =>
      split at h
      · next y hy =>
        split at h
        · next o rst hdr =>
          split at h
          · next hc =>
            obtain ⟨hk, hnp, hcs, hlaw⟩ := hc
            cases h
            obtain ⟨w1, w2, w3, w4, w5, w6, w7, w8, w9, w10, w11⟩ := mm_meth hy hlaw
            rw [if_neg (by omega)] at w3
            obtain ⟨w11, w12⟩ := w11 hk
            have hlk := mm_ctf_of hq hy
            intro ads ws tys lsr rs H locs he ⟨hpw, hP, hK, hD, hS, hl, hst, hln⟩
            obtain ⟨rv, rr, ers, hv, hrr, htk⟩ := mm_split hdr hst
            obtain ⟨a, ha1, rfl⟩ := hv
            have ha : sr (vr vf b adK adV ads) (.ref o :: (st.take y.2.2.2.2.2.1).reverse) (.ref a :: (rs.take y.2.2.2.2.2.1).reverse) := ⟨⟨a, ha1, rfl⟩, sr_rev htk⟩
            have hM := mm_met (ras := .ref a :: (rs.take y.2.2.2.2.2.1).reverse) (ws := ws) (tys := tys) hy hlaw he0 hall hmo hpw ha hvf
            rw [w12] at hM w1
            have hl9 : lsr.size = c.maxLocals := by obtain ⟨lv, z, -⟩ := hl; rw [z.1]; exact hln
            have hrl : rs.length = st.length := (sr_len hst).symm
            have hroom : d + 1 ≤ R.frames ∧ 8 + (y.2.2.1 + 11) + 80 * d ≤ R.locals := ⟨hr1, by omega⟩
            have hcs' : ((rr.map fun v => v.category).sum) ≤ 8 := by rw [sr_cs (hcat ads) hrr]; exact hcs
            split at hlk
            · have hnw := hW.2.2.2.1 _ hlk rfl
              exact back_W (va_runIN (As := (rs.take y.2.2.2.2.2.1).reverse) (rest := rr) ⟨hx, hb, rfl, hown, hts⟩ hM ⟨va_cnB y.2.2.2.2.2.1 hts (mm_goodc w1) rfl rfl rfl hnw (hts _ w2) ⟨w8, w9, w7⟩ hroom, w11, hts _ w3⟩ ⟨mm_Pc_blind, mm_Pc_at hW hS hP hK hD⟩ rfl (by simp; omega) hl9 (by rw [List.reverse_reverse]; exact ers) (lv_room hcs') hdg ⟨by show gN M - n0 + (gN M1 - gN M) ≤ _; omega, by show gZ M - z0 + (gZ M1 - gZ M) ≤ _; omega⟩) hS hl hln hrr he ⟨hn.1, hn.2.1⟩ hmo kk
            · exact back_W (va_runI (As := (rs.take y.2.2.2.2.2.1).reverse) (rest := rr) ⟨hx, hb, rfl, hown, hts⟩ hM (cwI y.2.2.2.2.2.1 hts (mm_goodc w1) rfl rfl rfl (hts _ w2) (hts _ hlk) (hts _ w3) w11 ⟨w8, w9, w7⟩ hroom) ⟨mm_Pc_blind, mm_Pc_at hW hS hP hK hD⟩ rfl (by simp; omega) hl9 (by rw [List.reverse_reverse]; exact ers) (lv_room hcs') hdg ⟨by show gN M - n0 + (gN M1 - gN M) ≤ _; omega, by show gZ M - z0 + (gZ M1 - gZ M) ≤ _; omega⟩) hS hl hln hrr he ⟨hn.1, hn.2.1⟩ hmo kk
          · cases h
        · cases h
      · cases h
    · cases h
  all_goals exact absurd h (by intro z; cases z)
end SNK
section SNW
variable {base : Nat} {adK adV : Nat → Nat} {vf : Value} {b L : Nat} {xs : Nat → Int32} {D : va_G} {l : Launch}
/-- THE SMALL MACHINE'S RUN IS THE MACHINE'S -/
theorem run_W : ∀ (n d mm pc : Nat) (ls st : List Value) (M : mm_H) (r : Option Value) (M' : mm_H), mm_run L xs n d mm pc ls st M = some (r, M') → mm_all base adK adV vf b L xs D l d mm pc ls st M r M' := by
  intro n
  induction n with
  | zero => intro d mm pc ls st M r M' h; simp [mm_run] at h
  | succ n ih =>
    intro d mm pc ls st M r M' h p e R s m args below meth c Q n0 z0 nf zf ads0 hcx b1 b2 b3 b4 kret
    unfold mm_run at h
    split at h
    · cases h
    · next i len hI =>
      split at h
      · next hlen =>
        split at h
        · next r0 hr =>
          cases h
          exact kret pc i len ls st hI hlen hr
        · split at h
          · next m' as rest hc =>
            cases d with
            | zero => cases h
            | succ d =>
              dsimp only at h
              split at h
              · cases h
              · next l0 he0 =>
                split at h
                · cases h
                · next r1 M1 h1 =>
                  have g1 := mm_run_mono _ _ _ _ _ _ _ _ _ h1
                  have g2 := mm_run_mono _ _ _ _ _ _ _ _ _ h
                  exact call_W hcx hI hlen hc he0 (ih _ _ _ _ _ _ _ _ h1) g1 ⟨b1, b2, Nat.le_trans g2.1 b3, Nat.le_trans g2.2 b4⟩ (ih _ _ _ _ _ _ _ _ h p e R s m args below meth c Q n0 z0 nf zf ads0 hcx (Nat.le_trans b1 g1.1) (Nat.le_trans b2 g1.2) b3 b4 kret)
          · split at h
            · cases h
            · next pc' ls' st' M1 h1 =>
              have g1 := mm_step_mono h1
              have g2 := mm_run_mono _ _ _ _ _ _ _ _ _ h
              exact step_W hcx hI hlen h1 ⟨b1, b2, Nat.le_trans g2.1 b3, Nat.le_trans g2.2 b4⟩ (ih _ _ _ _ _ _ _ _ h p e R s m args below meth c Q n0 z0 nf zf ads0 hcx (Nat.le_trans b1 g1.1) (Nat.le_trans b2 g1.2) b3 b4 kret)
      · cases h
end SNW
end
section
/-- the empty heap -/
def mm_0 : mm_H := (fun _ _ => 0, fun _ _ => .null, fun _ => (0, 0), 0, 0)
def sw_tm (i : Nat) : Term := .string (mm_c (mm_st.getD i (0, 0, 0, 0)).1) (mm_st.getD i (0, 0, 0, 0)).2.1
def sw_fl : List Cond := flatC (Jvm.Cond.and given_1 narrow_1)
theorem sw_hex : ∀ i, i < 13 → Cond.exactly (sw_tm i) "java/lang/String" ∈ sw_fl := by decide +kernel
theorem sw_hco : ∀ i, i < 13 → Cond.eq (.field (sw_tm i) "java/lang/String" "coder" "B") (.int 0) ∈ sw_fl := by decide +kernel
theorem sw_har : ∀ i, i < 13 → Cond.arrayOf (.field (sw_tm i) "java/lang/String" "value" "[B") .byte ∈ sw_fl := by decide +kernel
theorem sw_hle : ∀ i, i < 13 → Cond.eq (.length (.field (sw_tm i) "java/lang/String" "value" "[B")) (.int (Int32.ofNat ((mm_sb.map List.length).getD i 0))) ∈ sw_fl := by decide +kernel
theorem sw_hel : ∀ i, i < 13 → ∀ j, j < (mm_sb.map List.length).getD i 0 → Cond.eq (.elem (.field (sw_tm i) "java/lang/String" "value" "[B") (.int (Int32.ofNat j))) (.int ((mm_sb.getD i []).getD j 0)) ∈ sw_fl := by decide +kernel
def sw_pn (w : Cond) : Option (Nat × Nat × String × String) := match w with
  | .not (.eq (.string a i) (.string c j)) => some (i, j, a, c)
  | _ => none
def sw_nl : List (Nat × Nat × String × String) := sw_fl.filterMap sw_pn
theorem sw_pn_of {i j : Nat} {a c : String} (h : (i, j, a, c) ∈ sw_nl) : Cond.not (Cond.eq (.string a i) (.string c j)) ∈ sw_fl := by
  obtain ⟨w, h1, h2⟩ := List.mem_filterMap.mp h
  unfold sw_pn at h2
  split at h2
  · cases h2; exact h1
  · cases h2
def sw_q (i : Nat) : Nat × Nat × Nat × Nat := mm_st.getD i (0, 0, 0, 0)
def sw_two (i j : Nat) : Bool := i == j || (sw_nl.contains ((sw_q i).2.1, (sw_q j).2.1, mm_c (sw_q i).1, mm_c (sw_q j).1) || sw_nl.contains ((sw_q j).2.1, (sw_q i).2.1, mm_c (sw_q j).1, mm_c (sw_q i).1))
theorem sw_two_all : ((List.range 13).all fun i => (List.range 13).all fun j => sw_two i j) = true := by decide +kernel
theorem sw_hne (i : Nat) (hi : i < 13) (j : Nat) (hj : j < 13) (hne : i ≠ j) : Cond.not (Cond.eq (sw_tm i) (sw_tm j)) ∈ sw_fl ∨ Cond.not (Cond.eq (sw_tm j) (sw_tm i)) ∈ sw_fl := by
  have h := List.all_eq_true.mp (List.all_eq_true.mp sw_two_all i (List.mem_range.mpr hi)) j (List.mem_range.mpr hj)
  unfold sw_two at h
  simp only [Bool.or_eq_true, beq_iff_eq, List.contains_iff_mem] at h
  rcases h with h | h | h
  · exact absurd h hne
  · exact Or.inl (sw_pn_of h)
  · exact Or.inr (sw_pn_of h)
theorem sw_hN : ∀ i, i < 13 → (mm_sb.map List.length).getD i 0 < 2 ^ 31 := by decide +kernel
theorem sw_hcs : Cond.eq (.static "java/lang/String" "COMPACT_STRINGS" "Z") (.int 1) ∈ sw_fl ∧ Cond.isRef (.static "jdk/internal/util/Preconditions" "SIOOBE_FORMATTER" "Ljava/util/function/BiFunction;") ∈ sw_fl := by decide +kernel
theorem sw_hla : lw_tbl[268]? = some (.laysStatic "java/lang/String" "COMPACT_STRINGS" "Z") ∧ lw_tbl[284]? = some (.laysStatic "jdk/internal/util/Preconditions" "SIOOBE_FORMATTER" "Ljava/util/function/BiFunction;") ∧ lw_tbl[98]? = some (.initialized "java/lang/String") ∧ lw_tbl[100]? = some (.initialized "jdk/internal/util/Preconditions") ∧ lw_tbl[125]? = some (.arrayOver (.object (mm_E 12))) ∧ lw_tbl[238]? = some (.arrayOver (.object (mm_E 13))) := by decide +kernel
theorem sw_hin : ∀ ci, ci < 7 → (mm_wa ([95, 94, 97, 103, 96, 93, 107].getD ci 0) (.initialized (mm_C ci)) && mm_wa ([143, 119, 239, 394, 181, 111, 799].getD ci 0) (.instantiable (mm_C ci) (mm_nf ci))) = true := by decide +kernel
theorem mm_ws_sub : ∀ w ∈ mm_ws, w ∈ lw_tbl := fun w hw => (List.mem_filter.mp hw).1
theorem sw_stq : ∀ q ∈ mm_st, q.2.2.1 < 13 ∧ sw_tm q.2.2.1 = .string (mm_c q.1) q.2.1 := by decide +kernel
end
section
/-! RUNS THAT END WELL: an equation an instruction -/
def Wp (L : Nat) (xs : Nat → Int32) (d m pc : Nat) (ls st : List Value) (M : mm_H) (Q : Option Value → mm_H → Prop) : Prop := ∃ n r M', mm_run L xs n d m pc ls st M = some (r, M') ∧ Q r M'
def Call (L : Nat) (xs : Nat → Int32) (d m : Nat) (as : List Value) (M : mm_H) (Q : Option Value → mm_H → Prop) : Prop := ∃ l0, mm_ent m as = some l0 ∧ Wp L xs d m 0 l0 [] M Q
theorem Wp_mono {L : Nat} {xs : Nat → Int32} {d m pc : Nat} {ls st : List Value} {M : mm_H} {Q Q' : Option Value → mm_H → Prop} (h : Wp L xs d m pc ls st M Q) (hq : ∀ r M', Q r M' → Q' r M') : Wp L xs d m pc ls st M Q' := by
  obtain ⟨n, r, M', h1, h2⟩ := h
  exact ⟨n, r, M', h1, hq _ _ h2⟩
theorem Call_mono {L : Nat} {xs : Nat → Int32} {d m : Nat} {as : List Value} {M : mm_H} {Q Q' : Option Value → mm_H → Prop} (h : Call L xs d m as M Q) (hq : ∀ r M', Q r M' → Q' r M') : Call L xs d m as M Q' := by
  obtain ⟨l0, h1, h2⟩ := h
  exact ⟨l0, h1, Wp_mono h2 hq⟩
theorem mm_run_more {L : Nat} {xs : Nat → Int32} : ∀ (n k d m pc : Nat) (ls st : List Value) (M : mm_H) (x : Option Value × mm_H), mm_run L xs n d m pc ls st M = some x → mm_run L xs (n + k) d m pc ls st M = some x := by
  intro n
  induction n with
  | zero => intro k d m pc ls st M x h; simp [mm_run] at h
  | succ n ih =>
    intro k d m pc ls st M x h
    rw [show n + 1 + k = (n + k) + 1 by omega]
    unfold mm_run at h ⊢
    split at h
    · cases h
    · next i len hI =>
      split at h
      · next hlen =>
        rw [if_pos hlen]
        split at h
        · next r0 hr => exact h
        · next hr =>
          split at h
          · next m' as rest hc =>
            cases d with
            | zero => cases h
            | succ d =>
              dsimp only at h ⊢
              split at h
              · cases h
              · next l0 he0 =>
                split at h
                · cases h
                · next r1 M1 h1 =>
                  rw [ih k _ _ _ _ _ _ _ h1]
                  exact ih k _ _ _ _ _ _ _ h
          · next hc =>
            split at h
            · cases h
            · next pc' ls' st' M1 h1 => exact ih k _ _ _ _ _ _ _ h
      · cases h
section WPS
variable {L : Nat} {xs : Nat → Int32} {d m pc : Nat} {ls st : List Value} {M : mm_H} {Q : Option Value → mm_H → Prop}
/-- not an instruction that ends or calls -/
def mm_pl (i : Instr) : Bool := match i with
  | .return_ | .ireturn | .lreturn | .areturn | .invokestatic _ | .invokevirtual _ | .invokespecial _ => false
  | _ => true
theorem mm_pl_ret {i : Instr} (h : mm_pl i = true) : mm_ret m i st = none := by
  unfold mm_ret
  split
  · split <;> first | rfl | (exact absurd h Bool.false_ne_true)
  · rfl
theorem mm_pl_call {i : Instr} (h : mm_pl i = true) : mm_call m i st M = none := by
  unfold mm_call
  split <;> first | rfl | (exact absurd h Bool.false_ne_true)
theorem Wp_step {i : Instr} {len pc' : Nat} {ls' st' : List Value} {M' : mm_H} (hI : mm_I m pc = some (i, len)) (hl : mm_len i len = true) (hr : mm_ret m i st = none) (hc : mm_call m i st M = none) (hs : mm_step L xs d m pc i ls st M = some (pc', ls', st', M')) : Wp L xs d m pc ls st M Q = Wp L xs d m pc' ls' st' M' Q := by
  apply propext
  constructor
  · rintro ⟨n, r, M1, h1, h2⟩
    cases n with
    | zero => simp [mm_run] at h1
    | succ n =>
      unfold mm_run at h1
      rw [hI] at h1
      dsimp only at h1
      rw [if_pos hl, hr] at h1
      dsimp only at h1
      rw [hc] at h1
      dsimp only at h1
      rw [hs] at h1
      exact ⟨n, r, M1, h1, h2⟩
  · rintro ⟨n, r, M1, h1, h2⟩
    refine ⟨n + 1, r, M1, ?_, h2⟩
    unfold mm_run
    rw [hI]
    dsimp only
    rw [if_pos hl, hr]
    dsimp only
    rw [hc]
    dsimp only
    rw [hs]
    exact h1
theorem Wp_s {i : Instr} {len pc' : Nat} {ls' st' : List Value} {M' : mm_H} (hI : mm_I m pc = some (i, len)) (hp : (mm_len i len && mm_pl i) = true) (hs : mm_step L xs d m pc i ls st M = some (pc', ls', st', M')) : Wp L xs d m pc ls st M Q = Wp L xs d m pc' ls' st' M' Q := by
  rw [Bool.and_eq_true] at hp
  exact Wp_step hI hp.1 (mm_pl_ret hp.2) (mm_pl_call hp.2) hs
theorem Wp_ret {i : Instr} {len : Nat} {r : Option Value} (hI : mm_I m pc = some (i, len)) (hl : mm_len i len = true) (hr : mm_ret m i st = some r) : Wp L xs d m pc ls st M Q = Q r M := by
  apply propext
  constructor
  · rintro ⟨n, r1, M1, h1, h2⟩
    cases n with
    | zero => simp [mm_run] at h1
    | succ n =>
      unfold mm_run at h1
      rw [hI] at h1
      dsimp only at h1
      rw [if_pos hl, hr] at h1
      cases h1
      exact h2
  · intro h
    refine ⟨1, r, M, ?_, h⟩
    unfold mm_run
    rw [hI]
    dsimp only
    rw [if_pos hl, hr]
theorem Wp_call {i : Instr} {len m' : Nat} {as rest : List Value} (hI : mm_I m pc = some (i, len)) (hl : mm_len i len = true) (hr : mm_ret m i st = none) (hc : mm_call m i st M = some (m', as, rest)) : Wp L xs (d + 1) m pc ls st M Q = Call L xs d m' as M (fun r M' => Wp L xs (d + 1) m (pc + 3) ls (r.toList ++ rest) M' Q) := by
  apply propext
  constructor
  · rintro ⟨n, r1, M1, h1, h2⟩
    cases n with
    | zero => simp [mm_run] at h1
    | succ n =>
      unfold mm_run at h1
      rw [hI] at h1
      dsimp only at h1
      rw [if_pos hl, hr] at h1
      dsimp only at h1
      rw [hc] at h1
      dsimp only at h1
      split at h1
      · cases h1
      · next l0 he0 =>
        split at h1
        · cases h1
        · next r2 M2 h3 => exact ⟨l0, he0, n, r2, M2, h3, n, r1, M1, h1, h2⟩
  · rintro ⟨l0, he0, n, r2, M2, h3, n2, r1, M1, h1, h2⟩
    refine ⟨n + n2 + 1, r1, M1, ?_, h2⟩
    unfold mm_run
    rw [hI]
    dsimp only
    rw [if_pos hl, hr]
    dsimp only
    rw [hc]
    dsimp only
    rw [he0]
    dsimp only
    rw [mm_run_more n n2 _ _ _ _ _ _ _ h3]
    dsimp only
    rw [show n + n2 = n2 + n by omega]
    exact mm_run_more n2 n _ _ _ _ _ _ _ h1
/-- a local that a store behind it doesn't touch -/
def mm_c1 (v : Value) : Bool := match v with | .long _ => false | .double _ => false | _ => true
def mm_isA (v : Value) : Bool := match v with | .ref _ => true | .null => true | .retAddr _ => true | _ => false
theorem c1_i {x : Int32} : mm_c1 (.int x) = true := rfl
theorem c1_r {x : Nat} : mm_c1 (.ref x) = true := rfl
theorem c1_n : mm_c1 .null = true := rfl
theorem c1_U : mm_c1 mm_U = true := rfl
theorem isA_r {x : Nat} : mm_isA (.ref x) = true := rfl
theorem isA_n : mm_isA .null = true := rfl
theorem isA_a {x : Nat} : mm_isA (.retAddr x) = true := rfl
theorem ct_i {x : Int32} : (Value.int x).category = 1 := rfl
theorem ct_r {x : Nat} : (Value.ref x).category = 1 := rfl
theorem ct_n : Value.null.category = 1 := rfl
theorem cs_0 : mm_cs [] = 0 := rfl
theorem cs_i {x : Int32} {r : List Value} : mm_cs (.int x :: r) = 1 + mm_cs r := rfl
theorem cs_r {x : Nat} {r : List Value} : mm_cs (.ref x :: r) = 1 + mm_cs r := rfl
theorem cs_l {x : Int64} {r : List Value} : mm_cs (.long x :: r) = 2 + mm_cs r := rfl
theorem cs_a {x : Nat} {r : List Value} : mm_cs (.retAddr x :: r) = 1 + mm_cs r := rfl
theorem rt_0 {r : List Value} : (none : Option Value).toList ++ r = r := rfl
theorem rt_1 {v : Value} {r : List Value} : (some v).toList ++ r = v :: r := rfl
/-- Java's remainder -/
def irm (x y : Int32) : Int32 := x - x / y * y
def lrm (x y : Int64) : Int64 := x - x / y * y
theorem nl_of {ls : List Value} {k : Nat} {v : Value} (h : ls[k]? = some v) (hv : mm_c1 v = true) : mm_nl ls (k + 1) = true := by
  unfold mm_nl
  dsimp only
  rw [h]
  cases v <;> first | rfl | (exact absurd hv Bool.false_ne_true)
theorem w_iconst {n : Int} {v : Int32} (hI : mm_I m pc = some (.iconst n, 1)) (hv : Int32.ofInt n = v) : Wp L xs d m pc ls st M Q = Wp L xs d m (pc + 1) ls (.int v :: st) M Q := by subst hv; exact Wp_s hI rfl rfl
theorem w_bipush {n : Int} {v : Int32} (hI : mm_I m pc = some (.bipush n, 2)) (hv : (Int8.ofInt n).toInt32 = v) : Wp L xs d m pc ls st M Q = Wp L xs d m (pc + 2) ls (.int v :: st) M Q := by subst hv; exact Wp_s hI rfl rfl
theorem w_sipush {n : Int} {v : Int32} (hI : mm_I m pc = some (.sipush n, 3)) (hv : (Int16.ofInt n).toInt32 = v) : Wp L xs d m pc ls st M Q = Wp L xs d m (pc + 3) ls (.int v :: st) M Q := by subst hv; exact Wp_s hI rfl rfl
theorem w_lconst {n : Fin 2} {v : Int64} (hI : mm_I m pc = some (.lconst n, 1)) (hv : Int64.ofNat (n : Nat) = v) : Wp L xs d m pc ls st M Q = Wp L xs d m (pc + 1) ls (.long v :: st) M Q := by subst hv; exact Wp_s hI rfl rfl
theorem w_null (hI : mm_I m pc = some (.aconst_null, 1)) : Wp L xs d m pc ls st M Q = Wp L xs d m (pc + 1) ls (.null :: st) M Q := Wp_s hI rfl rfl
theorem ldI_s {n k : Nat} {x : Int32} (h : ls[k]? = some (.int x)) : mm_ldI n k pc ls st M = some (pc + n, ls, .int x :: st, M) := by unfold mm_ldI; rw [h]
theorem ldL_s {n k : Nat} {x : Int64} (h : ls[k]? = some (.long x)) : mm_ldL n k pc ls st M = some (pc + n, ls, .long x :: st, M) := by unfold mm_ldL; rw [h]
theorem ldA_s {n k : Nat} {v : Value} (h : ls[k]? = some v) (hv : mm_isA v = true) : mm_ldA n k pc ls st M = some (pc + n, ls, v :: st, M) := by
  unfold mm_ldA; rw [h]
  cases v <;> first | rfl | (exact absurd hv Bool.false_ne_true)
theorem put_s {k : Nat} {v : Value} (hk : k < ls.length) (hn : mm_nl ls k = true) : mm_put ls k v = some (ls.set k v) := by unfold mm_put; rw [if_pos ⟨hk, hn⟩]
theorem put2_s {k : Nat} {v : Value} (hk : k + 1 < ls.length) (hn : mm_nl ls k = true) : mm_put2 ls k v = some ((ls.set k v).set (k + 1) mm_U) := by unfold mm_put2; rw [if_pos ⟨hk, hn⟩]
theorem w_iload {i : Instr} {n k : Nat} {x : Int32} (hI : mm_I m pc = some (i, n)) (hi : i = .iload k ∧ n = 2 ∨ ∃ q : Fin 4, i = .iload_n q ∧ (q : Nat) = k ∧ n = 1) (h : ls[k]? = some (.int x)) : Wp L xs d m pc ls st M Q = Wp L xs d m (pc + n) ls (.int x :: st) M Q := by
  rcases hi with ⟨rfl, rfl⟩ | ⟨q, rfl, rfl, rfl⟩
  · exact Wp_s hI rfl (ldI_s h)
  · exact Wp_s hI rfl (ldI_s h)
theorem w_lload {i : Instr} {n k : Nat} {x : Int64} (hI : mm_I m pc = some (i, n)) (hi : i = .lload k ∧ n = 2 ∨ ∃ q : Fin 4, i = .lload_n q ∧ (q : Nat) = k ∧ n = 1) (h : ls[k]? = some (.long x)) : Wp L xs d m pc ls st M Q = Wp L xs d m (pc + n) ls (.long x :: st) M Q := by
  rcases hi with ⟨rfl, rfl⟩ | ⟨q, rfl, rfl, rfl⟩
  · exact Wp_s hI rfl (ldL_s h)
  · exact Wp_s hI rfl (ldL_s h)
theorem w_aload {i : Instr} {n k : Nat} {v : Value} (hI : mm_I m pc = some (i, n)) (hi : i = .aload k ∧ n = 2 ∨ ∃ q : Fin 4, i = .aload_n q ∧ (q : Nat) = k ∧ n = 1) (h : ls[k]? = some v) (hv : mm_isA v = true) : Wp L xs d m pc ls st M Q = Wp L xs d m (pc + n) ls (v :: st) M Q := by
  rcases hi with ⟨rfl, rfl⟩ | ⟨q, rfl, rfl, rfl⟩
  · exact Wp_s hI rfl (ldA_s h hv)
  · exact Wp_s hI rfl (ldA_s h hv)
theorem w_istore {i : Instr} {n k : Nat} {x : Int32} (hI : mm_I m pc = some (i, n)) (hi : i = .istore k ∧ n = 2 ∨ ∃ q : Fin 4, i = .istore_n q ∧ (q : Nat) = k ∧ n = 1) (hk : k < ls.length) (hn : mm_nl ls k = true) : Wp L xs d m pc ls (.int x :: st) M Q = Wp L xs d m (pc + n) (ls.set k (.int x)) st M Q := by
  rcases hi with ⟨rfl, rfl⟩ | ⟨q, rfl, rfl, rfl⟩
  · exact Wp_s hI rfl (by unfold mm_step mm_stI; dsimp only; rw [put_s hk hn])
  · exact Wp_s hI rfl (by unfold mm_step mm_stI; dsimp only; rw [put_s hk hn])
theorem w_lstore {i : Instr} {n k : Nat} {x : Int64} (hI : mm_I m pc = some (i, n)) (hi : i = .lstore k ∧ n = 2 ∨ ∃ q : Fin 4, i = .lstore_n q ∧ (q : Nat) = k ∧ n = 1) (hk : k + 1 < ls.length) (hn : mm_nl ls k = true) : Wp L xs d m pc ls (.long x :: st) M Q = Wp L xs d m (pc + n) ((ls.set k (.long x)).set (k + 1) mm_U) st M Q := by
  rcases hi with ⟨rfl, rfl⟩ | ⟨q, rfl, rfl, rfl⟩
  · exact Wp_s hI rfl (by unfold mm_step mm_stL; dsimp only; rw [put2_s hk hn])
  · exact Wp_s hI rfl (by unfold mm_step mm_stL; dsimp only; rw [put2_s hk hn])
/-- a reference or null is stored -/
theorem w_astore {i : Instr} {n k : Nat} {v : Value} (hI : mm_I m pc = some (i, n)) (hi : i = .astore k ∧ n = 2 ∨ ∃ q : Fin 4, i = .astore_n q ∧ (q : Nat) = k ∧ n = 1) (hv : v = .null ∨ ∃ a, v = .ref a) (hk : k < ls.length) (hn : mm_nl ls k = true) : Wp L xs d m pc ls (v :: st) M Q = Wp L xs d m (pc + n) (ls.set k v) st M Q := by
  rcases hi with ⟨rfl, rfl⟩ | ⟨q, rfl, rfl, rfl⟩ <;> rcases hv with rfl | ⟨a, rfl⟩
  · exact Wp_s hI rfl (by unfold mm_step mm_stA; dsimp only; rw [put_s hk hn])
  · exact Wp_s hI rfl (by unfold mm_step mm_stA; dsimp only; rw [put_s hk hn])
  · exact Wp_s hI rfl (by unfold mm_step mm_stA; dsimp only; rw [put_s hk hn])
  · exact Wp_s hI rfl (by unfold mm_step mm_stA; dsimp only; rw [put_s hk hn])
theorem w_iinc {k : Nat} {n : Int} {v x : Int32} (hI : mm_I m pc = some (.iinc k n, 3)) (hv : Int32.ofInt n = v) (h : ls[k]? = some (.int x)) (hn : mm_nl ls k = true) : Wp L xs d m pc ls st M Q = Wp L xs d m (pc + 3) (ls.set k (.int (x + v))) st M Q := by
  subst hv
  exact Wp_s hI rfl (by unfold mm_step; dsimp only; rw [h]; dsimp only; rw [put_s (List.getElem?_eq_some_iff.mp h).1 hn])
theorem w_iadd {x y : Int32} (hI : mm_I m pc = some (.iadd, 1)) : Wp L xs d m pc ls (.int y :: .int x :: st) M Q = Wp L xs d m (pc + 1) ls (.int (x + y) :: st) M Q := Wp_s hI rfl rfl
theorem w_isub {x y : Int32} (hI : mm_I m pc = some (.isub, 1)) : Wp L xs d m pc ls (.int y :: .int x :: st) M Q = Wp L xs d m (pc + 1) ls (.int (x - y) :: st) M Q := Wp_s hI rfl rfl
theorem w_imul {x y : Int32} (hI : mm_I m pc = some (.imul, 1)) : Wp L xs d m pc ls (.int y :: .int x :: st) M Q = Wp L xs d m (pc + 1) ls (.int (x * y) :: st) M Q := Wp_s hI rfl rfl
theorem w_iand {x y : Int32} (hI : mm_I m pc = some (.iand, 1)) : Wp L xs d m pc ls (.int y :: .int x :: st) M Q = Wp L xs d m (pc + 1) ls (.int (x &&& y) :: st) M Q := Wp_s hI rfl rfl
theorem w_ior {x y : Int32} (hI : mm_I m pc = some (.ior, 1)) : Wp L xs d m pc ls (.int y :: .int x :: st) M Q = Wp L xs d m (pc + 1) ls (.int (x ||| y) :: st) M Q := Wp_s hI rfl rfl
theorem w_ixor {x y : Int32} (hI : mm_I m pc = some (.ixor, 1)) : Wp L xs d m pc ls (.int y :: .int x :: st) M Q = Wp L xs d m (pc + 1) ls (.int (x ^^^ y) :: st) M Q := Wp_s hI rfl rfl
theorem w_ishl {x y : Int32} (hI : mm_I m pc = some (.ishl, 1)) : Wp L xs d m pc ls (.int y :: .int x :: st) M Q = Wp L xs d m (pc + 1) ls (.int (x <<< (y &&& 31)) :: st) M Q := Wp_s hI rfl rfl
theorem w_ishr {x y : Int32} (hI : mm_I m pc = some (.ishr, 1)) : Wp L xs d m pc ls (.int y :: .int x :: st) M Q = Wp L xs d m (pc + 1) ls (.int (x >>> (y &&& 31)) :: st) M Q := Wp_s hI rfl rfl
theorem w_iushr {x y : Int32} (hI : mm_I m pc = some (.iushr, 1)) : Wp L xs d m pc ls (.int y :: .int x :: st) M Q = Wp L xs d m (pc + 1) ls (.int (x.toUInt32 >>> (y.toUInt32 &&& Int32.toUInt32 31)).toInt32 :: st) M Q := Wp_s hI rfl rfl
theorem w_idiv {x y : Int32} (hI : mm_I m pc = some (.idiv, 1)) (h : ¬ y = 0) : Wp L xs d m pc ls (.int y :: .int x :: st) M Q = Wp L xs d m (pc + 1) ls (.int (x / y) :: st) M Q := Wp_s hI rfl (by unfold mm_step mm_div; dsimp only; rw [if_neg h])
theorem w_irem {x y : Int32} (hI : mm_I m pc = some (.irem, 1)) (h : ¬ y = 0) : Wp L xs d m pc ls (.int y :: .int x :: st) M Q = Wp L xs d m (pc + 1) ls (.int (irm x y) :: st) M Q := Wp_s hI rfl (by unfold mm_step mm_div; dsimp only; rw [if_neg h]; rfl)
theorem w_ineg {x : Int32} (hI : mm_I m pc = some (.ineg, 1)) : Wp L xs d m pc ls (.int x :: st) M Q = Wp L xs d m (pc + 1) ls (.int (-x) :: st) M Q := Wp_s hI rfl rfl
theorem w_i2l {x : Int32} (hI : mm_I m pc = some (.i2l, 1)) : Wp L xs d m pc ls (.int x :: st) M Q = Wp L xs d m (pc + 1) ls (.long x.toInt64 :: st) M Q := Wp_s hI rfl rfl
theorem w_i2b {x : Int32} (hI : mm_I m pc = some (.i2b, 1)) : Wp L xs d m pc ls (.int x :: st) M Q = Wp L xs d m (pc + 1) ls (.int x.toInt8.toInt32 :: st) M Q := Wp_s hI rfl rfl
theorem w_i2s {x : Int32} (hI : mm_I m pc = some (.i2s, 1)) : Wp L xs d m pc ls (.int x :: st) M Q = Wp L xs d m (pc + 1) ls (.int x.toInt16.toInt32 :: st) M Q := Wp_s hI rfl rfl
theorem w_i2c {x : Int32} (hI : mm_I m pc = some (.i2c, 1)) : Wp L xs d m pc ls (.int x :: st) M Q = Wp L xs d m (pc + 1) ls (.int (x.toUInt32 % 65536).toInt32 :: st) M Q := Wp_s hI rfl rfl
theorem w_l2i {x : Int64} (hI : mm_I m pc = some (.l2i, 1)) : Wp L xs d m pc ls (.long x :: st) M Q = Wp L xs d m (pc + 1) ls (.int x.toInt32 :: st) M Q := Wp_s hI rfl rfl
theorem w_ladd {x y : Int64} (hI : mm_I m pc = some (.ladd, 1)) : Wp L xs d m pc ls (.long y :: .long x :: st) M Q = Wp L xs d m (pc + 1) ls (.long (x + y) :: st) M Q := Wp_s hI rfl rfl
theorem w_lsub {x y : Int64} (hI : mm_I m pc = some (.lsub, 1)) : Wp L xs d m pc ls (.long y :: .long x :: st) M Q = Wp L xs d m (pc + 1) ls (.long (x - y) :: st) M Q := Wp_s hI rfl rfl
theorem w_lmul {x y : Int64} (hI : mm_I m pc = some (.lmul, 1)) : Wp L xs d m pc ls (.long y :: .long x :: st) M Q = Wp L xs d m (pc + 1) ls (.long (x * y) :: st) M Q := Wp_s hI rfl rfl
theorem w_ldiv {x y : Int64} (hI : mm_I m pc = some (.ldiv, 1)) (h : ¬ y = 0) : Wp L xs d m pc ls (.long y :: .long x :: st) M Q = Wp L xs d m (pc + 1) ls (.long (x / y) :: st) M Q := Wp_s hI rfl (by unfold mm_step mm_divL; dsimp only; rw [if_neg h])
theorem w_lrem {x y : Int64} (hI : mm_I m pc = some (.lrem, 1)) (h : ¬ y = 0) : Wp L xs d m pc ls (.long y :: .long x :: st) M Q = Wp L xs d m (pc + 1) ls (.long (lrm x y) :: st) M Q := Wp_s hI rfl (by unfold mm_step mm_divL; dsimp only; rw [if_neg h]; rfl)
theorem w_lcmp {x y : Int64} (hI : mm_I m pc = some (.lcmp, 1)) : Wp L xs d m pc ls (.long y :: .long x :: st) M Q = Wp L xs d m (pc + 1) ls (.int (lg_cmp x y) :: st) M Q := Wp_s hI rfl rfl
theorem w_dup {v : Value} (hI : mm_I m pc = some (.dup, 1)) (h : v.category = 1) : Wp L xs d m pc ls (v :: st) M Q = Wp L xs d m (pc + 1) ls (v :: v :: st) M Q := Wp_s hI rfl (by unfold mm_step; dsimp only; rw [if_pos h])
theorem w_dup_x1 {v w : Value} (hI : mm_I m pc = some (.dup_x1, 1)) (h : v.category = 1) (h2 : w.category = 1) : Wp L xs d m pc ls (v :: w :: st) M Q = Wp L xs d m (pc + 1) ls (v :: w :: v :: st) M Q := Wp_s hI rfl (by unfold mm_step; dsimp only; rw [if_pos ⟨h, h2⟩])
theorem w_pop {v : Value} (hI : mm_I m pc = some (.pop, 1)) (h : v.category = 1) : Wp L xs d m pc ls (v :: st) M Q = Wp L xs d m (pc + 1) ls st M Q := Wp_s hI rfl (by unfold mm_step; dsimp only; rw [if_pos h])
theorem br_s {b : Bool} {off : Int} {t : Nat} (ht : mm_at_ pc off = some t) : mm_br b off pc ls st M = some (if b = true then t else pc + 3, ls, st, M) := by unfold mm_br; rw [ht]
theorem wif {c : Prop} [Decidable c] {b : Bool} {t f : Nat} (hb : (b = true) ↔ c) : Wp L xs d m (if b = true then t else f) ls st M Q = if c then Wp L xs d m t ls st M Q else Wp L xs d m f ls st M Q := by
  by_cases h : c
  · rw [if_pos (hb.mpr h), if_pos h]
  · rw [if_neg (fun q => h (hb.mp q)), if_neg h]
theorem wifn {c : Prop} [Decidable c] {b : Bool} {t f : Nat} (hb : (b = true) ↔ ¬ c) : Wp L xs d m (if b = true then t else f) ls st M Q = if c then Wp L xs d m f ls st M Q else Wp L xs d m t ls st M Q := by
  by_cases h : c
  · rw [if_neg (fun q => hb.mp q h), if_pos h]
  · rw [if_pos (hb.mpr h), if_neg h]
theorem st_if {cn : ClassFile.Cond} {x : Int32} {off : Int} {t : Nat} (ht : mm_at_ pc off = some t) : mm_step L xs d m pc (.ifCond cn off) ls (.int x :: st) M = some (if mm_cond cn x 0 = true then t else pc + 3, ls, st, M) := br_s ht
theorem st_ic {cn : ClassFile.Cond} {x y : Int32} {off : Int} {t : Nat} (ht : mm_at_ pc off = some t) : mm_step L xs d m pc (.if_icmp cn off) ls (.int y :: .int x :: st) M = some (if mm_cond cn x y = true then t else pc + 3, ls, st, M) := br_s ht
theorem cd_ne {x y : Int32} : mm_cond .ne x y = true ↔ ¬ x = y := by simp [mm_cond]
theorem cd_ge {x y : Int32} : mm_cond .ge x y = true ↔ ¬ x < y := by rw [Int32.not_lt]; exact decide_eq_true_iff
theorem cd_le {x y : Int32} : mm_cond .le x y = true ↔ ¬ y < x := by rw [Int32.not_lt]; exact decide_eq_true_iff
theorem w_ifeq {x : Int32} {off : Int} {t : Nat} (hI : mm_I m pc = some (.ifCond .eq off, 3)) (ht : mm_at_ pc off = some t) : Wp L xs d m pc ls (.int x :: st) M Q = if x = 0 then Wp L xs d m t ls st M Q else Wp L xs d m (pc + 3) ls st M Q := (Wp_s hI rfl (st_if ht)).trans (wif decide_eq_true_iff)
theorem w_ifne {x : Int32} {off : Int} {t : Nat} (hI : mm_I m pc = some (.ifCond .ne off, 3)) (ht : mm_at_ pc off = some t) : Wp L xs d m pc ls (.int x :: st) M Q = if x = 0 then Wp L xs d m (pc + 3) ls st M Q else Wp L xs d m t ls st M Q := (Wp_s hI rfl (st_if ht)).trans (wifn cd_ne)
theorem w_iflt {x : Int32} {off : Int} {t : Nat} (hI : mm_I m pc = some (.ifCond .lt off, 3)) (ht : mm_at_ pc off = some t) : Wp L xs d m pc ls (.int x :: st) M Q = if x < 0 then Wp L xs d m t ls st M Q else Wp L xs d m (pc + 3) ls st M Q := (Wp_s hI rfl (st_if ht)).trans (wif decide_eq_true_iff)
theorem w_ifge {x : Int32} {off : Int} {t : Nat} (hI : mm_I m pc = some (.ifCond .ge off, 3)) (ht : mm_at_ pc off = some t) : Wp L xs d m pc ls (.int x :: st) M Q = if x < 0 then Wp L xs d m (pc + 3) ls st M Q else Wp L xs d m t ls st M Q := (Wp_s hI rfl (st_if ht)).trans (wifn cd_ge)
theorem w_ifgt {x : Int32} {off : Int} {t : Nat} (hI : mm_I m pc = some (.ifCond .gt off, 3)) (ht : mm_at_ pc off = some t) : Wp L xs d m pc ls (.int x :: st) M Q = if 0 < x then Wp L xs d m t ls st M Q else Wp L xs d m (pc + 3) ls st M Q := (Wp_s hI rfl (st_if ht)).trans (wif decide_eq_true_iff)
theorem w_ifle {x : Int32} {off : Int} {t : Nat} (hI : mm_I m pc = some (.ifCond .le off, 3)) (ht : mm_at_ pc off = some t) : Wp L xs d m pc ls (.int x :: st) M Q = if 0 < x then Wp L xs d m (pc + 3) ls st M Q else Wp L xs d m t ls st M Q := (Wp_s hI rfl (st_if ht)).trans (wifn cd_le)
theorem w_iceq {x y : Int32} {off : Int} {t : Nat} (hI : mm_I m pc = some (.if_icmp .eq off, 3)) (ht : mm_at_ pc off = some t) : Wp L xs d m pc ls (.int y :: .int x :: st) M Q = if x = y then Wp L xs d m t ls st M Q else Wp L xs d m (pc + 3) ls st M Q := (Wp_s hI rfl (st_ic ht)).trans (wif decide_eq_true_iff)
theorem w_icne {x y : Int32} {off : Int} {t : Nat} (hI : mm_I m pc = some (.if_icmp .ne off, 3)) (ht : mm_at_ pc off = some t) : Wp L xs d m pc ls (.int y :: .int x :: st) M Q = if x = y then Wp L xs d m (pc + 3) ls st M Q else Wp L xs d m t ls st M Q := (Wp_s hI rfl (st_ic ht)).trans (wifn cd_ne)
theorem w_iclt {x y : Int32} {off : Int} {t : Nat} (hI : mm_I m pc = some (.if_icmp .lt off, 3)) (ht : mm_at_ pc off = some t) : Wp L xs d m pc ls (.int y :: .int x :: st) M Q = if x < y then Wp L xs d m t ls st M Q else Wp L xs d m (pc + 3) ls st M Q := (Wp_s hI rfl (st_ic ht)).trans (wif decide_eq_true_iff)
theorem w_icge {x y : Int32} {off : Int} {t : Nat} (hI : mm_I m pc = some (.if_icmp .ge off, 3)) (ht : mm_at_ pc off = some t) : Wp L xs d m pc ls (.int y :: .int x :: st) M Q = if x < y then Wp L xs d m (pc + 3) ls st M Q else Wp L xs d m t ls st M Q := (Wp_s hI rfl (st_ic ht)).trans (wifn cd_ge)
theorem w_icgt {x y : Int32} {off : Int} {t : Nat} (hI : mm_I m pc = some (.if_icmp .gt off, 3)) (ht : mm_at_ pc off = some t) : Wp L xs d m pc ls (.int y :: .int x :: st) M Q = if y < x then Wp L xs d m t ls st M Q else Wp L xs d m (pc + 3) ls st M Q := (Wp_s hI rfl (st_ic ht)).trans (wif decide_eq_true_iff)
theorem w_icle {x y : Int32} {off : Int} {t : Nat} (hI : mm_I m pc = some (.if_icmp .le off, 3)) (ht : mm_at_ pc off = some t) : Wp L xs d m pc ls (.int y :: .int x :: st) M Q = if y < x then Wp L xs d m (pc + 3) ls st M Q else Wp L xs d m t ls st M Q := (Wp_s hI rfl (st_ic ht)).trans (wifn cd_le)
theorem w_ifnn_r {a : Nat} {off : Int} {t : Nat} (hI : mm_I m pc = some (.ifnonnull off, 3)) (ht : mm_at_ pc off = some t) : Wp L xs d m pc ls (.ref a :: st) M Q = Wp L xs d m t ls st M Q := Wp_s hI rfl (br_s ht)
theorem w_ifnn_n {off : Int} {t : Nat} (hI : mm_I m pc = some (.ifnonnull off, 3)) (ht : mm_at_ pc off = some t) : Wp L xs d m pc ls (.null :: st) M Q = Wp L xs d m (pc + 3) ls st M Q := Wp_s hI rfl (br_s ht)
theorem w_goto {off : Int} {t : Nat} (hI : mm_I m pc = some (.goto off, 3)) (ht : mm_at_ pc off = some t) : Wp L xs d m pc ls st M Q = Wp L xs d m t ls st M Q := Wp_s hI rfl (br_s ht)
theorem w_tsin {x : Int32} {df lo hi off : Int} {offs : Array Int} {len t : Nat} (hI : mm_I m pc = some (.tableswitch df lo hi offs, len)) (h : ¬ (x.toInt < lo ∨ hi < x.toInt)) (ho : offs[(x.toInt - lo).toNat]? = some off) (ht : mm_at_ pc off = some t) : Wp L xs d m pc ls (.int x :: st) M Q = Wp L xs d m t ls st M Q := Wp_s hI rfl (by unfold mm_step; dsimp only; rw [if_neg h, ho]; exact br_s ht)
theorem w_tsout {x : Int32} {df lo hi : Int} {offs : Array Int} {len t : Nat} (hI : mm_I m pc = some (.tableswitch df lo hi offs, len)) (h : x.toInt < lo ∨ hi < x.toInt) (ht : mm_at_ pc df = some t) : Wp L xs d m pc ls (.int x :: st) M Q = Wp L xs d m t ls st M Q := Wp_s hI rfl (by unfold mm_step; dsimp only; rw [if_pos h]; exact br_s ht)
theorem w_lsw {x : Int32} {df : Int} {ps : Array (Int × Int)} {len t : Nat} (hI : mm_I m pc = some (.lookupswitch df ps, len)) (h : (ps.toList.zip (ps.toList.drop 1)).all (fun (a, next) => a.1 < next.1) = true) (ht : mm_at_ pc (Op.lookupswitch.offset ps.toList df x.toInt) = some t) : Wp L xs d m pc ls (.int x :: st) M Q = Wp L xs d m t ls st M Q := Wp_s hI rfl (by unfold mm_step; dsimp only; rw [if_pos h]; exact br_s ht)
/-- fields -/
theorem w_getI {idx o ci k : Nat} {nst : Bool} {w c0 : Nat} (hI : mm_I m pc = some (.getfield idx, 3)) (hf : mm_fld m idx = some (c0, idx, ci, k, nst, w)) (hy : mm_rf (mm_ty ci k) = false) (h : gS M o = ci) : Wp L xs d m pc ls (.ref o :: st) M Q = Wp L xs d m (pc + 3) ls (.int (gI M o k) :: st) M Q := Wp_s hI rfl (by unfold mm_step mm_gf; dsimp only; rw [hf]; dsimp only; rw [if_pos h, if_neg (by rw [hy]; decide)])
theorem w_getR {idx o ci k : Nat} {nst : Bool} {w c0 : Nat} (hI : mm_I m pc = some (.getfield idx, 3)) (hf : mm_fld m idx = some (c0, idx, ci, k, nst, w)) (hy : mm_rf (mm_ty ci k) = true) (h : gS M o = ci) : Wp L xs d m pc ls (.ref o :: st) M Q = Wp L xs d m (pc + 3) ls (gR M o k :: st) M Q := Wp_s hI rfl (by unfold mm_step mm_gf; dsimp only; rw [hf]; dsimp only; rw [if_pos h, if_pos hy])
theorem w_getSv {j : Nat} (hI : mm_I m pc = some (.getfield 9, 3)) (hc : mm_cl m = 12) (hj : j < 13) : Wp L xs d m pc ls (.retAddr j :: st) M Q = Wp L xs d m (pc + 3) ls (.retAddr (j + 100) :: st) M Q := Wp_s hI rfl (by unfold mm_step mm_gf; dsimp only; rw [if_pos ⟨hj, hc, rfl⟩])
theorem w_getSc {j : Nat} (hI : mm_I m pc = some (.getfield 15, 3)) (hc : mm_cl m = 12) (hj : j < 13) : Wp L xs d m pc ls (.retAddr j :: st) M Q = Wp L xs d m (pc + 3) ls (.int 0 :: st) M Q := Wp_s hI rfl (by unfold mm_step mm_gf; dsimp only; rw [if_neg (by omega), if_pos ⟨hj, hc, rfl⟩])
theorem w_putI {idx o ci k : Nat} {x : Int32} {nst : Bool} {w c0 : Nat} (hI : mm_I m pc = some (.putfield idx, 3)) (hf : mm_fld m idx = some (c0, idx, ci, k, nst, w)) (hy : mm_ty ci k = .int ∧ (mm_T ci k).2.2.2 = false) (h : gS M o = ci) : Wp L xs d m pc ls (.int x :: .ref o :: st) M Q = Wp L xs d m (pc + 3) ls st (pI M o k x) Q := Wp_s hI rfl (by unfold mm_step mm_pf; dsimp only; rw [hf]; dsimp only; rw [if_pos ⟨h, by rw [hy.1]; rfl, by rw [hy.1]; rfl, hy.2⟩])
theorem w_putZ {idx o ci k : Nat} {x : Int32} {nst : Bool} {w c0 : Nat} (hI : mm_I m pc = some (.putfield idx, 3)) (hf : mm_fld m idx = some (c0, idx, ci, k, nst, w)) (hy : mm_ty ci k = .boolean ∧ (mm_T ci k).2.2.2 = false) (h : gS M o = ci) (hx : x = 0 ∨ x = 1) : Wp L xs d m pc ls (.int x :: .ref o :: st) M Q = Wp L xs d m (pc + 3) ls st (pI M o k x) Q := Wp_s hI rfl (by unfold mm_step mm_pf; dsimp only; rw [hf]; dsimp only; rw [if_pos ⟨h, by rw [hy.1]; rcases hx with rfl | rfl <;> rfl, by rw [hy.1]; rcases hx with rfl | rfl <;> rfl, hy.2⟩])
theorem w_putR {idx o a ci k : Nat} {w c0 : Nat} (hI : mm_I m pc = some (.putfield idx, 3)) (hf : mm_fld m idx = some (c0, idx, ci, k, false, w)) (hy : (mm_ty ci k).isReference = true ∧ (mm_T ci k).2.2.2 = true ∧ mm_ini m = true ∧ mm_C ci = mm_c (mm_cl m)) (h : gS M o = ci) : Wp L xs d m pc ls (.ref a :: .ref o :: st) M Q = Wp L xs d m (pc + 3) ls st (pR M o k (.ref a)) Q := Wp_s hI rfl (by unfold mm_step mm_pf; dsimp only; rw [hf]; dsimp only; rw [if_pos ⟨h, hy.1, hy.2.1, hy.2.2.1, hy.2.2.2, rfl⟩])
theorem w_putL {idx o ci k : Nat} {x : Int64} {nst : Bool} {w c0 : Nat} (hI : mm_I m pc = some (.putfield idx, 3)) (hf : mm_fld m idx = some (c0, idx, ci, k, nst, w)) (hy : mm_ty ci k = .long ∧ (mm_T ci k).2.2.2 = false) (h : gS M o = ci) : Wp L xs d m pc ls (.long x :: .ref o :: st) M Q = Wp L xs d m (pc + 3) ls st (pR M o k (.long x)) Q := Wp_s hI rfl (by unfold mm_step mm_pf; dsimp only; rw [hf]; dsimp only; rw [if_pos ⟨h, hy.1, hy.2⟩])
theorem w_gs1 (hI : mm_I m pc = some (.getstatic 38, 3)) (hc : mm_cl m = 12) : Wp L xs d m pc ls st M Q = Wp L xs d m (pc + 3) ls (.int 1 :: st) M Q := Wp_s hI rfl (by unfold mm_step mm_gs; dsimp only; rw [if_pos ⟨hc, rfl⟩])
theorem w_gs2 (hI : mm_I m pc = some (.getstatic 1053, 3)) (hc : mm_cl m = 12) : Wp L xs d m pc ls st M Q = Wp L xs d m (pc + 3) ls (.retAddr 300 :: st) M Q := Wp_s hI rfl (by unfold mm_step mm_gs; dsimp only; rw [if_neg (by omega), if_pos ⟨hc, rfl⟩])
/-- arrays -/
theorem w_ial {i : Int32} {o : Nat} (hI : mm_I m pc = some (.iaload, 1)) (h : gS M o = 10) (h0 : 0 ≤ i) (h1 : i.toNatClampNeg < gL M o) : Wp L xs d m pc ls (.int i :: .ref o :: st) M Q = Wp L xs d m (pc + 1) ls (.int (gI M o i.toNatClampNeg) :: st) M Q := Wp_s hI rfl (by unfold mm_step mm_ial; dsimp only; rw [if_pos ⟨h, h0, h1⟩])
theorem w_ials {i : Int32} (hI : mm_I m pc = some (.iaload, 1)) (h0 : 0 ≤ i) (h1 : i.toNatClampNeg < L) : Wp L xs d m pc ls (.int i :: .retAddr 200 :: st) M Q = Wp L xs d m (pc + 1) ls (.int (xs i.toNatClampNeg) :: st) M Q := Wp_s hI rfl (by unfold mm_step mm_ial; dsimp only; rw [if_pos ⟨rfl, h0, h1⟩])
theorem w_bal {i : Int32} {o : Nat} (hI : mm_I m pc = some (.baload, 1)) (h : gS M o = 11) (h0 : 0 ≤ i) (h1 : i.toNatClampNeg < gL M o) : Wp L xs d m pc ls (.int i :: .ref o :: st) M Q = Wp L xs d m (pc + 1) ls (.int (gI M o i.toNatClampNeg) :: st) M Q := Wp_s hI rfl (by unfold mm_step mm_bal; dsimp only; rw [if_pos ⟨h, h0, h1⟩])
theorem w_bals {i : Int32} {j : Nat} (hI : mm_I m pc = some (.baload, 1)) (hj : 100 ≤ j ∧ j < 113) (h0 : 0 ≤ i) (h1 : i.toNatClampNeg < (mm_sb.getD (j - 100) []).length) : Wp L xs d m pc ls (.int i :: .retAddr j :: st) M Q = Wp L xs d m (pc + 1) ls (.int ((mm_sb.getD (j - 100) []).getD i.toNatClampNeg 0) :: st) M Q := Wp_s hI rfl (by unfold mm_step mm_bal; dsimp only; rw [if_pos ⟨hj.1, hj.2, h0, h1⟩])
theorem w_aal {i : Int32} {o : Nat} (hI : mm_I m pc = some (.aaload, 1)) (h : gS M o = 12 ∨ gS M o = 13) (h0 : 0 ≤ i) (h1 : i.toNatClampNeg < gL M o) : Wp L xs d m pc ls (.int i :: .ref o :: st) M Q = Wp L xs d m (pc + 1) ls (gR M o i.toNatClampNeg :: st) M Q := Wp_s hI rfl (by unfold mm_step mm_aal; dsimp only; rw [if_pos ⟨h, h0, h1⟩])
theorem w_ias {x i : Int32} {o : Nat} (hI : mm_I m pc = some (.iastore, 1)) (h : gS M o = 10) (h0 : 0 ≤ i) (h1 : i.toNatClampNeg < gL M o) : Wp L xs d m pc ls (.int x :: .int i :: .ref o :: st) M Q = Wp L xs d m (pc + 1) ls st (pI M o i.toNatClampNeg x) Q := Wp_s hI rfl (by unfold mm_step mm_ias; dsimp only; rw [if_pos ⟨h, h0, h1⟩])
theorem w_bas {x i : Int32} {o : Nat} (hI : mm_I m pc = some (.bastore, 1)) (h : gS M o = 11) (h0 : 0 ≤ i) (h1 : i.toNatClampNeg < gL M o) : Wp L xs d m pc ls (.int x :: .int i :: .ref o :: st) M Q = Wp L xs d m (pc + 1) ls st (pI M o i.toNatClampNeg (x &&& 1)) Q := Wp_s hI rfl (by unfold mm_step mm_bas; dsimp only; rw [if_pos ⟨h, h0, h1⟩])
theorem w_aas {i : Int32} {o a : Nat} (hI : mm_I m pc = some (.aastore, 1)) (h : gS M o = 12 ∨ gS M o = 13) (h0 : 0 ≤ i) (h1 : i.toNatClampNeg < gL M o) (h2 : gS M a = mm_el (gS M o)) : Wp L xs d m pc ls (.ref a :: .int i :: .ref o :: st) M Q = Wp L xs d m (pc + 1) ls st (pR M o i.toNatClampNeg (.ref a)) Q := Wp_s hI rfl (by unfold mm_step mm_aas; dsimp only; rw [if_pos ⟨h, h0, h1, h2⟩])
theorem w_aln {o : Nat} (hI : mm_I m pc = some (.arraylength, 1)) (h : 10 ≤ gS M o ∧ gS M o ≤ 13) : Wp L xs d m pc ls (.ref o :: st) M Q = Wp L xs d m (pc + 1) ls (.int (nI (gL M o)) :: st) M Q := Wp_s hI rfl (by unfold mm_step mm_aln; dsimp only; rw [if_pos h])
theorem w_alns (hI : mm_I m pc = some (.arraylength, 1)) : Wp L xs d m pc ls (.retAddr 200 :: st) M Q = Wp L xs d m (pc + 1) ls (.int (nI L) :: st) M Q := Wp_s hI rfl (by unfold mm_step mm_aln; dsimp only; rw [if_pos rfl])
theorem w_alnb {j : Nat} (hI : mm_I m pc = some (.arraylength, 1)) (hj : 100 ≤ j ∧ j < 113) : Wp L xs d m pc ls (.retAddr j :: st) M Q = Wp L xs d m (pc + 1) ls (.int (nI (mm_sb.getD (j - 100) []).length) :: st) M Q := Wp_s hI rfl (by unfold mm_step mm_aln; dsimp only; rw [if_neg (by omega), if_pos hj])
theorem w_new {idx : Nat} {q : Nat × Nat × Nat × Nat × Nat × Nat} (hI : mm_I m pc = some (.new idx, 3)) (hf : mm_ot.find? (fun q => q.1 == mm_cl m && q.2.1 == idx) = some q) {ci n : Nat} (hc : q.2.2.1 = ci) (hn : mm_nf ci = n) : Wp L xs d m pc ls st M Q = Wp L xs d m (pc + 3) ls (.ref (gN M) :: st) (pN M ci n n) Q := by subst hc; subst hn; exact Wp_s hI rfl (by unfold mm_step mm_new; dsimp only; rw [hf])
theorem w_nwi {n : Int32} (hI : mm_I m pc = some (.newarray .int, 2)) (h : 0 ≤ n ∧ n.toNatClampNeg ≤ 100000) : Wp L xs d m pc ls (.int n :: st) M Q = Wp L xs d m (pc + 2) ls (.ref (gN M) :: st) (pN M 10 n.toNatClampNeg n.toNatClampNeg) Q := Wp_s hI rfl (by unfold mm_step mm_nwa; dsimp only; rw [if_pos h])
theorem w_nwz {n : Int32} (hI : mm_I m pc = some (.newarray .boolean, 2)) (h : 0 ≤ n ∧ n.toNatClampNeg ≤ 100000) : Wp L xs d m pc ls (.int n :: st) M Q = Wp L xs d m (pc + 2) ls (.ref (gN M) :: st) (pN M 11 n.toNatClampNeg n.toNatClampNeg) Q := Wp_s hI rfl (by unfold mm_step mm_nwa; dsimp only; rw [if_pos h])
theorem w_ana {n : Int32} {idx : Nat} {q : Nat × Nat × Nat × Nat} (hI : mm_I m pc = some (.anewarray idx, 3)) (hf : mm_at.find? (fun q => q.1 == mm_cl m && q.2.1 == idx) = some q) (h : 0 ≤ n ∧ n.toNatClampNeg ≤ 100000) {so : Nat} (hs : q.2.2.1 = so) : Wp L xs d m pc ls (.int n :: st) M Q = Wp L xs d m (pc + 3) ls (.ref (gN M) :: st) (pN M so n.toNatClampNeg n.toNatClampNeg) Q := by subst hs; exact Wp_s hI rfl (by unfold mm_step mm_ana; dsimp only; rw [if_pos h, hf])
theorem w_ldcI {idx : Nat} {q : Nat × Nat × Int32 × Nat} {v : Int32} (hI : mm_I m pc = some (.ldc idx, 2)) (hf : mm_kt.find? (fun q => q.1 == mm_cl m && q.2.1 == idx) = some q) (hv : q.2.2.1 = v) : Wp L xs d m pc ls st M Q = Wp L xs d m (pc + 2) ls (.int v :: st) M Q := by subst hv; exact Wp_s hI rfl (by unfold mm_step; dsimp only; rw [hf])
theorem w_ldcS {idx : Nat} {q : Nat × Nat × Nat × Nat} {v : Nat} (hI : mm_I m pc = some (.ldc idx, 2)) (h0 : mm_kt.find? (fun q => q.1 == mm_cl m && q.2.1 == idx) = none) (hf : mm_st.find? (fun q => q.1 == mm_cl m && q.2.1 == idx) = some q) (hv : q.2.2.1 = v) : Wp L xs d m pc ls st M Q = Wp L xs d m (pc + 2) ls (.retAddr v :: st) M Q := by subst hv; exact Wp_s hI rfl (by unfold mm_step; dsimp only; rw [h0]; dsimp only; rw [hf])
theorem w_ldcw {idx : Nat} {q : Nat × Nat × Int32 × Nat} {v : Int32} (hI : mm_I m pc = some (.ldc_w idx, 3)) (hf : mm_kt.find? (fun q => q.1 == mm_cl m && q.2.1 == idx) = some q) (hv : q.2.2.1 = v) : Wp L xs d m pc ls st M Q = Wp L xs d m (pc + 3) ls (.int v :: st) M Q := by subst hv; exact Wp_s hI rfl (by unfold mm_step; dsimp only; rw [hf])
theorem w_ldc2 {idx : Nat} {q : Nat × Nat × Int64 × Nat} {v : Int64} (hI : mm_I m pc = some (.ldc2_w idx, 3)) (hf : mm_lt.find? (fun q => q.1 == mm_cl m && q.2.1 == idx) = some q) (hv : q.2.2.1 = v) : Wp L xs d m pc ls st M Q = Wp L xs d m (pc + 3) ls (.long v :: st) M Q := by subst hv; exact Wp_s hI rfl (by unfold mm_step; dsimp only; rw [hf])
/-- the JDK's own -/
theorem call_none_S {idx : Nat} (h : mm_ctf m idx = none) : mm_call m (.invokestatic idx) st M = none := by unfold mm_call; dsimp only; rw [h]
theorem call_none_I {idx : Nat} (h : mm_ctf m idx = none) : mm_call m (.invokespecial idx) st M = none := by unfold mm_call; dsimp only; rw [h]
theorem ret_none_S {idx : Nat} : mm_ret m (.invokestatic idx) st = none := by unfold mm_ret; split <;> rfl
theorem ret_none_I {idx : Nat} : mm_ret m (.invokespecial idx) st = none := by unfold mm_ret; split <;> rfl
theorem ret_none_V {idx : Nat} : mm_ret m (.invokevirtual idx) st = none := by unfold mm_ret; split <;> rfl
theorem w_obj {idx o : Nat} {q : Nat × Nat × Nat × Nat} (hI : mm_I m pc = some (.invokespecial idx, 3)) (hc : mm_ctf m idx = none) (hf : mm_ntv m idx = some q) (hq : q.2.2.1 = 0) (hs : mm_cs st ≤ 8) : Wp L xs (d + 1) m pc ls (.ref o :: st) M Q = Wp L xs (d + 1) m (pc + 3) ls st M Q := Wp_step hI rfl ret_none_I (call_none_I hc) (by unfold mm_step mm_obj; dsimp only; rw [hf]; dsimp only; rw [if_pos ⟨hq, Nat.succ_pos d, hs⟩])
theorem w_abs {idx : Nat} {x : Int32} {q : Nat × Nat × Nat × Nat} (hI : mm_I m pc = some (.invokestatic idx, 3)) (hc : mm_ctf m idx = none) (hf : mm_ntv m idx = some q) (hq : q.2.2.1 = 2) (hs : mm_cs st ≤ 8) : Wp L xs (d + 1) m pc ls (.int x :: st) M Q = Wp L xs (d + 1) m (pc + 3) ls (.int (if 0 ≤ x then x else 0 - x) :: st) M Q := Wp_step hI rfl ret_none_S (call_none_S hc) (by unfold mm_step mm_mat; dsimp only; rw [hf]; dsimp only; rw [if_pos ⟨hq, Nat.succ_pos d⟩, if_pos hs])
theorem w_min {idx : Nat} {x y : Int32} {q : Nat × Nat × Nat × Nat} (hI : mm_I m pc = some (.invokestatic idx, 3)) (hc : mm_ctf m idx = none) (hf : mm_ntv m idx = some q) (hq : q.2.2.1 = 3) (hs : mm_cs st ≤ 8) : Wp L xs (d + 1) m pc ls (.int y :: .int x :: st) M Q = Wp L xs (d + 1) m (pc + 3) ls (.int (if y < x then y else x) :: st) M Q := Wp_step hI rfl ret_none_S (call_none_S hc) (by unfold mm_step mm_mat; dsimp only; rw [hf]; dsimp only; rw [if_neg (by omega), if_pos ⟨hq, Nat.succ_pos d⟩, if_pos hs])
theorem w_cpy {idx a b : Nat} {n dp sp : Int32} {q : Nat × Nat × Nat × Nat} (hI : mm_I m pc = some (.invokestatic idx, 3)) (hc : mm_ctf m idx = none) (hf : mm_ntv m idx = some q) (hq : q.2.2.1 = 1) (hs : mm_cs st ≤ 8) (ha : gS M a = 10) (hb : gS M b = 10) (hn : 0 ≤ n ∧ 0 ≤ sp ∧ 0 ≤ dp) (h1 : sp.toNatClampNeg + n.toNatClampNeg ≤ gL M a) (h2 : dp.toNatClampNeg + n.toNatClampNeg ≤ gL M b) : Wp L xs (d + 1) m pc ls (.int n :: .int dp :: .ref b :: .int sp :: .ref a :: st) M Q = Wp L xs (d + 1) m (pc + 3) ls st (pC M a sp.toNatClampNeg b dp.toNatClampNeg n.toNatClampNeg) Q := Wp_step hI rfl ret_none_S (call_none_S hc) (by unfold mm_step mm_mat; dsimp only; rw [hf]; dsimp only; rw [if_neg (by omega), if_neg (by omega)]; unfold mm_cpy; dsimp only; rw [hf]; dsimp only; rw [if_pos ⟨hq, Nat.succ_pos d, ha, hb, hn.1, hn.2.1, hn.2.2, h1, h2, hs⟩])
/-- ends -/
theorem w_return {q : mm_MT} (hI : mm_I m pc = some (.return_, 1)) (hq : mm_tab[m]? = some q) (hr : q.2.2.2.1 = none) : Wp L xs d m pc ls [] M Q = Q none M := Wp_ret hI rfl (by unfold mm_ret; rw [hq]; dsimp only; rw [if_pos hr])
theorem w_ireturn {q : mm_MT} {x : Int32} (hI : mm_I m pc = some (.ireturn, 1)) (hq : mm_tab[m]? = some q) (hr : q.2.2.2.1 = some .int) : Wp L xs d m pc ls [.int x] M Q = Q (some (.int x)) M := Wp_ret hI rfl (by unfold mm_ret; rw [hq]; dsimp only; rw [hr]; dsimp only; rw [if_pos ⟨rfl, by decide⟩])
theorem w_zreturn {q : mm_MT} {x : Int32} (hI : mm_I m pc = some (.ireturn, 1)) (hq : mm_tab[m]? = some q) (hr : q.2.2.2.1 = some .boolean) (hx : x = 0 ∨ x = 1) : Wp L xs d m pc ls [.int x] M Q = Q (some (.int x)) M := Wp_ret hI rfl (by unfold mm_ret; rw [hq]; dsimp only; rw [hr]; dsimp only; rw [if_pos ⟨by rcases hx with rfl | rfl <;> rfl, by decide⟩])
theorem w_breturn {q : mm_MT} {x : Int32} {ty : FieldType} (hI : mm_I m pc = some (.ireturn, 1)) (hq : mm_tab[m]? = some q) (hr : q.2.2.2.1 = some ty) (hx : narrow ty (.int x) = .int x ∧ ty ≠ .long) : Wp L xs d m pc ls [.int x] M Q = Q (some (.int x)) M := Wp_ret hI rfl (by unfold mm_ret; rw [hq]; dsimp only; rw [hr]; dsimp only; rw [if_pos hx])
theorem w_lreturn {q : mm_MT} {x : Int64} (hI : mm_I m pc = some (.lreturn, 1)) (hq : mm_tab[m]? = some q) (hr : q.2.2.2.1 = some .long) : Wp L xs d m pc ls [.long x] M Q = Q (some (.long x)) M := Wp_ret hI rfl (by unfold mm_ret; rw [hq]; dsimp only; rw [if_pos hr])
theorem w_areturn_r {q : mm_MT} {ty : FieldType} {a : Nat} (hI : mm_I m pc = some (.areturn, 1)) (hq : mm_tab[m]? = some q) (hr : q.2.2.2.1 = some ty) (ht : ty.isReference = true) : Wp L xs d m pc ls [.ref a] M Q = Q (some (.ref a)) M := Wp_ret hI rfl (by unfold mm_ret; rw [hq]; dsimp only; rw [hr]; dsimp only; rw [if_pos ht])
theorem w_areturn_n {q : mm_MT} {ty : FieldType} (hI : mm_I m pc = some (.areturn, 1)) (hq : mm_tab[m]? = some q) (hr : q.2.2.2.1 = some ty) (ht : ty.isReference = true) : Wp L xs d m pc ls [.null] M Q = Q (some .null) M := Wp_ret hI rfl (by unfold mm_ret; rw [hq]; dsimp only; rw [hr]; dsimp only; rw [if_pos ht])
/-- calls -/
theorem w_callS {idx : Nat} {q : Nat × Nat × Nat × Bool × Nat} {r : mm_MT} {m' n : Nat} {as rest : List Value} (hI : mm_I m pc = some (.invokestatic idx, 3)) (hf : mm_ctf m idx = some q) (hm : q.2.2.1 = m' ∧ m' ≠ mm_law) (hr : mm_tab[m']? = some r) (hk : r.2.2.2.2.2.2 = 1 ∧ r.2.2.2.2.2.1 = n) (hn : as.length = n) (hs : mm_cs rest ≤ 8) : Wp L xs (d + 1) m pc ls (as.reverse ++ rest) M Q = Call L xs d m' as M (fun r M' => Wp L xs (d + 1) m (pc + 3) ls (r.toList ++ rest) M' Q) := Wp_call hI rfl ret_none_S (by
  obtain ⟨rfl, hm⟩ := hm
  obtain ⟨hk, rfl⟩ := hk
  unfold mm_call; dsimp only; rw [hf]; dsimp only; rw [hr]; dsimp only
  have e1 : List.drop r.2.2.2.2.2.1 (as.reverse ++ rest) = rest := by rw [← hn, ← List.length_reverse, List.drop_left]
  have e2 : List.take r.2.2.2.2.2.1 (as.reverse ++ rest) = as.reverse := by rw [← hn, ← List.length_reverse, List.take_left]
  rw [e1, e2, if_pos ⟨hk, by simp; omega, hs, hm⟩, List.reverse_reverse])
theorem w_callV {idx : Nat} {q : Nat × Nat × Nat × Bool × Nat} {r : mm_MT} {m' n : Nat} {v : Value} {as rest : List Value} (hI : mm_I m pc = some (.invokevirtual idx, 3)) (hf : mm_ctf m idx = some q) (hm : q.2.2.1 = m' ∧ m' ≠ mm_law ∧ q.2.2.2.1 = false) (hr : mm_tab[m']? = some r) (hk : r.2.2.2.2.2.2 = 0 ∧ r.2.2.2.2.2.1 = n) (hv : mm_rcv M r.2.2.2.2.1 v = true) (hn : as.length = n) (hs : mm_cs rest ≤ 8) : Wp L xs (d + 1) m pc ls (as.reverse ++ v :: rest) M Q = Call L xs d m' (v :: as) M (fun r M' => Wp L xs (d + 1) m (pc + 3) ls (r.toList ++ rest) M' Q) := Wp_call hI rfl ret_none_V (by
  obtain ⟨rfl, hm, hq⟩ := hm
  obtain ⟨hk, rfl⟩ := hk
  unfold mm_call; dsimp only; rw [hf]; dsimp only; rw [hr]; dsimp only
  have e1 : List.drop r.2.2.2.2.2.1 (as.reverse ++ v :: rest) = v :: rest := by rw [← hn, ← List.length_reverse, List.drop_left]
  have e2 : List.take r.2.2.2.2.2.1 (as.reverse ++ v :: rest) = as.reverse := by rw [← hn, ← List.length_reverse, List.take_left]
  rw [e1, e2]; dsimp only; rw [if_pos ⟨hk, by simp; omega, hs, hq, hv, hm⟩, List.reverse_reverse])
theorem w_callI {idx o : Nat} {q : Nat × Nat × Nat × Bool × Nat} {r : mm_MT} {m' n : Nat} {as rest : List Value} (hI : mm_I m pc = some (.invokespecial idx, 3)) (hf : mm_ctf m idx = some q) (hm : q.2.2.1 = m' ∧ m' ≠ mm_law) (hr : mm_tab[m']? = some r) (hk : r.2.2.2.2.2.2 = 2 ∧ r.2.2.2.2.2.1 = n) (hn : as.length = n) (hs : mm_cs rest ≤ 8) : Wp L xs (d + 1) m pc ls (as.reverse ++ .ref o :: rest) M Q = Call L xs d m' (.ref o :: as) M (fun r M' => Wp L xs (d + 1) m (pc + 3) ls (r.toList ++ rest) M' Q) := Wp_call hI rfl ret_none_I (by
  obtain ⟨rfl, hm⟩ := hm
  obtain ⟨hk, rfl⟩ := hk
  unfold mm_call; dsimp only; rw [hf]; dsimp only; rw [hr]; dsimp only
  have e1 : List.drop r.2.2.2.2.2.1 (as.reverse ++ .ref o :: rest) = .ref o :: rest := by rw [← hn, ← List.length_reverse, List.drop_left]
  have e2 : List.take r.2.2.2.2.2.1 (as.reverse ++ .ref o :: rest) = as.reverse := by rw [← hn, ← List.length_reverse, List.take_left]
  rw [e1, e2]; dsimp only; rw [if_pos ⟨hk, by simp; omega, hs, hm⟩, List.reverse_reverse])
theorem Call_ent {l0 as : List Value} (h : mm_ent m as = some l0) : Call L xs d m as M Q = Wp L xs d m 0 l0 [] M Q := by
  apply propext
  constructor
  · rintro ⟨l1, h1, h2⟩; rw [h] at h1; cases h1; exact h2
  · intro h2; exact ⟨l0, h, h2⟩
end WPS
end
