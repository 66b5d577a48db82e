section
-- ===== PART A: goes FIRST, ahead of the names: the tables' words, and 'selects' of the private methods out of them =====
/-- a private method of a class that the tables say can be made, by its rows of tables_1 -/
def lw_okq (q : MethodName × Nat) : Prop := (q.1.cls ≠ "java/lang/invoke/MethodHandle" ∧ q.1.cls ≠ "java/lang/invoke/VarHandle") ∧ Cond.instantiable q.1.cls q.2 ∈ tables_1 ∧ Cond.privateMethod q.1 ∈ tables_1 ∧ Cond.instanceMethod q.1 ∈ tables_1
theorem lw_p0 : lw_okq (⟨"LastSun", "find", "(I)I"⟩, 10) := ⟨⟨by decide +kernel, by decide +kernel⟩, List.mem_of_getElem? (i := 18) (by decide +kernel), List.mem_of_getElem? (i := 306) (by decide +kernel), List.mem_of_getElem? (i := 307) (by decide +kernel)⟩
theorem lw_p1 : lw_okq (⟨"LastSun", "answer", "(I)I"⟩, 10) := ⟨⟨by decide +kernel, by decide +kernel⟩, List.mem_of_getElem? (i := 18) (by decide +kernel), List.mem_of_getElem? (i := 315) (by decide +kernel), List.mem_of_getElem? (i := 316) (by decide +kernel)⟩
theorem lw_p2 : lw_okq (⟨"LastSun$Tape", "advance", "()V"⟩, 7) := ⟨⟨by decide +kernel, by decide +kernel⟩, List.mem_of_getElem? (i := 117) (by decide +kernel), List.mem_of_getElem? (i := 371) (by decide +kernel), List.mem_of_getElem? (i := 372) (by decide +kernel)⟩
theorem lw_p3 : lw_okq (⟨"LastSun$Tape", "isBetween", "(ICC)Z"⟩, 7) := ⟨⟨by decide +kernel, by decide +kernel⟩, List.mem_of_getElem? (i := 117) (by decide +kernel), List.mem_of_getElem? (i := 375) (by decide +kernel), List.mem_of_getElem? (i := 376) (by decide +kernel)⟩
theorem lw_p4 : lw_okq (⟨"LastSun$Tape", "pass", "(CC)V"⟩, 7) := ⟨⟨by decide +kernel, by decide +kernel⟩, List.mem_of_getElem? (i := 117) (by decide +kernel), List.mem_of_getElem? (i := 379) (by decide +kernel), List.mem_of_getElem? (i := 380) (by decide +kernel)⟩
theorem lw_p5 : lw_okq (⟨"LastSun$Tape", "readLaw", "(LLastSun$Beach;)Z"⟩, 7) := ⟨⟨by decide +kernel, by decide +kernel⟩, List.mem_of_getElem? (i := 117) (by decide +kernel), List.mem_of_getElem? (i := 387) (by decide +kernel), List.mem_of_getElem? (i := 388) (by decide +kernel)⟩
theorem lw_p6 : lw_okq (⟨"LastSun$Tape", "takeWord", "(Ljava/lang/String;)Z"⟩, 7) := ⟨⟨by decide +kernel, by decide +kernel⟩, List.mem_of_getElem? (i := 117) (by decide +kernel), List.mem_of_getElem? (i := 392) (by decide +kernel), List.mem_of_getElem? (i := 393) (by decide +kernel)⟩
theorem lw_p7 : lw_okq (⟨"LastSun$Tape", "isWord", "(Ljava/lang/String;)Z"⟩, 7) := ⟨⟨by decide +kernel, by decide +kernel⟩, List.mem_of_getElem? (i := 117) (by decide +kernel), List.mem_of_getElem? (i := 396) (by decide +kernel), List.mem_of_getElem? (i := 397) (by decide +kernel)⟩
theorem lw_p8 : lw_okq (⟨"LastSun$Tape", "fail", "(I)Z"⟩, 7) := ⟨⟨by decide +kernel, by decide +kernel⟩, List.mem_of_getElem? (i := 117) (by decide +kernel), List.mem_of_getElem? (i := 448) (by decide +kernel), List.mem_of_getElem? (i := 449) (by decide +kernel)⟩
theorem lw_p9 : lw_okq (⟨"LastSun$Tape", "takeNumber", "(II)Z"⟩, 7) := ⟨⟨by decide +kernel, by decide +kernel⟩, List.mem_of_getElem? (i := 117) (by decide +kernel), List.mem_of_getElem? (i := 452) (by decide +kernel), List.mem_of_getElem? (i := 453) (by decide +kernel)⟩
theorem lw_p10 : lw_okq (⟨"LastSun$Tape", "figuresRead", "()I"⟩, 7) := ⟨⟨by decide +kernel, by decide +kernel⟩, List.mem_of_getElem? (i := 117) (by decide +kernel), List.mem_of_getElem? (i := 456) (by decide +kernel), List.mem_of_getElem? (i := 457) (by decide +kernel)⟩
theorem lw_p11 : lw_okq (⟨"LastSun$Tape", "takeSign", "()Z"⟩, 7) := ⟨⟨by decide +kernel, by decide +kernel⟩, List.mem_of_getElem? (i := 117) (by decide +kernel), List.mem_of_getElem? (i := 460) (by decide +kernel), List.mem_of_getElem? (i := 461) (by decide +kernel)⟩
theorem lw_p12 : lw_okq (⟨"LastSun$Tape", "readSun", "(LLastSun$Beach;)Z"⟩, 7) := ⟨⟨by decide +kernel, by decide +kernel⟩, List.mem_of_getElem? (i := 117) (by decide +kernel), List.mem_of_getElem? (i := 464) (by decide +kernel), List.mem_of_getElem? (i := 465) (by decide +kernel)⟩
theorem lw_p13 : lw_okq (⟨"LastSun$Tape", "readGuests", "(LLastSun$Beach;)Z"⟩, 7) := ⟨⟨by decide +kernel, by decide +kernel⟩, List.mem_of_getElem? (i := 117) (by decide +kernel), List.mem_of_getElem? (i := 469) (by decide +kernel), List.mem_of_getElem? (i := 470) (by decide +kernel)⟩
theorem lw_p14 : lw_okq (⟨"LastSun$Tape", "readGuest", "(LLastSun$Beach;I)Z"⟩, 7) := ⟨⟨by decide +kernel, by decide +kernel⟩, List.mem_of_getElem? (i := 117) (by decide +kernel), List.mem_of_getElem? (i := 473) (by decide +kernel), List.mem_of_getElem? (i := 474) (by decide +kernel)⟩
theorem lw_p15 : lw_okq (⟨"LastSun$Tape", "takeSort", "()Z"⟩, 7) := ⟨⟨by decide +kernel, by decide +kernel⟩, List.mem_of_getElem? (i := 117) (by decide +kernel), List.mem_of_getElem? (i := 478) (by decide +kernel), List.mem_of_getElem? (i := 479) (by decide +kernel)⟩
def lw_privs_1 : List (MethodName × Nat) := [(⟨"LastSun", "find", "(I)I"⟩, 10), (⟨"LastSun", "answer", "(I)I"⟩, 10), (⟨"LastSun$Tape", "advance", "()V"⟩, 7), (⟨"LastSun$Tape", "isBetween", "(ICC)Z"⟩, 7), (⟨"LastSun$Tape", "pass", "(CC)V"⟩, 7), (⟨"LastSun$Tape", "readLaw", "(LLastSun$Beach;)Z"⟩, 7), (⟨"LastSun$Tape", "takeWord", "(Ljava/lang/String;)Z"⟩, 7), (⟨"LastSun$Tape", "isWord", "(Ljava/lang/String;)Z"⟩, 7), (⟨"LastSun$Tape", "fail", "(I)Z"⟩, 7), (⟨"LastSun$Tape", "takeNumber", "(II)Z"⟩, 7), (⟨"LastSun$Tape", "figuresRead", "()I"⟩, 7), (⟨"LastSun$Tape", "takeSign", "()Z"⟩, 7), (⟨"LastSun$Tape", "readSun", "(LLastSun$Beach;)Z"⟩, 7), (⟨"LastSun$Tape", "readGuests", "(LLastSun$Beach;)Z"⟩, 7), (⟨"LastSun$Tape", "readGuest", "(LLastSun$Beach;I)Z"⟩, 7), (⟨"LastSun$Tape", "takeSort", "()Z"⟩, 7)]
theorem lw_r1 : ∀ q ∈ lw_privs_1, lw_okq q := List.forall_mem_cons.mpr ⟨lw_p0, List.forall_mem_cons.mpr ⟨lw_p1, List.forall_mem_cons.mpr ⟨lw_p2, List.forall_mem_cons.mpr ⟨lw_p3, List.forall_mem_cons.mpr ⟨lw_p4, List.forall_mem_cons.mpr ⟨lw_p5, List.forall_mem_cons.mpr ⟨lw_p6, List.forall_mem_cons.mpr ⟨lw_p7, List.forall_mem_cons.mpr ⟨lw_p8, List.forall_mem_cons.mpr ⟨lw_p9, List.forall_mem_cons.mpr ⟨lw_p10, List.forall_mem_cons.mpr ⟨lw_p11, List.forall_mem_cons.mpr ⟨lw_p12, List.forall_mem_cons.mpr ⟨lw_p13, List.forall_mem_cons.mpr ⟨lw_p14, List.forall_mem_cons.mpr ⟨lw_p15, fun _ h => absurd h List.not_mem_nil⟩⟩⟩⟩⟩⟩⟩⟩⟩⟩⟩⟩⟩⟩⟩⟩
theorem lw_p16 : lw_okq (⟨"LastSun$Day", "longest", "()I"⟩, 8) := ⟨⟨by decide +kernel, by decide +kernel⟩, List.mem_of_getElem? (i := 174) (by decide +kernel), List.mem_of_getElem? (i := 583) (by decide +kernel), List.mem_of_getElem? (i := 584) (by decide +kernel)⟩
theorem lw_p17 : lw_okq (⟨"LastSun$Day", "bill", "(I)I"⟩, 8) := ⟨⟨by decide +kernel, by decide +kernel⟩, List.mem_of_getElem? (i := 174) (by decide +kernel), List.mem_of_getElem? (i := 587) (by decide +kernel), List.mem_of_getElem? (i := 588) (by decide +kernel)⟩
theorem lw_p18 : lw_okq (⟨"LastSun$Day", "alike", "(III)I"⟩, 8) := ⟨⟨by decide +kernel, by decide +kernel⟩, List.mem_of_getElem? (i := 174) (by decide +kernel), List.mem_of_getElem? (i := 591) (by decide +kernel), List.mem_of_getElem? (i := 592) (by decide +kernel)⟩
theorem lw_p19 : lw_okq (⟨"LastSun$Day", "byWeight", "(III)I"⟩, 8) := ⟨⟨by decide +kernel, by decide +kernel⟩, List.mem_of_getElem? (i := 174) (by decide +kernel), List.mem_of_getElem? (i := 595) (by decide +kernel), List.mem_of_getElem? (i := 596) (by decide +kernel)⟩
theorem lw_p20 : lw_okq (⟨"LastSun$Day", "byHours", "(I)I"⟩, 8) := ⟨⟨by decide +kernel, by decide +kernel⟩, List.mem_of_getElem? (i := 174) (by decide +kernel), List.mem_of_getElem? (i := 600) (by decide +kernel), List.mem_of_getElem? (i := 601) (by decide +kernel)⟩
theorem lw_p21 : lw_okq (⟨"LastSun", "hear", "(IZ)I"⟩, 10) := ⟨⟨by decide +kernel, by decide +kernel⟩, List.mem_of_getElem? (i := 18) (by decide +kernel), List.mem_of_getElem? (i := 638) (by decide +kernel), List.mem_of_getElem? (i := 639) (by decide +kernel)⟩
theorem lw_p22 : lw_okq (⟨"LastSun", "look", "(IZI)I"⟩, 10) := ⟨⟨by decide +kernel, by decide +kernel⟩, List.mem_of_getElem? (i := 18) (by decide +kernel), List.mem_of_getElem? (i := 642) (by decide +kernel), List.mem_of_getElem? (i := 643) (by decide +kernel)⟩
theorem lw_p23 : lw_okq (⟨"LastSun$Foretold", "forgetCommon", "()V"⟩, 5) := ⟨⟨by decide +kernel, by decide +kernel⟩, List.mem_of_getElem? (i := 168) (by decide +kernel), List.mem_of_getElem? (i := 684) (by decide +kernel), List.mem_of_getElem? (i := 685) (by decide +kernel)⟩
theorem lw_p24 : lw_okq (⟨"LastSun$Foretold", "countChoices", "()I"⟩, 5) := ⟨⟨by decide +kernel, by decide +kernel⟩, List.mem_of_getElem? (i := 168) (by decide +kernel), List.mem_of_getElem? (i := 688) (by decide +kernel), List.mem_of_getElem? (i := 689) (by decide +kernel)⟩
theorem lw_p25 : lw_okq (⟨"LastSun$Foretold", "choose", "(I)V"⟩, 5) := ⟨⟨by decide +kernel, by decide +kernel⟩, List.mem_of_getElem? (i := 168) (by decide +kernel), List.mem_of_getElem? (i := 692) (by decide +kernel), List.mem_of_getElem? (i := 693) (by decide +kernel)⟩
theorem lw_p26 : lw_okq (⟨"LastSun$Foretold", "isRest", "()Z"⟩, 5) := ⟨⟨by decide +kernel, by decide +kernel⟩, List.mem_of_getElem? (i := 168) (by decide +kernel), List.mem_of_getElem? (i := 696) (by decide +kernel), List.mem_of_getElem? (i := 697) (by decide +kernel)⟩
theorem lw_p27 : lw_okq (⟨"LastSun$Foretold", "isPaid", "([I)Z"⟩, 5) := ⟨⟨by decide +kernel, by decide +kernel⟩, List.mem_of_getElem? (i := 168) (by decide +kernel), List.mem_of_getElem? (i := 742) (by decide +kernel), List.mem_of_getElem? (i := 743) (by decide +kernel)⟩
theorem lw_p28 : lw_okq (⟨"LastSun$Foretold", "meetCommon", "(Z)V"⟩, 5) := ⟨⟨by decide +kernel, by decide +kernel⟩, List.mem_of_getElem? (i := 168) (by decide +kernel), List.mem_of_getElem? (i := 747) (by decide +kernel), List.mem_of_getElem? (i := 748) (by decide +kernel)⟩
theorem lw_p29 : lw_okq (⟨"LastSun$Foretold", "gapOfWorths", "()I"⟩, 5) := ⟨⟨by decide +kernel, by decide +kernel⟩, List.mem_of_getElem? (i := 168) (by decide +kernel), List.mem_of_getElem? (i := 760) (by decide +kernel), List.mem_of_getElem? (i := 761) (by decide +kernel)⟩
theorem lw_p30 : lw_okq (⟨"LastSun$Asks", "sizeAs", "(LLastSun$Beach;III)I"⟩, 2) := ⟨⟨by decide +kernel, by decide +kernel⟩, List.mem_of_getElem? (i := 231) (by decide +kernel), List.mem_of_getElem? (i := 817) (by decide +kernel), List.mem_of_getElem? (i := 818) (by decide +kernel)⟩
theorem lw_p31 : lw_okq (⟨"LastSun$Asks", "note", "(I)V"⟩, 2) := ⟨⟨by decide +kernel, by decide +kernel⟩, List.mem_of_getElem? (i := 231) (by decide +kernel), List.mem_of_getElem? (i := 821) (by decide +kernel), List.mem_of_getElem? (i := 822) (by decide +kernel)⟩
def lw_privs_2 : List (MethodName × Nat) := [(⟨"LastSun$Day", "longest", "()I"⟩, 8), (⟨"LastSun$Day", "bill", "(I)I"⟩, 8), (⟨"LastSun$Day", "alike", "(III)I"⟩, 8), (⟨"LastSun$Day", "byWeight", "(III)I"⟩, 8), (⟨"LastSun$Day", "byHours", "(I)I"⟩, 8), (⟨"LastSun", "hear", "(IZ)I"⟩, 10), (⟨"LastSun", "look", "(IZI)I"⟩, 10), (⟨"LastSun$Foretold", "forgetCommon", "()V"⟩, 5), (⟨"LastSun$Foretold", "countChoices", "()I"⟩, 5), (⟨"LastSun$Foretold", "choose", "(I)V"⟩, 5), (⟨"LastSun$Foretold", "isRest", "()Z"⟩, 5), (⟨"LastSun$Foretold", "isPaid", "([I)Z"⟩, 5), (⟨"LastSun$Foretold", "meetCommon", "(Z)V"⟩, 5), (⟨"LastSun$Foretold", "gapOfWorths", "()I"⟩, 5), (⟨"LastSun$Asks", "sizeAs", "(LLastSun$Beach;III)I"⟩, 2), (⟨"LastSun$Asks", "note", "(I)V"⟩, 2)]
theorem lw_r2 : ∀ q ∈ lw_privs_2, lw_okq q := List.forall_mem_cons.mpr ⟨lw_p16, List.forall_mem_cons.mpr ⟨lw_p17, List.forall_mem_cons.mpr ⟨lw_p18, List.forall_mem_cons.mpr ⟨lw_p19, List.forall_mem_cons.mpr ⟨lw_p20, List.forall_mem_cons.mpr ⟨lw_p21, List.forall_mem_cons.mpr ⟨lw_p22, List.forall_mem_cons.mpr ⟨lw_p23, List.forall_mem_cons.mpr ⟨lw_p24, List.forall_mem_cons.mpr ⟨lw_p25, List.forall_mem_cons.mpr ⟨lw_p26, List.forall_mem_cons.mpr ⟨lw_p27, List.forall_mem_cons.mpr ⟨lw_p28, List.forall_mem_cons.mpr ⟨lw_p29, List.forall_mem_cons.mpr ⟨lw_p30, List.forall_mem_cons.mpr ⟨lw_p31, fun _ h => absurd h List.not_mem_nil⟩⟩⟩⟩⟩⟩⟩⟩⟩⟩⟩⟩⟩⟩⟩⟩
theorem lw_p32 : lw_okq (⟨"LastSun$Asks", "markAs", "(LLastSun$Beach;III)I"⟩, 2) := ⟨⟨by decide +kernel, by decide +kernel⟩, List.mem_of_getElem? (i := 231) (by decide +kernel), List.mem_of_getElem? (i := 825) (by decide +kernel), List.mem_of_getElem? (i := 826) (by decide +kernel)⟩
theorem lw_p33 : lw_okq (⟨"LastSun", "countRows", "()I"⟩, 10) := ⟨⟨by decide +kernel, by decide +kernel⟩, List.mem_of_getElem? (i := 18) (by decide +kernel), List.mem_of_getElem? (i := 837) (by decide +kernel), List.mem_of_getElem? (i := 838) (by decide +kernel)⟩
theorem lw_p34 : lw_okq (⟨"LastSunModel", "found", "(I)I"⟩, 25) := ⟨⟨by decide +kernel, by decide +kernel⟩, List.mem_of_getElem? (i := 855) (by decide +kernel), List.mem_of_getElem? (i := 951) (by decide +kernel), List.mem_of_getElem? (i := 952) (by decide +kernel)⟩
theorem lw_p35 : lw_okq (⟨"LastSunModel", "well", "(I)I"⟩, 25) := ⟨⟨by decide +kernel, by decide +kernel⟩, List.mem_of_getElem? (i := 855) (by decide +kernel), List.mem_of_getElem? (i := 956) (by decide +kernel), List.mem_of_getElem? (i := 957) (by decide +kernel)⟩
theorem lw_p36 : lw_okq (⟨"LastSunModel", "reads", "()Z"⟩, 25) := ⟨⟨by decide +kernel, by decide +kernel⟩, List.mem_of_getElem? (i := 855) (by decide +kernel), List.mem_of_getElem? (i := 983) (by decide +kernel), List.mem_of_getElem? (i := 984) (by decide +kernel)⟩
theorem lw_p37 : lw_okq (⟨"LastSunModel", "isWord", "(J)Z"⟩, 25) := ⟨⟨by decide +kernel, by decide +kernel⟩, List.mem_of_getElem? (i := 855) (by decide +kernel), List.mem_of_getElem? (i := 988) (by decide +kernel), List.mem_of_getElem? (i := 989) (by decide +kernel)⟩
theorem lw_p38 : lw_okq (⟨"LastSunModel", "next", "()V"⟩, 25) := ⟨⟨by decide +kernel, by decide +kernel⟩, List.mem_of_getElem? (i := 855) (by decide +kernel), List.mem_of_getElem? (i := 992) (by decide +kernel), List.mem_of_getElem? (i := 993) (by decide +kernel)⟩
theorem lw_p39 : lw_okq (⟨"LastSunModel", "mustBe", "(Z)Z"⟩, 25) := ⟨⟨by decide +kernel, by decide +kernel⟩, List.mem_of_getElem? (i := 855) (by decide +kernel), List.mem_of_getElem? (i := 1007) (by decide +kernel), List.mem_of_getElem? (i := 1008) (by decide +kernel)⟩
theorem lw_p40 : lw_okq (⟨"LastSunModel", "number", "(III)Z"⟩, 25) := ⟨⟨by decide +kernel, by decide +kernel⟩, List.mem_of_getElem? (i := 855) (by decide +kernel), List.mem_of_getElem? (i := 1011) (by decide +kernel), List.mem_of_getElem? (i := 1012) (by decide +kernel)⟩
theorem lw_p41 : lw_okq (⟨"LastSunModel", "ends", "()Z"⟩, 25) := ⟨⟨by decide +kernel, by decide +kernel⟩, List.mem_of_getElem? (i := 855) (by decide +kernel), List.mem_of_getElem? (i := 1015) (by decide +kernel), List.mem_of_getElem? (i := 1016) (by decide +kernel)⟩
theorem lw_p42 : lw_okq (⟨"LastSunModel", "readsGuest", "()Z"⟩, 25) := ⟨⟨by decide +kernel, by decide +kernel⟩, List.mem_of_getElem? (i := 855) (by decide +kernel), List.mem_of_getElem? (i := 1020) (by decide +kernel), List.mem_of_getElem? (i := 1021) (by decide +kernel)⟩
theorem lw_p43 : lw_okq (⟨"LastSunModel", "kindHere", "()I"⟩, 25) := ⟨⟨by decide +kernel, by decide +kernel⟩, List.mem_of_getElem? (i := 855) (by decide +kernel), List.mem_of_getElem? (i := 1025) (by decide +kernel), List.mem_of_getElem? (i := 1026) (by decide +kernel)⟩
theorem lw_p44 : lw_okq (⟨"LastSunModel", "remember", "()V"⟩, 25) := ⟨⟨by decide +kernel, by decide +kernel⟩, List.mem_of_getElem? (i := 855) (by decide +kernel), List.mem_of_getElem? (i := 1047) (by decide +kernel), List.mem_of_getElem? (i := 1048) (by decide +kernel)⟩
theorem lw_p45 : lw_okq (⟨"LastSunModel", "priceOf", "(I)I"⟩, 25) := ⟨⟨by decide +kernel, by decide +kernel⟩, List.mem_of_getElem? (i := 855) (by decide +kernel), List.mem_of_getElem? (i := 1051) (by decide +kernel), List.mem_of_getElem? (i := 1052) (by decide +kernel)⟩
theorem lw_p46 : lw_okq (⟨"LastSunModel", "isGuest", "(I)Z"⟩, 25) := ⟨⟨by decide +kernel, by decide +kernel⟩, List.mem_of_getElem? (i := 855) (by decide +kernel), List.mem_of_getElem? (i := 1059) (by decide +kernel), List.mem_of_getElem? (i := 1060) (by decide +kernel)⟩
theorem lw_p47 : lw_okq (⟨"LastSunModel", "layNow", "()V"⟩, 25) := ⟨⟨by decide +kernel, by decide +kernel⟩, List.mem_of_getElem? (i := 855) (by decide +kernel), List.mem_of_getElem? (i := 1081) (by decide +kernel), List.mem_of_getElem? (i := 1082) (by decide +kernel)⟩
def lw_privs_3 : List (MethodName × Nat) := [(⟨"LastSun$Asks", "markAs", "(LLastSun$Beach;III)I"⟩, 2), (⟨"LastSun", "countRows", "()I"⟩, 10), (⟨"LastSunModel", "found", "(I)I"⟩, 25), (⟨"LastSunModel", "well", "(I)I"⟩, 25), (⟨"LastSunModel", "reads", "()Z"⟩, 25), (⟨"LastSunModel", "isWord", "(J)Z"⟩, 25), (⟨"LastSunModel", "next", "()V"⟩, 25), (⟨"LastSunModel", "mustBe", "(Z)Z"⟩, 25), (⟨"LastSunModel", "number", "(III)Z"⟩, 25), (⟨"LastSunModel", "ends", "()Z"⟩, 25), (⟨"LastSunModel", "readsGuest", "()Z"⟩, 25), (⟨"LastSunModel", "kindHere", "()I"⟩, 25), (⟨"LastSunModel", "remember", "()V"⟩, 25), (⟨"LastSunModel", "priceOf", "(I)I"⟩, 25), (⟨"LastSunModel", "isGuest", "(I)Z"⟩, 25), (⟨"LastSunModel", "layNow", "()V"⟩, 25)]
theorem lw_r3 : ∀ q ∈ lw_privs_3, lw_okq q := List.forall_mem_cons.mpr ⟨lw_p32, List.forall_mem_cons.mpr ⟨lw_p33, List.forall_mem_cons.mpr ⟨lw_p34, List.forall_mem_cons.mpr ⟨lw_p35, List.forall_mem_cons.mpr ⟨lw_p36, List.forall_mem_cons.mpr ⟨lw_p37, List.forall_mem_cons.mpr ⟨lw_p38, List.forall_mem_cons.mpr ⟨lw_p39, List.forall_mem_cons.mpr ⟨lw_p40, List.forall_mem_cons.mpr ⟨lw_p41, List.forall_mem_cons.mpr ⟨lw_p42, List.forall_mem_cons.mpr ⟨lw_p43, List.forall_mem_cons.mpr ⟨lw_p44, List.forall_mem_cons.mpr ⟨lw_p45, List.forall_mem_cons.mpr ⟨lw_p46, List.forall_mem_cons.mpr ⟨lw_p47, fun _ h => absurd h List.not_mem_nil⟩⟩⟩⟩⟩⟩⟩⟩⟩⟩⟩⟩⟩⟩⟩⟩
theorem lw_p48 : lw_okq (⟨"LastSunModel", "share", "()V"⟩, 25) := ⟨⟨by decide +kernel, by decide +kernel⟩, List.mem_of_getElem? (i := 855) (by decide +kernel), List.mem_of_getElem? (i := 1085) (by decide +kernel), List.mem_of_getElem? (i := 1086) (by decide +kernel)⟩
theorem lw_p49 : lw_okq (⟨"LastSunModel", "longest", "()I"⟩, 25) := ⟨⟨by decide +kernel, by decide +kernel⟩, List.mem_of_getElem? (i := 855) (by decide +kernel), List.mem_of_getElem? (i := 1089) (by decide +kernel), List.mem_of_getElem? (i := 1090) (by decide +kernel)⟩
theorem lw_p50 : lw_okq (⟨"LastSunModel", "sum", "()I"⟩, 25) := ⟨⟨by decide +kernel, by decide +kernel⟩, List.mem_of_getElem? (i := 855) (by decide +kernel), List.mem_of_getElem? (i := 1093) (by decide +kernel), List.mem_of_getElem? (i := 1094) (by decide +kernel)⟩
theorem lw_p51 : lw_okq (⟨"LastSunModel", "parts", "(II)V"⟩, 25) := ⟨⟨by decide +kernel, by decide +kernel⟩, List.mem_of_getElem? (i := 855) (by decide +kernel), List.mem_of_getElem? (i := 1097) (by decide +kernel), List.mem_of_getElem? (i := 1098) (by decide +kernel)⟩
theorem lw_p52 : lw_okq (⟨"LastSunModel", "heads", "(I)I"⟩, 25) := ⟨⟨by decide +kernel, by decide +kernel⟩, List.mem_of_getElem? (i := 855) (by decide +kernel), List.mem_of_getElem? (i := 1101) (by decide +kernel), List.mem_of_getElem? (i := 1102) (by decide +kernel)⟩
theorem lw_p53 : lw_okq (⟨"LastSunModel", "payOf", "(I)I"⟩, 25) := ⟨⟨by decide +kernel, by decide +kernel⟩, List.mem_of_getElem? (i := 855) (by decide +kernel), List.mem_of_getElem? (i := 1106) (by decide +kernel), List.mem_of_getElem? (i := 1107) (by decide +kernel)⟩
theorem lw_p54 : lw_okq (⟨"LastSunModel", "tells", "(IZI)I"⟩, 25) := ⟨⟨by decide +kernel, by decide +kernel⟩, List.mem_of_getElem? (i := 855) (by decide +kernel), List.mem_of_getElem? (i := 1130) (by decide +kernel), List.mem_of_getElem? (i := 1131) (by decide +kernel)⟩
theorem lw_p55 : lw_okq (⟨"LastSunModel", "worthOf", "(I)I"⟩, 25) := ⟨⟨by decide +kernel, by decide +kernel⟩, List.mem_of_getElem? (i := 855) (by decide +kernel), List.mem_of_getElem? (i := 1134) (by decide +kernel), List.mem_of_getElem? (i := 1135) (by decide +kernel)⟩
theorem lw_p56 : lw_okq (⟨"LastSunModel", "joyOf", "(II)I"⟩, 25) := ⟨⟨by decide +kernel, by decide +kernel⟩, List.mem_of_getElem? (i := 855) (by decide +kernel), List.mem_of_getElem? (i := 1138) (by decide +kernel), List.mem_of_getElem? (i := 1139) (by decide +kernel)⟩
theorem lw_p57 : lw_okq (⟨"LastSunModel", "bestOf", "(I)I"⟩, 25) := ⟨⟨by decide +kernel, by decide +kernel⟩, List.mem_of_getElem? (i := 855) (by decide +kernel), List.mem_of_getElem? (i := 1146) (by decide +kernel), List.mem_of_getElem? (i := 1147) (by decide +kernel)⟩
theorem lw_p58 : lw_okq (⟨"LastSunModel", "turns", "()I"⟩, 25) := ⟨⟨by decide +kernel, by decide +kernel⟩, List.mem_of_getElem? (i := 855) (by decide +kernel), List.mem_of_getElem? (i := 1154) (by decide +kernel), List.mem_of_getElem? (i := 1155) (by decide +kernel)⟩
theorem lw_p59 : lw_okq (⟨"LastSunModel", "rows", "()I"⟩, 25) := ⟨⟨by decide +kernel, by decide +kernel⟩, List.mem_of_getElem? (i := 855) (by decide +kernel), List.mem_of_getElem? (i := 1162) (by decide +kernel), List.mem_of_getElem? (i := 1163) (by decide +kernel)⟩
theorem lw_p60 : lw_okq (⟨"LastSunModel", "tellBy", "(I)V"⟩, 25) := ⟨⟨by decide +kernel, by decide +kernel⟩, List.mem_of_getElem? (i := 855) (by decide +kernel), List.mem_of_getElem? (i := 1166) (by decide +kernel), List.mem_of_getElem? (i := 1167) (by decide +kernel)⟩
theorem lw_p61 : lw_okq (⟨"LastSunModel", "isRest", "()Z"⟩, 25) := ⟨⟨by decide +kernel, by decide +kernel⟩, List.mem_of_getElem? (i := 855) (by decide +kernel), List.mem_of_getElem? (i := 1170) (by decide +kernel), List.mem_of_getElem? (i := 1171) (by decide +kernel)⟩
theorem lw_p62 : lw_okq (⟨"LastSunModel", "mark", "(I)I"⟩, 25) := ⟨⟨by decide +kernel, by decide +kernel⟩, List.mem_of_getElem? (i := 855) (by decide +kernel), List.mem_of_getElem? (i := 1223) (by decide +kernel), List.mem_of_getElem? (i := 1224) (by decide +kernel)⟩
theorem lw_p63 : lw_okq (⟨"LastSunModel", "leave", "(J)V"⟩, 25) := ⟨⟨by decide +kernel, by decide +kernel⟩, List.mem_of_getElem? (i := 855) (by decide +kernel), List.mem_of_getElem? (i := 1230) (by decide +kernel), List.mem_of_getElem? (i := 1231) (by decide +kernel)⟩
def lw_privs_4 : List (MethodName × Nat) := [(⟨"LastSunModel", "share", "()V"⟩, 25), (⟨"LastSunModel", "longest", "()I"⟩, 25), (⟨"LastSunModel", "sum", "()I"⟩, 25), (⟨"LastSunModel", "parts", "(II)V"⟩, 25), (⟨"LastSunModel", "heads", "(I)I"⟩, 25), (⟨"LastSunModel", "payOf", "(I)I"⟩, 25), (⟨"LastSunModel", "tells", "(IZI)I"⟩, 25), (⟨"LastSunModel", "worthOf", "(I)I"⟩, 25), (⟨"LastSunModel", "joyOf", "(II)I"⟩, 25), (⟨"LastSunModel", "bestOf", "(I)I"⟩, 25), (⟨"LastSunModel", "turns", "()I"⟩, 25), (⟨"LastSunModel", "rows", "()I"⟩, 25), (⟨"LastSunModel", "tellBy", "(I)V"⟩, 25), (⟨"LastSunModel", "isRest", "()Z"⟩, 25), (⟨"LastSunModel", "mark", "(I)I"⟩, 25), (⟨"LastSunModel", "leave", "(J)V"⟩, 25)]
theorem lw_r4 : ∀ q ∈ lw_privs_4, lw_okq q := List.forall_mem_cons.mpr ⟨lw_p48, List.forall_mem_cons.mpr ⟨lw_p49, List.forall_mem_cons.mpr ⟨lw_p50, List.forall_mem_cons.mpr ⟨lw_p51, List.forall_mem_cons.mpr ⟨lw_p52, List.forall_mem_cons.mpr ⟨lw_p53, List.forall_mem_cons.mpr ⟨lw_p54, List.forall_mem_cons.mpr ⟨lw_p55, List.forall_mem_cons.mpr ⟨lw_p56, List.forall_mem_cons.mpr ⟨lw_p57, List.forall_mem_cons.mpr ⟨lw_p58, List.forall_mem_cons.mpr ⟨lw_p59, List.forall_mem_cons.mpr ⟨lw_p60, List.forall_mem_cons.mpr ⟨lw_p61, List.forall_mem_cons.mpr ⟨lw_p62, List.forall_mem_cons.mpr ⟨lw_p63, fun _ h => absurd h List.not_mem_nil⟩⟩⟩⟩⟩⟩⟩⟩⟩⟩⟩⟩⟩⟩⟩⟩
theorem lw_p64 : lw_okq (⟨"LastSunModel", "sizeOf", "(I)I"⟩, 25) := ⟨⟨by decide +kernel, by decide +kernel⟩, List.mem_of_getElem? (i := 855) (by decide +kernel), List.mem_of_getElem? (i := 1237) (by decide +kernel), List.mem_of_getElem? (i := 1238) (by decide +kernel)⟩
def lw_privs_5 : List (MethodName × Nat) := [(⟨"LastSunModel", "sizeOf", "(I)I"⟩, 25)]
theorem lw_r5 : ∀ q ∈ lw_privs_5, lw_okq q := List.forall_mem_cons.mpr ⟨lw_p64, fun _ h => absurd h List.not_mem_nil⟩
def lw_privs : List (MethodName × Nat) := lw_privs_1 ++ (lw_privs_2 ++ (lw_privs_3 ++ (lw_privs_4 ++ (lw_privs_5))))
def lw_tbl : List Cond := k2_sels lw_privs ++ tables_1
theorem lw_privs_ok : ∀ q ∈ lw_privs, lw_okq q := by
  show ∀ q ∈ lw_privs_1 ++ (lw_privs_2 ++ (lw_privs_3 ++ (lw_privs_4 ++ (lw_privs_5)))), lw_okq q
  exact List.forall_mem_append.mpr ⟨lw_r1, List.forall_mem_append.mpr ⟨lw_r2, List.forall_mem_append.mpr ⟨lw_r3, List.forall_mem_append.mpr ⟨lw_r4, lw_r5⟩⟩⟩⟩
end
section
/-! the code of every method, as the interpreter reads it: pc, instruction, what its entries resolve to; a definition for each label (written by gen.py) -/
abbrev aI : Type := Nat × Instr × List Int
abbrev aC : Type := List aI
def zX1_init_0 : aC := (0, .aload_n 0, []) :: (1, .invokespecial 3, [0, 98, 88]) :: (4, .aload_n 0, []) :: (5, .bipush 6, []) :: (7, .newarray .int, [20, 180]) :: (9, .putfield 9, [1, 0, 2, 99]) :: (12, .aload_n 0, []) :: (13, .iconst 4, []) :: (14, .newarray .int, [20, 180]) :: (16, .putfield 15, [1, 1, 2, 102]) :: (19, .aload_n 0, []) :: (20, .iconst 4, []) :: (21, .newarray .int, [20, 180]) :: (23, .putfield 18, [1, 2, 2, 107]) :: (26, .aload_n 0, []) :: (27, .iconst 4, []) :: (28, .newarray .int, [20, 180]) :: (30, .putfield 21, [1, 3, 2, 110]) :: (33, .aload_n 0, []) :: (34, .iconst 4, []) :: (35, .newarray .int, [20, 180]) :: (37, .putfield 24, [1, 4, 2, 113]) :: (40, .aload_n 0, []) :: (41, .iconst 4, []) :: (42, .newarray .int, [20, 180]) :: (44, .putfield 27, [1, 5, 2, 117]) :: (47, .aload_n 0, []) :: (48, .iconst 4, []) :: (49, .newarray .int, [20, 180]) :: (51, .putfield 30, [1, 6, 2, 121]) :: (54, .return_, []) :: []
def zX6_init_0 : aC := (0, .aload_n 0, []) :: (1, .invokespecial 3, [0, 186, 88]) :: (4, .aload_n 0, []) :: (5, .sipush 400, []) :: (8, .newarray .byte, [21, 212]) :: (10, .putfield 11, [6, 0, 2, 187]) :: (13, .return_, []) :: []
def zX4_init_40 : aC := (40, .return_, []) :: []
def zX4_init_15 : aC := (15, .iload_n 1, []) :: (16, .bipush 24, []) :: (18, .if_icmp .ge 22, [40]) :: (21, .aload_n 0, []) :: (22, .getfield 11, [4, 0, 2, 221]) :: (25, .iload_n 1, []) :: (26, .new 9, [1, 16, 219, 94, 67]) :: (29, .dup, []) :: (30, .invokespecial 15, [6, 0, 1, 1, 220, 96, 0, 67]) :: (33, .aastore, []) :: (34, .iinc 1 1, []) :: (37, .goto (-22), [15]) :: zX4_init_40
def zX4_init_0 : aC := (0, .aload_n 0, []) :: (1, .invokespecial 1, [0, 218, 88]) :: (4, .aload_n 0, []) :: (5, .bipush 24, []) :: (7, .anewarray 9, [24, 219, 93]) :: (10, .putfield 11, [4, 0, 2, 221]) :: (13, .iconst 0, []) :: (14, .istore_n 1, []) :: zX4_init_15
def zX2_init_0 : aC := (0, .aload_n 0, []) :: (1, .invokespecial 3, [0, 243, 88]) :: (4, .aload_n 0, []) :: (5, .bipush 6, []) :: (7, .newarray .int, [20, 180]) :: (9, .putfield 9, [2, 0, 2, 244]) :: (12, .aload_n 0, []) :: (13, .iconst 4, []) :: (14, .newarray .int, [20, 180]) :: (16, .putfield 15, [2, 1, 2, 246]) :: (19, .aload_n 0, []) :: (20, .iconst 4, []) :: (21, .newarray .int, [20, 180]) :: (23, .putfield 18, [2, 2, 2, 247]) :: (26, .aload_n 0, []) :: (27, .iconst 4, []) :: (28, .newarray .int, [20, 180]) :: (30, .putfield 21, [2, 3, 2, 249]) :: (33, .aload_n 0, []) :: (34, .bipush 24, []) :: (36, .newarray .int, [20, 180]) :: (38, .putfield 24, [2, 4, 2, 250]) :: (41, .aload_n 0, []) :: (42, .iconst 4, []) :: (43, .newarray .int, [20, 180]) :: (45, .putfield 27, [2, 5, 2, 251]) :: (48, .return_, []) :: []
def zX3_init_0 : aC := (0, .aload_n 0, []) :: (1, .invokespecial 3, [0, 237, 88]) :: (4, .aload_n 0, []) :: (5, .new 9, [2, 8, 238, 239, 71]) :: (8, .dup, []) :: (9, .invokespecial 11, [6, 3, 1, 2, 240, 241, 0, 71]) :: (12, .putfield 12, [3, 0, 2, 276]) :: (15, .aload_n 0, []) :: (16, .bipush 7, []) :: (18, .newarray .int, [20, 180]) :: (20, .putfield 18, [3, 1, 2, 278]) :: (23, .aload_n 0, []) :: (24, .iconst 4, []) :: (25, .newarray .int, [20, 180]) :: (27, .putfield 22, [3, 2, 2, 279]) :: (30, .aload_n 0, []) :: (31, .iconst 4, []) :: (32, .newarray .int, [20, 180]) :: (34, .putfield 25, [3, 3, 2, 280]) :: (37, .return_, []) :: []
def zX0_init_0 : aC := (0, .aload_n 0, []) :: (1, .invokespecial 3, [0, 300, 88]) :: (4, .aload_n 0, []) :: (5, .bipush 16, []) :: (7, .newarray .int, [20, 180]) :: (9, .putfield 11, [0, 0, 2, 301]) :: (12, .return_, []) :: []
def zX5_init_0 : aC := (0, .aload_n 0, []) :: (1, .invokespecial 3, [0, 314, 88]) :: (4, .aload_n 0, []) :: (5, .bipush 40, []) :: (7, .newarray .int, [20, 180]) :: (9, .putfield 9, [5, 0, 2, 315]) :: (12, .aload_n 0, []) :: (13, .iconst (-1), []) :: (14, .putfield 15, [5, 1, 0, 317]) :: (17, .return_, []) :: []
def zX7_init_151 : aC := (151, .return_, []) :: []
def zX7_init_127 : aC := (127, .iload_n 1, []) :: (128, .iconst 2, []) :: (129, .if_icmp .ge 22, [151]) :: (132, .aload_n 0, []) :: (133, .getfield 17, [7, 1, 2, 329]) :: (136, .iload_n 1, []) :: (137, .new 15, [1, 16, 92, 94, 67]) :: (140, .dup, []) :: (141, .invokespecial 21, [6, 0, 1, 1, 95, 96, 0, 67]) :: (144, .aastore, []) :: (145, .iinc 1 1, []) :: (148, .goto (-21), [127]) :: zX7_init_151
def zX7_init_125 : aC := (125, .iconst 0, []) :: (126, .istore_n 1, []) :: zX7_init_127
def zX7_init_100 : aC := (100, .iload_n 1, []) :: (101, .bipush 8, []) :: (103, .if_icmp .ge 22, [125]) :: (106, .aload_n 0, []) :: (107, .getfield 11, [7, 0, 2, 328]) :: (110, .iload_n 1, []) :: (111, .new 9, [5, 3, 90, 310, 73]) :: (114, .dup, []) :: (115, .invokespecial 62, [6, 6, 1, 5, 311, 312, 0, 73]) :: (118, .aastore, []) :: (119, .iinc 1 1, []) :: (122, .goto (-22), [100]) :: zX7_init_125
def zX7_init_0 : aC := (0, .aload_n 0, []) :: (1, .invokespecial 1, [0, 87, 88]) :: (4, .aload_n 0, []) :: (5, .bipush 8, []) :: (7, .anewarray 9, [23, 90, 91]) :: (10, .putfield 11, [7, 0, 2, 328]) :: (13, .aload_n 0, []) :: (14, .iconst 2, []) :: (15, .anewarray 15, [24, 92, 93]) :: (18, .putfield 17, [7, 1, 2, 329]) :: (21, .aload_n 0, []) :: (22, .new 15, [1, 16, 92, 94, 67]) :: (25, .dup, []) :: (26, .invokespecial 21, [6, 0, 1, 1, 95, 96, 0, 67]) :: (29, .putfield 22, [7, 2, 2, 330]) :: (32, .aload_n 0, []) :: (33, .new 15, [1, 16, 92, 94, 67]) :: (36, .dup, []) :: (37, .invokespecial 21, [6, 0, 1, 1, 95, 96, 0, 67]) :: (40, .putfield 26, [7, 3, 2, 331]) :: (43, .aload_n 0, []) :: (44, .new 29, [6, 7, 181, 182, 68]) :: (47, .dup, []) :: (48, .invokespecial 31, [6, 1, 1, 6, 183, 184, 0, 68]) :: (51, .putfield 32, [7, 4, 2, 332]) :: (54, .aload_n 0, []) :: (55, .new 36, [4, 3, 213, 214, 69]) :: (58, .dup, []) :: (59, .invokespecial 38, [3, 2, 1, 4, 215, 216, 0, 69]) :: (62, .putfield 39, [7, 5, 2, 333]) :: (65, .aload_n 0, []) :: (66, .new 43, [3, 5, 232, 233, 70]) :: (69, .dup, []) :: (70, .invokespecial 45, [6, 4, 1, 3, 234, 235, 0, 70]) :: (73, .putfield 46, [7, 6, 2, 334]) :: (76, .aload_n 0, []) :: (77, .aload_n 0, []) :: (78, .getfield 46, [7, 6, 2, 334]) :: (81, .getfield 50, [3, 0, 2, 277]) :: (84, .putfield 54, [7, 7, 2, 335]) :: (87, .aload_n 0, []) :: (88, .new 55, [0, 2, 295, 296, 72]) :: (91, .dup, []) :: (92, .invokespecial 57, [6, 5, 1, 0, 297, 298, 0, 72]) :: (95, .putfield 58, [7, 8, 2, 336]) :: (98, .iconst 0, []) :: (99, .istore_n 1, []) :: zX7_init_100
def zX8_init_129 : aC := (129, .return_, []) :: []
def zX8_init_110 : aC := (110, .iload_n 1, []) :: (111, .bipush 8, []) :: (113, .if_icmp .ge 16, [129]) :: (116, .aload_n 0, []) :: (117, .getfield 13, [8, 1, 2, 926]) :: (120, .iload_n 1, []) :: (121, .iconst (-1), []) :: (122, .iastore, []) :: (123, .iinc 1 1, []) :: (126, .goto (-16), [110]) :: zX8_init_129
def zX8_init_0 : aC := (0, .aload_n 0, []) :: (1, .invokespecial 1, [0, 924, 88]) :: (4, .aload_n 0, []) :: (5, .bipush 8, []) :: (7, .newarray .int, [20, 180]) :: (9, .putfield 7, [8, 0, 2, 925]) :: (12, .aload_n 0, []) :: (13, .bipush 8, []) :: (15, .newarray .int, [20, 180]) :: (17, .putfield 13, [8, 1, 2, 926]) :: (20, .aload_n 0, []) :: (21, .sipush 320, []) :: (24, .newarray .int, [20, 180]) :: (26, .putfield 16, [8, 2, 2, 927]) :: (29, .aload_n 0, []) :: (30, .sipush 400, []) :: (33, .newarray .int, [20, 180]) :: (35, .putfield 19, [8, 4, 2, 929]) :: (38, .aload_n 0, []) :: (39, .bipush 44, []) :: (41, .newarray .int, [20, 180]) :: (43, .putfield 22, [8, 8, 2, 933]) :: (46, .aload_n 0, []) :: (47, .sipush 1056, []) :: (50, .newarray .int, [20, 180]) :: (52, .putfield 25, [8, 10, 2, 935]) :: (55, .aload_n 0, []) :: (56, .bipush 88, []) :: (58, .newarray .int, [20, 180]) :: (60, .putfield 28, [8, 11, 2, 936]) :: (63, .aload_n 0, []) :: (64, .iconst 2, []) :: (65, .newarray .boolean, [22, 1001]) :: (67, .putfield 31, [8, 12, 2, 937]) :: (70, .aload_n 0, []) :: (71, .bipush 16, []) :: (73, .newarray .int, [20, 180]) :: (75, .putfield 35, [8, 14, 2, 939]) :: (78, .aload_n 0, []) :: (79, .bipush 44, []) :: (81, .newarray .int, [20, 180]) :: (83, .putfield 38, [8, 20, 2, 945]) :: (86, .aload_n 0, []) :: (87, .iconst 4, []) :: (88, .newarray .int, [20, 180]) :: (90, .putfield 41, [8, 21, 2, 946]) :: (93, .aload_n 0, []) :: (94, .bipush 6, []) :: (96, .newarray .int, [20, 180]) :: (98, .putfield 44, [8, 22, 2, 947]) :: (101, .aload_n 0, []) :: (102, .iconst 4, []) :: (103, .newarray .int, [20, 180]) :: (105, .putfield 47, [8, 24, 2, 949]) :: (108, .iconst 0, []) :: (109, .istore_n 1, []) :: zX8_init_110
def zX7_isOneOf_14 : aC := (14, .ireturn, []) :: []
def zX7_isOneOf_13 : aC := (13, .iconst 0, []) :: zX7_isOneOf_14
def zX7_isOneOf_0 : aC := (0, .iload_n 0, []) :: (1, .ifCond .lt 12, [13]) :: (4, .iload_n 0, []) :: (5, .iload_n 1, []) :: (6, .if_icmp .ge 7, [13]) :: (9, .iconst 1, []) :: (10, .goto 4, [14]) :: zX7_isOneOf_13
def zX7_isRow_0 : aC := (0, .iload_n 0, []) :: (1, .bipush 8, []) :: (3, .invokestatic 175, [2, 9, 2, 0, 366, 367, 0, 66]) :: (6, .ireturn, []) :: []
def zX7_find_0 : aC := (0, .aload_n 0, []) :: (1, .iload_n 1, []) :: (2, .putfield 320, [7, 9, 0, 337]) :: (5, .ldc_w 323, [0, -1000010, 374]) :: (8, .iload_n 1, []) :: (9, .isub, []) :: (10, .ireturn, []) :: []
def zX5_make_30 : aC := (30, .return_, []) :: []
def zX5_make_12 : aC := (12, .iload_n 3, []) :: (13, .iload_n 2, []) :: (14, .if_icmp .ge 16, [30]) :: (17, .aload_n 0, []) :: (18, .getfield 9, [5, 0, 2, 315]) :: (21, .iload_n 3, []) :: (22, .iconst 0, []) :: (23, .iastore, []) :: (24, .iinc 3 1, []) :: (27, .goto (-15), [12]) :: zX5_make_30
def zX5_make_0 : aC := (0, .aload_n 0, []) :: (1, .iload_n 1, []) :: (2, .putfield 15, [5, 1, 0, 317]) :: (5, .aload_n 0, []) :: (6, .iload_n 2, []) :: (7, .putfield 19, [5, 2, 0, 319]) :: (10, .iconst 0, []) :: (11, .istore_n 3, []) :: zX5_make_12
def zX7_answer_0 : aC := (0, .aload_n 0, []) :: (1, .iconst 0, []) :: (2, .putfield 320, [7, 9, 0, 337]) :: (5, .iload_n 1, []) :: (6, .ireturn, []) :: []
def zX7_row_35 : aC := (35, .aload_n 0, []) :: (36, .getfield 11, [7, 0, 2, 328]) :: (39, .iload_n 1, []) :: (40, .aaload, []) :: (41, .iload_n 2, []) :: (42, .iload_n 3, []) :: (43, .invokevirtual 72, [1, 12, 3, 5, 375, 376, 377, 73]) :: (46, .aload_n 0, []) :: (47, .iload_n 3, []) :: (48, .invokevirtual 76, [1, 13, 2, 7, 379, 381, 1, 66]) :: (51, .ireturn, []) :: []
def zX7_row_25 : aC := (25, .iload_n 3, []) :: (26, .ifCond .ge 9, [35]) :: (29, .aload_n 0, []) :: (30, .iconst 4, []) :: (31, .invokevirtual 68, [1, 11, 2, 7, 370, 372, 0, 66]) :: (34, .ireturn, []) :: zX7_row_35
def zX7_row_22 : aC := (22, .ldc 67, [0, -1000001, 369]) :: (24, .ireturn, []) :: zX7_row_25
def zX7_row_0 : aC := (0, .iload_n 1, []) :: (1, .invokestatic 63, [2, 10, 1, 0, 363, 364, 0, 66]) :: (4, .ifCond .eq 18, [22]) :: (7, .iload_n 2, []) :: (8, .ifCond .lt 14, [22]) :: (11, .iload_n 2, []) :: (12, .iconst 3, []) :: (13, .if_icmp .ge 9, [22]) :: (16, .iload_n 3, []) :: (17, .bipush 40, []) :: (19, .if_icmp .le 6, [25]) :: zX7_row_22
def zX8_in_18 : aC := (18, .ireturn, []) :: []
def zX8_in_17 : aC := (17, .iconst 0, []) :: zX8_in_18
def zX8_in_0 : aC := (0, .lload_n 0, []) :: (1, .lload_n 2, []) :: (2, .lcmp, []) :: (3, .ifCond .lt 14, [17]) :: (6, .lload_n 0, []) :: (7, .lload 4, []) :: (9, .lcmp, []) :: (10, .ifCond .gt 7, [17]) :: (13, .iconst 1, []) :: (14, .goto 4, [18]) :: zX8_in_17
def zX8_isRow_0 : aC := (0, .iload_n 0, []) :: (1, .i2l, []) :: (2, .lconst 0, []) :: (3, .ldc2_w 55, [0, 7, 1009]) :: (6, .invokestatic 57, [2, 15, 3, 0, 1010, 1011, 0, 74]) :: (9, .ireturn, []) :: []
def zX8_found_0 : aC := (0, .aload_n 0, []) :: (1, .iload_n 1, []) :: (2, .putfield 50, [8, 3, 0, 928]) :: (5, .ldc 54, [0, -1000010, 1019]) :: (7, .iload_n 1, []) :: (8, .isub, []) :: (9, .ireturn, []) :: []
def zX8_well_0 : aC := (0, .aload_n 0, []) :: (1, .iconst 0, []) :: (2, .putfield 50, [8, 3, 0, 928]) :: (5, .iload_n 1, []) :: (6, .ireturn, []) :: []
def zX8_row_81 : aC := (81, .aload_n 0, []) :: (82, .iload_n 3, []) :: (83, .invokevirtual 72, [1, 18, 2, 8, 1020, 1022, 35, 74]) :: (86, .ireturn, []) :: []
def zX8_row_55 : aC := (55, .iload 4, []) :: (57, .bipush 40, []) :: (59, .if_icmp .ge 22, [81]) :: (62, .aload_n 0, []) :: (63, .getfield 16, [8, 2, 2, 927]) :: (66, .bipush 40, []) :: (68, .iload_n 1, []) :: (69, .imul, []) :: (70, .iload 4, []) :: (72, .iadd, []) :: (73, .iconst 0, []) :: (74, .iastore, []) :: (75, .iinc 4 1, []) :: (78, .goto (-23), [55]) :: zX8_row_81
def zX8_row_38 : aC := (38, .aload_n 0, []) :: (39, .getfield 7, [8, 0, 2, 925]) :: (42, .iload_n 1, []) :: (43, .iload_n 2, []) :: (44, .iastore, []) :: (45, .aload_n 0, []) :: (46, .getfield 13, [8, 1, 2, 926]) :: (49, .iload_n 1, []) :: (50, .iload_n 3, []) :: (51, .iastore, []) :: (52, .iconst 0, []) :: (53, .istore 4, []) :: zX8_row_55
def zX8_row_28 : aC := (28, .iload_n 3, []) :: (29, .ifCond .ge 9, [38]) :: (32, .aload_n 0, []) :: (33, .iconst 4, []) :: (34, .invokevirtual 68, [1, 17, 2, 8, 1015, 1017, 34, 74]) :: (37, .ireturn, []) :: zX8_row_38
def zX8_row_25 : aC := (25, .ldc 67, [0, -1000001, 1014]) :: (27, .ireturn, []) :: zX8_row_28
def zX8_row_0 : aC := (0, .iload_n 1, []) :: (1, .invokestatic 61, [2, 16, 1, 0, 1006, 1007, 0, 74]) :: (4, .ifCond .eq 21, [25]) :: (7, .iload_n 2, []) :: (8, .i2l, []) :: (9, .lconst 0, []) :: (10, .ldc2_w 65, [0, 2, 1013]) :: (13, .invokestatic 57, [2, 15, 3, 0, 1010, 1011, 0, 74]) :: (16, .ifCond .eq 9, [25]) :: (19, .iload_n 3, []) :: (20, .bipush 40, []) :: (22, .if_icmp .le 6, [28]) :: zX8_row_25
def zX5_isMissing_13 : aC := (13, .ireturn, []) :: []
def zX5_isMissing_12 : aC := (12, .iconst 0, []) :: zX5_isMissing_13
def zX5_isMissing_0 : aC := (0, .aload_n 0, []) :: (1, .getfield 15, [5, 1, 0, 317]) :: (4, .iconst (-1), []) :: (5, .if_icmp .ne 7, [12]) :: (8, .iconst 1, []) :: (9, .goto 4, [13]) :: zX5_isMissing_12
def zX5_hasPlaces_31 : aC := (31, .ireturn, []) :: []
def zX5_hasPlaces_30 : aC := (30, .iconst 0, []) :: zX5_hasPlaces_31
def zX5_hasPlaces_0 : aC := (0, .iload_n 1, []) :: (1, .ifCond .lt 29, [30]) :: (4, .iload_n 2, []) :: (5, .ifCond .lt 25, [30]) :: (8, .iload_n 1, []) :: (9, .aload_n 0, []) :: (10, .getfield 19, [5, 2, 0, 319]) :: (13, .if_icmp .gt 17, [30]) :: (16, .iload_n 2, []) :: (17, .aload_n 0, []) :: (18, .getfield 19, [5, 2, 0, 319]) :: (21, .iload_n 1, []) :: (22, .isub, []) :: (23, .if_icmp .gt 7, [30]) :: (26, .iconst 1, []) :: (27, .goto 4, [31]) :: zX5_hasPlaces_30
def zX5_put_44 : aC := (44, .aload_n 0, []) :: (45, .getfield 9, [5, 0, 2, 315]) :: (48, .iload_n 1, []) :: (49, .iaload, []) :: (50, .ireturn, []) :: []
def zX5_put_37 : aC := (37, .aload_n 0, []) :: (38, .getfield 9, [5, 0, 2, 315]) :: (41, .iload_n 1, []) :: (42, .iload_n 2, []) :: (43, .iastore, []) :: zX5_put_44
def zX5_put_18 : aC := (18, .aload_n 0, []) :: (19, .getfield 15, [5, 1, 0, 317]) :: (22, .iconst 1, []) :: (23, .if_icmp .ne 14, [37]) :: (26, .aload_n 0, []) :: (27, .getfield 9, [5, 0, 2, 315]) :: (30, .iload_n 1, []) :: (31, .iload_n 2, []) :: (32, .i2s, []) :: (33, .iastore, []) :: (34, .goto 10, [44]) :: zX5_put_37
def zX5_put_0 : aC := (0, .aload_n 0, []) :: (1, .getfield 15, [5, 1, 0, 317]) :: (4, .ifCond .ne 14, [18]) :: (7, .aload_n 0, []) :: (8, .getfield 9, [5, 0, 2, 315]) :: (11, .iload_n 1, []) :: (12, .iload_n 2, []) :: (13, .i2b, []) :: (14, .iastore, []) :: (15, .goto 29, [44]) :: zX5_put_18
def zX7_set_48 : aC := (48, .aload_n 0, []) :: (49, .aload 4, []) :: (51, .iload_n 2, []) :: (52, .iload_n 3, []) :: (53, .invokevirtual 87, [1, 22, 3, 5, 395, 396, 397, 73]) :: (56, .invokevirtual 76, [1, 13, 2, 7, 379, 381, 1, 66]) :: (59, .ireturn, []) :: []
def zX7_set_32 : aC := (32, .aload 4, []) :: (34, .iload_n 2, []) :: (35, .iconst 1, []) :: (36, .invokevirtual 83, [1, 21, 3, 5, 391, 392, 393, 73]) :: (39, .ifCond .ne 9, [48]) :: (42, .aload_n 0, []) :: (43, .iconst 2, []) :: (44, .invokevirtual 68, [1, 11, 2, 7, 370, 372, 0, 66]) :: (47, .ireturn, []) :: zX7_set_48
def zX7_set_10 : aC := (10, .aload_n 0, []) :: (11, .getfield 11, [7, 0, 2, 328]) :: (14, .iload_n 1, []) :: (15, .aaload, []) :: (16, .astore 4, []) :: (18, .aload 4, []) :: (20, .invokevirtual 79, [1, 20, 1, 5, 387, 388, 389, 73]) :: (23, .ifCond .eq 9, [32]) :: (26, .aload_n 0, []) :: (27, .iconst 1, []) :: (28, .invokevirtual 68, [1, 11, 2, 7, 370, 372, 0, 66]) :: (31, .ireturn, []) :: zX7_set_32
def zX7_set_0 : aC := (0, .iload_n 1, []) :: (1, .invokestatic 63, [2, 10, 1, 0, 363, 364, 0, 66]) :: (4, .ifCond .ne 6, [10]) :: (7, .ldc 67, [0, -1000001, 369]) :: (9, .ireturn, []) :: zX7_set_10
def zX8_set_89 : aC := (89, .iastore, []) :: (90, .aload_n 0, []) :: (91, .aload_n 0, []) :: (92, .getfield 16, [8, 2, 2, 927]) :: (95, .bipush 40, []) :: (97, .iload_n 1, []) :: (98, .imul, []) :: (99, .iload_n 2, []) :: (100, .iadd, []) :: (101, .iaload, []) :: (102, .invokevirtual 72, [1, 18, 2, 8, 1020, 1022, 35, 74]) :: (105, .ireturn, []) :: []
def zX8_set_88 : aC := (88, .iload_n 3, []) :: zX8_set_89
def zX8_set_73 : aC := (73, .aload_n 0, []) :: (74, .getfield 7, [8, 0, 2, 925]) :: (77, .iload_n 1, []) :: (78, .iaload, []) :: (79, .iconst 1, []) :: (80, .if_icmp .ne 8, [88]) :: (83, .iload_n 3, []) :: (84, .i2s, []) :: (85, .goto 4, [89]) :: zX8_set_88
def zX8_set_49 : aC := (49, .aload_n 0, []) :: (50, .getfield 16, [8, 2, 2, 927]) :: (53, .bipush 40, []) :: (55, .iload_n 1, []) :: (56, .imul, []) :: (57, .iload_n 2, []) :: (58, .iadd, []) :: (59, .aload_n 0, []) :: (60, .getfield 7, [8, 0, 2, 925]) :: (63, .iload_n 1, []) :: (64, .iaload, []) :: (65, .ifCond .ne 8, [73]) :: (68, .iload_n 3, []) :: (69, .i2b, []) :: (70, .goto 19, [89]) :: zX8_set_73
def zX8_set_25 : aC := (25, .iload_n 2, []) :: (26, .i2l, []) :: (27, .lconst 0, []) :: (28, .aload_n 0, []) :: (29, .getfield 13, [8, 1, 2, 926]) :: (32, .iload_n 1, []) :: (33, .iaload, []) :: (34, .iconst 1, []) :: (35, .isub, []) :: (36, .i2l, []) :: (37, .invokestatic 57, [2, 15, 3, 0, 1010, 1011, 0, 74]) :: (40, .ifCond .ne 9, [49]) :: (43, .aload_n 0, []) :: (44, .iconst 2, []) :: (45, .invokevirtual 68, [1, 17, 2, 8, 1015, 1017, 34, 74]) :: (48, .ireturn, []) :: zX8_set_49
def zX8_set_10 : aC := (10, .aload_n 0, []) :: (11, .getfield 13, [8, 1, 2, 926]) :: (14, .iload_n 1, []) :: (15, .iaload, []) :: (16, .ifCond .ge 9, [25]) :: (19, .aload_n 0, []) :: (20, .iconst 1, []) :: (21, .invokevirtual 68, [1, 17, 2, 8, 1015, 1017, 34, 74]) :: (24, .ireturn, []) :: zX8_set_25
def zX8_set_0 : aC := (0, .iload_n 1, []) :: (1, .invokestatic 61, [2, 16, 1, 0, 1006, 1007, 0, 74]) :: (4, .ifCond .ne 6, [10]) :: (7, .ldc 67, [0, -1000001, 1014]) :: (9, .ireturn, []) :: zX8_set_10
def zX7_copy_103 : aC := (103, .aload 6, []) :: (105, .getfield 95, [5, 0, 2, 316]) :: (108, .iload_n 2, []) :: (109, .aload 7, []) :: (111, .getfield 95, [5, 0, 2, 316]) :: (114, .iload 4, []) :: (116, .iload 5, []) :: (118, .invokestatic 99, [9, 403, 405, 404, 75]) :: (121, .aload_n 0, []) :: (122, .iload 5, []) :: (124, .invokevirtual 76, [1, 13, 2, 7, 379, 381, 1, 66]) :: (127, .ireturn, []) :: []
def zX7_copy_97 : aC := (97, .aload_n 0, []) :: (98, .iconst 2, []) :: (99, .invokevirtual 68, [1, 11, 2, 7, 370, 372, 0, 66]) :: (102, .ireturn, []) :: zX7_copy_103
def zX7_copy_74 : aC := (74, .aload 6, []) :: (76, .iload_n 2, []) :: (77, .iload 5, []) :: (79, .invokevirtual 83, [1, 21, 3, 5, 391, 392, 393, 73]) :: (82, .ifCond .eq 15, [97]) :: (85, .aload 7, []) :: (87, .iload 4, []) :: (89, .iload 5, []) :: (91, .invokevirtual 83, [1, 21, 3, 5, 391, 392, 393, 73]) :: (94, .ifCond .ne 9, [103]) :: zX7_copy_97
def zX7_copy_55 : aC := (55, .aload 6, []) :: (57, .getfield 91, [5, 1, 0, 318]) :: (60, .aload 7, []) :: (62, .getfield 91, [5, 1, 0, 318]) :: (65, .if_icmp .eq 9, [74]) :: (68, .aload_n 0, []) :: (69, .iconst 5, []) :: (70, .invokevirtual 68, [1, 11, 2, 7, 370, 372, 0, 66]) :: (73, .ireturn, []) :: zX7_copy_74
def zX7_copy_49 : aC := (49, .aload_n 0, []) :: (50, .iconst 1, []) :: (51, .invokevirtual 68, [1, 11, 2, 7, 370, 372, 0, 66]) :: (54, .ireturn, []) :: zX7_copy_55
def zX7_copy_17 : aC := (17, .aload_n 0, []) :: (18, .getfield 11, [7, 0, 2, 328]) :: (21, .iload_n 1, []) :: (22, .aaload, []) :: (23, .astore 6, []) :: (25, .aload_n 0, []) :: (26, .getfield 11, [7, 0, 2, 328]) :: (29, .iload_n 3, []) :: (30, .aaload, []) :: (31, .astore 7, []) :: (33, .aload 6, []) :: (35, .invokevirtual 79, [1, 20, 1, 5, 387, 388, 389, 73]) :: (38, .ifCond .ne 11, [49]) :: (41, .aload 7, []) :: (43, .invokevirtual 79, [1, 20, 1, 5, 387, 388, 389, 73]) :: (46, .ifCond .eq 9, [55]) :: zX7_copy_49
def zX7_copy_14 : aC := (14, .ldc 67, [0, -1000001, 369]) :: (16, .ireturn, []) :: zX7_copy_17
def zX7_copy_0 : aC := (0, .iload_n 1, []) :: (1, .invokestatic 63, [2, 10, 1, 0, 363, 364, 0, 66]) :: (4, .ifCond .eq 10, [14]) :: (7, .iload_n 3, []) :: (8, .invokestatic 63, [2, 10, 1, 0, 363, 364, 0, 66]) :: (11, .ifCond .ne 6, [17]) :: zX7_copy_14
def zX8_copy_182 : aC := (182, .aload_n 0, []) :: (183, .iload 5, []) :: (185, .invokevirtual 72, [1, 18, 2, 8, 1020, 1022, 35, 74]) :: (188, .ireturn, []) :: []
def zX8_copy_145 : aC := (145, .istore 7, []) :: (147, .aload_n 0, []) :: (148, .getfield 16, [8, 2, 2, 927]) :: (151, .bipush 40, []) :: (153, .iload_n 3, []) :: (154, .imul, []) :: (155, .iload 4, []) :: (157, .iadd, []) :: (158, .iload 7, []) :: (160, .iadd, []) :: (161, .aload_n 0, []) :: (162, .getfield 16, [8, 2, 2, 927]) :: (165, .bipush 40, []) :: (167, .iload_n 1, []) :: (168, .imul, []) :: (169, .iload_n 2, []) :: (170, .iadd, []) :: (171, .iload 7, []) :: (173, .iadd, []) :: (174, .iaload, []) :: (175, .iastore, []) :: (176, .iinc 6 1, []) :: (179, .goto (-59), [120]) :: zX8_copy_182
def zX8_copy_143 : aC := (143, .iload 6, []) :: zX8_copy_145
def zX8_copy_120 : aC := (120, .iload 6, []) :: (122, .iload 5, []) :: (124, .if_icmp .ge 58, [182]) :: (127, .iload 4, []) :: (129, .iload_n 2, []) :: (130, .if_icmp .le 13, [143]) :: (133, .iload 5, []) :: (135, .iconst 1, []) :: (136, .isub, []) :: (137, .iload 6, []) :: (139, .isub, []) :: (140, .goto 5, [145]) :: zX8_copy_143
def zX8_copy_117 : aC := (117, .iconst 0, []) :: (118, .istore 6, []) :: zX8_copy_120
def zX8_copy_111 : aC := (111, .aload_n 0, []) :: (112, .iconst 2, []) :: (113, .invokevirtual 68, [1, 17, 2, 8, 1015, 1017, 34, 74]) :: (116, .ireturn, []) :: zX8_copy_117
def zX8_copy_62 : aC := (62, .iload_n 2, []) :: (63, .ifCond .lt 48, [111]) :: (66, .iload 4, []) :: (68, .ifCond .lt 43, [111]) :: (71, .iload 5, []) :: (73, .ifCond .lt 38, [111]) :: (76, .iload_n 2, []) :: (77, .i2l, []) :: (78, .iload 5, []) :: (80, .i2l, []) :: (81, .ladd, []) :: (82, .aload_n 0, []) :: (83, .getfield 13, [8, 1, 2, 926]) :: (86, .iload_n 1, []) :: (87, .iaload, []) :: (88, .i2l, []) :: (89, .lcmp, []) :: (90, .ifCond .gt 21, [111]) :: (93, .iload 4, []) :: (95, .i2l, []) :: (96, .iload 5, []) :: (98, .i2l, []) :: (99, .ladd, []) :: (100, .aload_n 0, []) :: (101, .getfield 13, [8, 1, 2, 926]) :: (104, .iload_n 3, []) :: (105, .iaload, []) :: (106, .i2l, []) :: (107, .lcmp, []) :: (108, .ifCond .le 9, [117]) :: zX8_copy_111
def zX8_copy_41 : aC := (41, .aload_n 0, []) :: (42, .getfield 7, [8, 0, 2, 925]) :: (45, .iload_n 1, []) :: (46, .iaload, []) :: (47, .aload_n 0, []) :: (48, .getfield 7, [8, 0, 2, 925]) :: (51, .iload_n 3, []) :: (52, .iaload, []) :: (53, .if_icmp .eq 9, [62]) :: (56, .aload_n 0, []) :: (57, .iconst 5, []) :: (58, .invokevirtual 68, [1, 17, 2, 8, 1015, 1017, 34, 74]) :: (61, .ireturn, []) :: zX8_copy_62
def zX8_copy_35 : aC := (35, .aload_n 0, []) :: (36, .iconst 1, []) :: (37, .invokevirtual 68, [1, 17, 2, 8, 1015, 1017, 34, 74]) :: (40, .ireturn, []) :: zX8_copy_41
def zX8_copy_17 : aC := (17, .aload_n 0, []) :: (18, .getfield 13, [8, 1, 2, 926]) :: (21, .iload_n 1, []) :: (22, .iaload, []) :: (23, .ifCond .lt 12, [35]) :: (26, .aload_n 0, []) :: (27, .getfield 13, [8, 1, 2, 926]) :: (30, .iload_n 3, []) :: (31, .iaload, []) :: (32, .ifCond .ge 9, [41]) :: zX8_copy_35
def zX8_copy_14 : aC := (14, .ldc 67, [0, -1000001, 1014]) :: (16, .ireturn, []) :: zX8_copy_17
def zX8_copy_0 : aC := (0, .iload_n 1, []) :: (1, .invokestatic 61, [2, 16, 1, 0, 1006, 1007, 0, 74]) :: (4, .ifCond .eq 10, [14]) :: (7, .iload_n 3, []) :: (8, .invokestatic 61, [2, 16, 1, 0, 1006, 1007, 0, 74]) :: (11, .ifCond .ne 6, [17]) :: zX8_copy_14
def zX5_lose_0 : aC := (0, .aload_n 0, []) :: (1, .iconst (-1), []) :: (2, .putfield 15, [5, 1, 0, 317]) :: (5, .aload_n 0, []) :: (6, .iconst 0, []) :: (7, .putfield 19, [5, 2, 0, 319]) :: (10, .return_, []) :: []
def zX7_drop_28 : aC := (28, .aload_n 0, []) :: (29, .getfield 11, [7, 0, 2, 328]) :: (32, .iload_n 1, []) :: (33, .aaload, []) :: (34, .getfield 105, [5, 2, 0, 320]) :: (37, .istore_n 2, []) :: (38, .aload_n 0, []) :: (39, .getfield 11, [7, 0, 2, 328]) :: (42, .iload_n 1, []) :: (43, .aaload, []) :: (44, .invokevirtual 108, [1, 27, 1, 5, 410, 411, 412, 73]) :: (47, .aload_n 0, []) :: (48, .iload_n 2, []) :: (49, .invokevirtual 76, [1, 13, 2, 7, 379, 381, 1, 66]) :: (52, .ireturn, []) :: []
def zX7_drop_10 : aC := (10, .aload_n 0, []) :: (11, .getfield 11, [7, 0, 2, 328]) :: (14, .iload_n 1, []) :: (15, .aaload, []) :: (16, .invokevirtual 79, [1, 20, 1, 5, 387, 388, 389, 73]) :: (19, .ifCond .eq 9, [28]) :: (22, .aload_n 0, []) :: (23, .iconst 1, []) :: (24, .invokevirtual 68, [1, 11, 2, 7, 370, 372, 0, 66]) :: (27, .ireturn, []) :: zX7_drop_28
def zX7_drop_0 : aC := (0, .iload_n 1, []) :: (1, .invokestatic 63, [2, 10, 1, 0, 363, 364, 0, 66]) :: (4, .ifCond .ne 6, [10]) :: (7, .ldc 67, [0, -1000001, 369]) :: (9, .ireturn, []) :: zX7_drop_10
def zX8_drop_25 : aC := (25, .aload_n 0, []) :: (26, .getfield 13, [8, 1, 2, 926]) :: (29, .iload_n 1, []) :: (30, .iaload, []) :: (31, .istore_n 2, []) :: (32, .aload_n 0, []) :: (33, .getfield 13, [8, 1, 2, 926]) :: (36, .iload_n 1, []) :: (37, .iconst (-1), []) :: (38, .iastore, []) :: (39, .aload_n 0, []) :: (40, .iload_n 2, []) :: (41, .invokevirtual 72, [1, 18, 2, 8, 1020, 1022, 35, 74]) :: (44, .ireturn, []) :: []
def zX8_drop_10 : aC := (10, .aload_n 0, []) :: (11, .getfield 13, [8, 1, 2, 926]) :: (14, .iload_n 1, []) :: (15, .iaload, []) :: (16, .ifCond .ge 9, [25]) :: (19, .aload_n 0, []) :: (20, .iconst 1, []) :: (21, .invokevirtual 68, [1, 17, 2, 8, 1015, 1017, 34, 74]) :: (24, .ireturn, []) :: zX8_drop_25
def zX8_drop_0 : aC := (0, .iload_n 1, []) :: (1, .invokestatic 61, [2, 16, 1, 0, 1006, 1007, 0, 74]) :: (4, .ifCond .ne 6, [10]) :: (7, .ldc 67, [0, -1000001, 1014]) :: (9, .ireturn, []) :: zX8_drop_10
def zX6_hasRoomFor_17 : aC := (17, .ireturn, []) :: []
def zX6_hasRoomFor_16 : aC := (16, .iconst 0, []) :: zX6_hasRoomFor_17
def zX6_hasRoomFor_0 : aC := (0, .iload_n 1, []) :: (1, .sipush 400, []) :: (4, .aload_n 0, []) :: (5, .getfield 15, [6, 1, 0, 188]) :: (8, .isub, []) :: (9, .if_icmp .gt 7, [16]) :: (12, .iconst 1, []) :: (13, .goto 4, [17]) :: zX6_hasRoomFor_16
def zX6_append_44 : aC := (44, .return_, []) :: []
def zX6_append_5 : aC := (5, .iload 4, []) :: (7, .ifCond .lt 37, [44]) :: (10, .aload_n 0, []) :: (11, .getfield 11, [6, 0, 2, 187]) :: (14, .aload_n 0, []) :: (15, .getfield 15, [6, 1, 0, 188]) :: (18, .lload_n 1, []) :: (19, .bipush 8, []) :: (21, .iload 4, []) :: (23, .imul, []) :: (24, .lshr, []) :: (25, .l2i, []) :: (26, .i2b, []) :: (27, .bastore, []) :: (28, .aload_n 0, []) :: (29, .dup, []) :: (30, .getfield 15, [6, 1, 0, 188]) :: (33, .iconst 1, []) :: (34, .iadd, []) :: (35, .putfield 15, [6, 1, 0, 188]) :: (38, .iinc 4 (-1), []) :: (41, .goto (-36), [5]) :: zX6_append_44
def zX6_append_0 : aC := (0, .iload_n 3, []) :: (1, .iconst 1, []) :: (2, .isub, []) :: (3, .istore 4, []) :: zX6_append_5
def zX7_feed_28 : aC := (28, .aload_n 0, []) :: (29, .getfield 32, [7, 4, 2, 332]) :: (32, .lload_n 1, []) :: (33, .iload_n 3, []) :: (34, .invokevirtual 115, [1, 31, 3, 6, 423, 424, 425, 68]) :: (37, .aload_n 0, []) :: (38, .getfield 32, [7, 4, 2, 332]) :: (41, .getfield 119, [6, 1, 0, 189]) :: (44, .ireturn, []) :: []
def zX7_feed_14 : aC := (14, .aload_n 0, []) :: (15, .getfield 32, [7, 4, 2, 332]) :: (18, .iload_n 3, []) :: (19, .invokevirtual 111, [1, 30, 2, 6, 418, 419, 420, 68]) :: (22, .ifCond .ne 6, [28]) :: (25, .ldc 114, [0, -1000003, 422]) :: (27, .ireturn, []) :: zX7_feed_28
def zX7_feed_11 : aC := (11, .ldc 67, [0, -1000001, 369]) :: (13, .ireturn, []) :: zX7_feed_14
def zX7_feed_0 : aC := (0, .iload_n 3, []) :: (1, .iconst 1, []) :: (2, .if_icmp .lt 9, [11]) :: (5, .iload_n 3, []) :: (6, .bipush 8, []) :: (8, .if_icmp .le 6, [14]) :: zX7_feed_11
def zX8_feed_77 : aC := (77, .aload_n 0, []) :: (78, .getfield 77, [8, 5, 0, 930]) :: (81, .ireturn, []) :: []
def zX8_feed_35 : aC := (35, .iload 4, []) :: (37, .ifCond .lt 40, [77]) :: (40, .aload_n 0, []) :: (41, .getfield 19, [8, 4, 2, 929]) :: (44, .aload_n 0, []) :: (45, .getfield 77, [8, 5, 0, 930]) :: (48, .lload_n 1, []) :: (49, .bipush 8, []) :: (51, .iload 4, []) :: (53, .imul, []) :: (54, .lshr, []) :: (55, .ldc2_w 81, [0, 255, 1042]) :: (58, .land, []) :: (59, .l2i, []) :: (60, .iastore, []) :: (61, .aload_n 0, []) :: (62, .dup, []) :: (63, .getfield 77, [8, 5, 0, 930]) :: (66, .iconst 1, []) :: (67, .iadd, []) :: (68, .putfield 77, [8, 5, 0, 930]) :: (71, .iinc 4 (-1), []) :: (74, .goto (-39), [35]) :: zX8_feed_77
def zX8_feed_30 : aC := (30, .iload_n 3, []) :: (31, .iconst 1, []) :: (32, .isub, []) :: (33, .istore 4, []) :: zX8_feed_35
def zX8_feed_15 : aC := (15, .aload_n 0, []) :: (16, .getfield 77, [8, 5, 0, 930]) :: (19, .iload_n 3, []) :: (20, .iadd, []) :: (21, .sipush 400, []) :: (24, .if_icmp .le 6, [30]) :: (27, .ldc 80, [0, -1000003, 1041]) :: (29, .ireturn, []) :: zX8_feed_30
def zX8_feed_0 : aC := (0, .iload_n 3, []) :: (1, .i2l, []) :: (2, .lconst 1, []) :: (3, .ldc2_w 75, [0, 8, 1040]) :: (6, .invokestatic 57, [2, 15, 3, 0, 1010, 1011, 0, 74]) :: (9, .ifCond .ne 6, [15]) :: (12, .ldc 67, [0, -1000001, 1014]) :: (14, .ireturn, []) :: zX8_feed_15
def zX6_isBetween_25 : aC := (25, .ireturn, []) :: []
def zX6_isBetween_24 : aC := (24, .iconst 0, []) :: zX6_isBetween_25
def zX6_isBetween_0 : aC := (0, .aload_n 0, []) :: (1, .getfield 11, [6, 0, 2, 187]) :: (4, .iload_n 1, []) :: (5, .baload, []) :: (6, .iload_n 2, []) :: (7, .if_icmp .lt 17, [24]) :: (10, .aload_n 0, []) :: (11, .getfield 11, [6, 0, 2, 187]) :: (14, .iload_n 1, []) :: (15, .baload, []) :: (16, .iload_n 3, []) :: (17, .if_icmp .gt 7, [24]) :: (20, .iconst 1, []) :: (21, .goto 4, [25]) :: zX6_isBetween_24
def zX6_pass_37 : aC := (37, .return_, []) :: []
def zX6_pass_0 : aC := (0, .aload_n 0, []) :: (1, .getfield 19, [6, 4, 0, 193]) :: (4, .aload_n 0, []) :: (5, .getfield 15, [6, 1, 0, 188]) :: (8, .if_icmp .ge 29, [37]) :: (11, .aload_n 0, []) :: (12, .aload_n 0, []) :: (13, .getfield 19, [6, 4, 0, 193]) :: (16, .iload_n 1, []) :: (17, .iload_n 2, []) :: (18, .invokevirtual 135, [1, 34, 4, 6, 439, 441, 3, 68]) :: (21, .ifCond .eq 16, [37]) :: (24, .aload_n 0, []) :: (25, .dup, []) :: (26, .getfield 19, [6, 4, 0, 193]) :: (29, .iconst 1, []) :: (30, .iadd, []) :: (31, .putfield 19, [6, 4, 0, 193]) :: (34, .goto (-34), [0]) :: zX6_pass_37
def zX6_advance_199 : aC := (199, .return_, []) :: []
def zX6_advance_186 : aC := (186, .putfield 76, [6, 2, 0, 190]) :: (189, .aload_n 0, []) :: (190, .aload_n 0, []) :: (191, .getfield 128, [6, 3, 0, 192]) :: (194, .iconst 1, []) :: (195, .iadd, []) :: (196, .putfield 19, [6, 4, 0, 193]) :: zX6_advance_199
def zX6_advance_185 : aC := (185, .iconst 0, []) :: zX6_advance_186
def zX6_advance_166 : aC := (166, .aload_n 0, []) :: (167, .aload_n 0, []) :: (168, .getfield 11, [6, 0, 2, 187]) :: (171, .aload_n 0, []) :: (172, .getfield 128, [6, 3, 0, 192]) :: (175, .baload, []) :: (176, .bipush 59, []) :: (178, .if_icmp .ne 7, [185]) :: (181, .iconst 3, []) :: (182, .goto 4, [186]) :: zX6_advance_185
def zX6_advance_160 : aC := (160, .putfield 76, [6, 2, 0, 190]) :: (163, .goto 36, [199]) :: zX6_advance_166
def zX6_advance_159 : aC := (159, .iconst 0, []) :: zX6_advance_160
def zX6_advance_118 : aC := (118, .aload_n 0, []) :: (119, .aload_n 0, []) :: (120, .getfield 128, [6, 3, 0, 192]) :: (123, .bipush 48, []) :: (125, .bipush 57, []) :: (127, .invokevirtual 135, [1, 34, 4, 6, 439, 441, 3, 68]) :: (130, .ifCond .eq 36, [166]) :: (133, .aload_n 0, []) :: (134, .bipush 48, []) :: (136, .bipush 57, []) :: (138, .invokevirtual 139, [1, 35, 3, 6, 443, 445, 4, 68]) :: (141, .aload_n 0, []) :: (142, .aload_n 0, []) :: (143, .getfield 19, [6, 4, 0, 193]) :: (146, .aload_n 0, []) :: (147, .getfield 128, [6, 3, 0, 192]) :: (150, .isub, []) :: (151, .iconst 3, []) :: (152, .if_icmp .gt 7, [159]) :: (155, .iconst 2, []) :: (156, .goto 4, [160]) :: zX6_advance_159
def zX6_advance_87 : aC := (87, .aload_n 0, []) :: (88, .aload_n 0, []) :: (89, .getfield 128, [6, 3, 0, 192]) :: (92, .bipush 97, []) :: (94, .bipush 122, []) :: (96, .invokevirtual 135, [1, 34, 4, 6, 439, 441, 3, 68]) :: (99, .ifCond .eq 19, [118]) :: (102, .aload_n 0, []) :: (103, .iconst 1, []) :: (104, .putfield 76, [6, 2, 0, 190]) :: (107, .aload_n 0, []) :: (108, .bipush 97, []) :: (110, .bipush 122, []) :: (112, .invokevirtual 139, [1, 35, 3, 6, 443, 445, 4, 68]) :: (115, .goto 84, [199]) :: zX6_advance_118
def zX6_advance_60 : aC := (60, .aload_n 0, []) :: (61, .aload_n 0, []) :: (62, .getfield 128, [6, 3, 0, 192]) :: (65, .putfield 19, [6, 4, 0, 193]) :: (68, .aload_n 0, []) :: (69, .getfield 128, [6, 3, 0, 192]) :: (72, .aload_n 0, []) :: (73, .getfield 15, [6, 1, 0, 188]) :: (76, .if_icmp .lt 11, [87]) :: (79, .aload_n 0, []) :: (80, .iconst 4, []) :: (81, .putfield 76, [6, 2, 0, 190]) :: (84, .goto 115, [199]) :: zX6_advance_87
def zX6_advance_47 : aC := (47, .aload_n 0, []) :: (48, .dup, []) :: (49, .getfield 128, [6, 3, 0, 192]) :: (52, .iconst 1, []) :: (53, .iadd, []) :: (54, .putfield 128, [6, 3, 0, 192]) :: (57, .goto (-49), [8]) :: zX6_advance_60
def zX6_advance_8 : aC := (8, .aload_n 0, []) :: (9, .getfield 128, [6, 3, 0, 192]) :: (12, .aload_n 0, []) :: (13, .getfield 15, [6, 1, 0, 188]) :: (16, .if_icmp .ge 44, [60]) :: (19, .aload_n 0, []) :: (20, .getfield 11, [6, 0, 2, 187]) :: (23, .aload_n 0, []) :: (24, .getfield 128, [6, 3, 0, 192]) :: (27, .baload, []) :: (28, .bipush 32, []) :: (30, .if_icmp .eq 17, [47]) :: (33, .aload_n 0, []) :: (34, .getfield 11, [6, 0, 2, 187]) :: (37, .aload_n 0, []) :: (38, .getfield 128, [6, 3, 0, 192]) :: (41, .baload, []) :: (42, .bipush 10, []) :: (44, .if_icmp .ne 16, [60]) :: zX6_advance_47
def zX6_advance_0 : aC := (0, .aload_n 0, []) :: (1, .aload_n 0, []) :: (2, .getfield 19, [6, 4, 0, 193]) :: (5, .putfield 128, [6, 3, 0, 192]) :: zX6_advance_8
def zX1_clear_0 : aC := (0, .aload_n 0, []) :: (1, .iconst 0, []) :: (2, .putfield 39, [1, 7, 3, 123]) :: (5, .aload_n 0, []) :: (6, .iconst 0, []) :: (7, .putfield 50, [1, 10, 0, 133]) :: (10, .aload_n 0, []) :: (11, .iconst 0, []) :: (12, .putfield 56, [1, 12, 0, 138]) :: (15, .aload_n 0, []) :: (16, .iconst 0, []) :: (17, .putfield 62, [1, 14, 0, 143]) :: (20, .return_, []) :: []
def zJ0_coder_7d493_14 : aC := (14, .ireturn, []) :: []
def zJ0_coder_7d493_13 : aC := (13, .iconst 1, []) :: zJ0_coder_7d493_14
def zJ0_coder_7d493_0 : aC := (0, .getstatic 38, [1, 472]) :: (3, .ifCond .eq 10, [13]) :: (6, .aload_n 0, []) :: (7, .getfield 15, [9, 1, 0, 1322]) :: (10, .goto 4, [14]) :: zJ0_coder_7d493_13
def zJ0_length_8abf5_0 : aC := (0, .aload_n 0, []) :: (1, .getfield 9, [9, 0, 2, 1321]) :: (4, .arraylength, []) :: (5, .aload_n 0, []) :: (6, .invokevirtual 335, [1, 38, 1, 9, 468, 469, 470, 76]) :: (9, .ishr, []) :: (10, .ireturn, []) :: []
def zJ0_isLatin1_aae02_18 : aC := (18, .ireturn, []) :: []
def zJ0_isLatin1_aae02_17 : aC := (17, .iconst 0, []) :: zJ0_isLatin1_aae02_18
def zJ0_isLatin1_aae02_0 : aC := (0, .getstatic 38, [1, 472]) :: (3, .ifCond .eq 14, [17]) :: (6, .aload_n 0, []) :: (7, .getfield 15, [9, 1, 0, 1322]) :: (10, .ifCond .ne 7, [17]) :: (13, .iconst 1, []) :: (14, .goto 4, [18]) :: zJ0_isLatin1_aae02_17
def zJ3_checkIndex_8e157_16 : aC := (16, .iload_n 0, []) :: (17, .ireturn, []) :: []
def zJ3_checkIndex_8e157_9 : aC := (9, .aload_n 2, []) :: (10, .iload_n 0, []) :: (11, .iload_n 1, []) :: (12, .invokestatic 95, []) :: (15, .athrow, []) :: zJ3_checkIndex_8e157_16
def zJ3_checkIndex_8e157_0 : aC := (0, .iload_n 0, []) :: (1, .ifCond .lt 8, [9]) :: (4, .iload_n 0, []) :: (5, .iload_n 1, []) :: (6, .if_icmp .lt 10, [16]) :: zJ3_checkIndex_8e157_9
def zJ0_checkIndex_df160_0 : aC := (0, .iload_n 0, []) :: (1, .iload_n 1, []) :: (2, .getstatic 1053, [2, 488]) :: (5, .invokestatic 1059, [2, 41, 3, 0, 490, 491, 0, 78]) :: (8, .pop, []) :: (9, .return_, []) :: []
def zJ1_charAt_3b067_0 : aC := (0, .iload_n 1, []) :: (1, .aload_n 0, []) :: (2, .arraylength, []) :: (3, .invokestatic 9, [2, 42, 2, 0, 485, 486, 0, 76]) :: (6, .aload_n 0, []) :: (7, .iload_n 1, []) :: (8, .baload, []) :: (9, .sipush 255, []) :: (12, .iand, []) :: (13, .i2c, []) :: (14, .ireturn, []) :: []
def zJ2_length_9d52b_0 : aC := (0, .aload_n 0, []) :: (1, .arraylength, []) :: (2, .iconst 1, []) :: (3, .ishr, []) :: (4, .ireturn, []) :: []
def zJ2_checkIndex_2214a_0 : aC := (0, .iload_n 0, []) :: (1, .aload_n 1, []) :: (2, .invokestatic 48, [2, 44, 1, 0, 499, 500, 0, 79]) :: (5, .invokestatic 414, [2, 42, 2, 0, 502, 486, 0, 76]) :: (8, .return_, []) :: []
def zJ2_getChar_3b067_28 : aC := (28, .iload_n 1, []) :: (29, .iconst 1, []) :: (30, .ishl, []) :: (31, .istore_n 1, []) :: (32, .aload_n 0, []) :: (33, .iload_n 1, []) :: (34, .iinc 1 1, []) :: (37, .baload, []) :: (38, .sipush 255, []) :: (41, .iand, []) :: (42, .getstatic 59, []) :: (45, .ishl, []) :: (46, .aload_n 0, []) :: (47, .iload_n 1, []) :: (48, .baload, []) :: (49, .sipush 255, []) :: (52, .iand, []) :: (53, .getstatic 63, []) :: (56, .ishl, []) :: (57, .ior, []) :: (58, .i2c, []) :: (59, .ireturn, []) :: []
def zJ2_getChar_3b067_18 : aC := (18, .new 52, []) :: (21, .dup, []) :: (22, .ldc 54, []) :: (24, .invokespecial 56, []) :: (27, .athrow, []) :: zJ2_getChar_3b067_28
def zJ2_getChar_3b067_0 : aC := (0, .getstatic 44, []) :: (3, .ifCond .ne 25, [28]) :: (6, .iload_n 1, []) :: (7, .ifCond .lt 11, [18]) :: (10, .iload_n 1, []) :: (11, .aload_n 0, []) :: (12, .invokestatic 48, [2, 44, 1, 0, 499, 500, 0, 79]) :: (15, .if_icmp .lt 13, [28]) :: zJ2_getChar_3b067_18
def zJ2_charAt_3b067_0 : aC := (0, .iload_n 1, []) :: (1, .aload_n 0, []) :: (2, .invokestatic 67, [2, 45, 2, 0, 496, 497, 0, 79]) :: (5, .aload_n 0, []) :: (6, .iload_n 1, []) :: (7, .invokestatic 71, [2, 46, 2, 0, 503, 504, 0, 79]) :: (10, .ireturn, []) :: []
def zJ0_charAt_5068e_16 : aC := (16, .aload_n 0, []) :: (17, .getfield 9, [9, 0, 2, 1321]) :: (20, .iload_n 1, []) :: (21, .invokestatic 498, [2, 47, 2, 0, 493, 494, 0, 79]) :: (24, .ireturn, []) :: []
def zJ0_charAt_5068e_0 : aC := (0, .aload_n 0, []) :: (1, .invokevirtual 492, [1, 40, 1, 9, 478, 479, 480, 76]) :: (4, .ifCond .eq 12, [16]) :: (7, .aload_n 0, []) :: (8, .getfield 9, [9, 0, 2, 1321]) :: (11, .iload_n 1, []) :: (12, .invokestatic 495, [2, 43, 2, 0, 482, 483, 0, 77]) :: (15, .ireturn, []) :: zJ0_charAt_5068e_16
def zX6_isWord_63 : aC := (63, .iconst 1, []) :: (64, .ireturn, []) :: []
def zX6_isWord_57 : aC := (57, .iinc 2 1, []) :: (60, .goto (-32), [28]) :: zX6_isWord_63
def zX6_isWord_28 : aC := (28, .iload_n 2, []) :: (29, .aload_n 1, []) :: (30, .invokevirtual 124, [1, 39, 1, 9, 464, 465, 466, 76]) :: (33, .if_icmp .ge 30, [63]) :: (36, .aload_n 1, []) :: (37, .iload_n 2, []) :: (38, .invokevirtual 131, [1, 48, 2, 9, 474, 475, 476, 76]) :: (41, .aload_n 0, []) :: (42, .getfield 11, [6, 0, 2, 187]) :: (45, .aload_n 0, []) :: (46, .getfield 128, [6, 3, 0, 192]) :: (49, .iload_n 2, []) :: (50, .iadd, []) :: (51, .baload, []) :: (52, .if_icmp .eq 5, [57]) :: (55, .iconst 0, []) :: (56, .ireturn, []) :: zX6_isWord_57
def zX6_isWord_26 : aC := (26, .iconst 0, []) :: (27, .istore_n 2, []) :: zX6_isWord_28
def zX6_isWord_24 : aC := (24, .iconst 0, []) :: (25, .ireturn, []) :: zX6_isWord_26
def zX6_isWord_0 : aC := (0, .aload_n 0, []) :: (1, .getfield 76, [6, 2, 0, 190]) :: (4, .iconst 1, []) :: (5, .if_icmp .ne 19, [24]) :: (8, .aload_n 1, []) :: (9, .invokevirtual 124, [1, 39, 1, 9, 464, 465, 466, 76]) :: (12, .aload_n 0, []) :: (13, .getfield 19, [6, 4, 0, 193]) :: (16, .aload_n 0, []) :: (17, .getfield 128, [6, 3, 0, 192]) :: (20, .isub, []) :: (21, .if_icmp .eq 5, [26]) :: zX6_isWord_24
def zX6_fail_0 : aC := (0, .aload_n 0, []) :: (1, .iload_n 1, []) :: (2, .putfield 121, [6, 6, 0, 196]) :: (5, .iconst 0, []) :: (6, .ireturn, []) :: []
def zX6_takeWord_14 : aC := (14, .aload_n 0, []) :: (15, .invokevirtual 22, [1, 36, 1, 6, 435, 437, 2, 68]) :: (18, .iconst 1, []) :: (19, .ireturn, []) :: []
def zX6_takeWord_0 : aC := (0, .aload_n 0, []) :: (1, .aload_n 1, []) :: (2, .invokevirtual 88, [1, 49, 2, 6, 460, 462, 7, 68]) :: (5, .ifCond .ne 9, [14]) :: (8, .aload_n 0, []) :: (9, .iconst 1, []) :: (10, .invokevirtual 91, [1, 50, 2, 6, 512, 514, 8, 68]) :: (13, .ireturn, []) :: zX6_takeWord_14
def zX6_figuresRead_36 : aC := (36, .iload_n 1, []) :: (37, .ireturn, []) :: []
def zX6_figuresRead_7 : aC := (7, .iload_n 2, []) :: (8, .aload_n 0, []) :: (9, .getfield 19, [6, 4, 0, 193]) :: (12, .if_icmp .ge 24, [36]) :: (15, .bipush 10, []) :: (17, .iload_n 1, []) :: (18, .imul, []) :: (19, .aload_n 0, []) :: (20, .getfield 11, [6, 0, 2, 187]) :: (23, .iload_n 2, []) :: (24, .baload, []) :: (25, .iadd, []) :: (26, .bipush 48, []) :: (28, .isub, []) :: (29, .istore_n 1, []) :: (30, .iinc 2 1, []) :: (33, .goto (-26), [7]) :: zX6_figuresRead_36
def zX6_figuresRead_0 : aC := (0, .iconst 0, []) :: (1, .istore_n 1, []) :: (2, .aload_n 0, []) :: (3, .getfield 128, [6, 3, 0, 192]) :: (6, .istore_n 2, []) :: zX6_figuresRead_7
def zX6_takeNumber_35 : aC := (35, .aload_n 0, []) :: (36, .iload_n 3, []) :: (37, .putfield 57, [6, 5, 0, 194]) :: (40, .aload_n 0, []) :: (41, .invokevirtual 22, [1, 36, 1, 6, 435, 437, 2, 68]) :: (44, .iconst 1, []) :: (45, .ireturn, []) :: []
def zX6_takeNumber_29 : aC := (29, .aload_n 0, []) :: (30, .iconst 2, []) :: (31, .invokevirtual 91, [1, 50, 2, 6, 512, 514, 8, 68]) :: (34, .ireturn, []) :: zX6_takeNumber_35
def zX6_takeNumber_14 : aC := (14, .aload_n 0, []) :: (15, .invokevirtual 117, [1, 52, 1, 6, 520, 522, 10, 68]) :: (18, .istore_n 3, []) :: (19, .iload_n 3, []) :: (20, .iload_n 1, []) :: (21, .if_icmp .lt 8, [29]) :: (24, .iload_n 3, []) :: (25, .iload_n 2, []) :: (26, .if_icmp .le 9, [35]) :: zX6_takeNumber_29
def zX6_takeNumber_0 : aC := (0, .aload_n 0, []) :: (1, .getfield 76, [6, 2, 0, 190]) :: (4, .iconst 2, []) :: (5, .if_icmp .eq 9, [14]) :: (8, .aload_n 0, []) :: (9, .iconst 1, []) :: (10, .invokevirtual 91, [1, 50, 2, 6, 512, 514, 8, 68]) :: (13, .ireturn, []) :: zX6_takeNumber_14
def zX6_takeSign_14 : aC := (14, .aload_n 0, []) :: (15, .invokevirtual 22, [1, 36, 1, 6, 435, 437, 2, 68]) :: (18, .iconst 1, []) :: (19, .ireturn, []) :: []
def zX6_takeSign_0 : aC := (0, .aload_n 0, []) :: (1, .getfield 76, [6, 2, 0, 190]) :: (4, .iconst 3, []) :: (5, .if_icmp .eq 9, [14]) :: (8, .aload_n 0, []) :: (9, .iconst 1, []) :: (10, .invokevirtual 91, [1, 50, 2, 6, 512, 514, 8, 68]) :: (13, .ireturn, []) :: zX6_takeSign_14
def zX6_readLaw_40 : aC := (40, .aload_n 1, []) :: (41, .aload_n 0, []) :: (42, .getfield 57, [6, 5, 0, 194]) :: (45, .putfield 63, [1, 9, 0, 131]) :: (48, .aload_n 0, []) :: (49, .invokevirtual 66, [1, 54, 1, 6, 524, 526, 11, 68]) :: (52, .ireturn, []) :: []
def zX6_readLaw_20 : aC := (20, .aload_n 1, []) :: (21, .aload_n 0, []) :: (22, .getfield 57, [6, 5, 0, 194]) :: (25, .putfield 60, [1, 8, 0, 128]) :: (28, .aload_n 0, []) :: (29, .iconst 0, []) :: (30, .bipush 9, []) :: (32, .invokevirtual 53, [1, 53, 3, 6, 516, 518, 9, 68]) :: (35, .ifCond .ne 5, [40]) :: (38, .iconst 0, []) :: (39, .ireturn, []) :: zX6_readLaw_40
def zX6_readLaw_18 : aC := (18, .iconst 0, []) :: (19, .ireturn, []) :: zX6_readLaw_20
def zX6_readLaw_0 : aC := (0, .aload_n 0, []) :: (1, .ldc 47, [1, 3, 455]) :: (3, .invokevirtual 49, [1, 51, 2, 6, 456, 458, 6, 68]) :: (6, .ifCond .eq 12, [18]) :: (9, .aload_n 0, []) :: (10, .iconst 0, []) :: (11, .iconst 2, []) :: (12, .invokevirtual 53, [1, 53, 3, 6, 516, 518, 9, 68]) :: (15, .ifCond .ne 5, [20]) :: zX6_readLaw_18
def zX6_readSun_47 : aC := (47, .aload_n 0, []) :: (48, .invokevirtual 66, [1, 54, 1, 6, 524, 526, 11, 68]) :: (51, .ireturn, []) :: []
def zX6_readSun_31 : aC := (31, .aload_n 1, []) :: (32, .getfield 72, [1, 0, 2, 100]) :: (35, .iload_n 2, []) :: (36, .aload_n 0, []) :: (37, .getfield 57, [6, 5, 0, 194]) :: (40, .iastore, []) :: (41, .iinc 2 1, []) :: (44, .goto (-31), [13]) :: zX6_readSun_47
def zX6_readSun_13 : aC := (13, .iload_n 2, []) :: (14, .bipush 6, []) :: (16, .if_icmp .ge 31, [47]) :: (19, .aload_n 0, []) :: (20, .iconst 0, []) :: (21, .bipush 30, []) :: (23, .invokevirtual 53, [1, 53, 3, 6, 516, 518, 9, 68]) :: (26, .ifCond .ne 5, [31]) :: (29, .iconst 0, []) :: (30, .ireturn, []) :: zX6_readSun_31
def zX6_readSun_11 : aC := (11, .iconst 0, []) :: (12, .istore_n 2, []) :: zX6_readSun_13
def zX6_readSun_0 : aC := (0, .aload_n 0, []) :: (1, .ldc 70, [1, 4, 532]) :: (3, .invokevirtual 49, [1, 51, 2, 6, 456, 458, 6, 68]) :: (6, .ifCond .ne 5, [11]) :: (9, .iconst 0, []) :: (10, .ireturn, []) :: zX6_readSun_11
def zX6_sortOf_44 : aC := (44, .ldc 151, [1, 10, 553]) :: (46, .areturn, []) :: []
def zX6_sortOf_41 : aC := (41, .ldc 149, [1, 9, 552]) :: (43, .areturn, []) :: zX6_sortOf_44
def zX6_sortOf_38 : aC := (38, .ldc 147, [1, 8, 551]) :: (40, .areturn, []) :: zX6_sortOf_41
def zX6_sortOf_35 : aC := (35, .ldc 145, [1, 7, 550]) :: (37, .areturn, []) :: zX6_sortOf_38
def zX6_sortOf_32 : aC := (32, .ldc 143, [1, 6, 549]) :: (34, .areturn, []) :: zX6_sortOf_35
def zX6_sortOf_0 : aC := (0, .iload_n 0, []) :: (1, .tableswitch 43 1 4 #[31, 34, 37, 40], [44, 32, 35, 38, 41]) :: zX6_sortOf_32
def zX6_takeSort_35 : aC := (35, .aload_n 0, []) :: (36, .iconst 1, []) :: (37, .invokevirtual 91, [1, 50, 2, 6, 512, 514, 8, 68]) :: (40, .ireturn, []) :: []
def zX6_takeSort_29 : aC := (29, .iinc 1 1, []) :: (32, .goto (-30), [2]) :: zX6_takeSort_35
def zX6_takeSort_2 : aC := (2, .iload_n 1, []) :: (3, .iconst 5, []) :: (4, .if_icmp .gt 31, [35]) :: (7, .aload_n 0, []) :: (8, .iload_n 1, []) :: (9, .invokestatic 113, [2, 57, 1, 0, 546, 547, 0, 68]) :: (12, .invokevirtual 88, [1, 49, 2, 6, 460, 462, 7, 68]) :: (15, .ifCond .eq 14, [29]) :: (18, .aload_n 0, []) :: (19, .iload_n 1, []) :: (20, .putfield 57, [6, 5, 0, 194]) :: (23, .aload_n 0, []) :: (24, .invokevirtual 22, [1, 36, 1, 6, 435, 437, 2, 68]) :: (27, .iconst 1, []) :: (28, .ireturn, []) :: zX6_takeSort_29
def zX6_takeSort_0 : aC := (0, .iconst 1, []) :: (1, .istore_n 1, []) :: zX6_takeSort_2
def zX6_readGuest_85 : aC := (85, .aload_n 1, []) :: (86, .getfield 107, [1, 3, 2, 111]) :: (89, .iload_n 2, []) :: (90, .aload_n 0, []) :: (91, .getfield 57, [6, 5, 0, 194]) :: (94, .iastore, []) :: (95, .aload_n 1, []) :: (96, .getfield 110, [1, 5, 2, 119]) :: (99, .iload_n 2, []) :: (100, .iconst 0, []) :: (101, .iastore, []) :: (102, .aload_n 0, []) :: (103, .invokevirtual 66, [1, 54, 1, 6, 524, 526, 11, 68]) :: (106, .ireturn, []) :: []
def zX6_readGuest_63 : aC := (63, .aload_n 1, []) :: (64, .getfield 104, [1, 4, 2, 115]) :: (67, .iload_n 2, []) :: (68, .aload_n 0, []) :: (69, .getfield 57, [6, 5, 0, 194]) :: (72, .iastore, []) :: (73, .aload_n 0, []) :: (74, .iconst 1, []) :: (75, .bipush 6, []) :: (77, .invokevirtual 53, [1, 53, 3, 6, 516, 518, 9, 68]) :: (80, .ifCond .ne 5, [85]) :: (83, .iconst 0, []) :: (84, .ireturn, []) :: zX6_readGuest_85
def zX6_readGuest_40 : aC := (40, .aload_n 1, []) :: (41, .getfield 101, [1, 2, 2, 108]) :: (44, .iload_n 2, []) :: (45, .aload_n 0, []) :: (46, .getfield 57, [6, 5, 0, 194]) :: (49, .iastore, []) :: (50, .aload_n 0, []) :: (51, .iconst 0, []) :: (52, .sipush 200, []) :: (55, .invokevirtual 53, [1, 53, 3, 6, 516, 518, 9, 68]) :: (58, .ifCond .ne 5, [63]) :: (61, .iconst 0, []) :: (62, .ireturn, []) :: zX6_readGuest_63
def zX6_readGuest_18 : aC := (18, .aload_n 1, []) :: (19, .getfield 98, [1, 1, 2, 105]) :: (22, .iload_n 2, []) :: (23, .aload_n 0, []) :: (24, .getfield 57, [6, 5, 0, 194]) :: (27, .iastore, []) :: (28, .aload_n 0, []) :: (29, .iconst 0, []) :: (30, .bipush 20, []) :: (32, .invokevirtual 53, [1, 53, 3, 6, 516, 518, 9, 68]) :: (35, .ifCond .ne 5, [40]) :: (38, .iconst 0, []) :: (39, .ireturn, []) :: zX6_readGuest_40
def zX6_readGuest_16 : aC := (16, .iconst 0, []) :: (17, .ireturn, []) :: zX6_readGuest_18
def zX6_readGuest_0 : aC := (0, .aload_n 0, []) :: (1, .ldc 86, [1, 5, 541]) :: (3, .invokevirtual 49, [1, 51, 2, 6, 456, 458, 6, 68]) :: (6, .ifCond .eq 10, [16]) :: (9, .aload_n 0, []) :: (10, .invokevirtual 95, [1, 58, 1, 6, 542, 544, 15, 68]) :: (13, .ifCond .ne 5, [18]) :: zX6_readGuest_16
def zX6_readGuests_64 : aC := (64, .invokevirtual 91, [1, 50, 2, 6, 512, 514, 8, 68]) :: (67, .ireturn, []) :: []
def zX6_readGuests_63 : aC := (63, .iconst 1, []) :: zX6_readGuests_64
def zX6_readGuests_49 : aC := (49, .aload_n 0, []) :: (50, .aload_n 0, []) :: (51, .ldc 86, [1, 5, 541]) :: (53, .invokevirtual 88, [1, 49, 2, 6, 460, 462, 7, 68]) :: (56, .ifCond .eq 7, [63]) :: (59, .iconst 3, []) :: (60, .goto 4, [64]) :: zX6_readGuests_63
def zX6_readGuests_39 : aC := (39, .aload_n 0, []) :: (40, .getfield 76, [6, 2, 0, 190]) :: (43, .iconst 4, []) :: (44, .if_icmp .ne 5, [49]) :: (47, .iconst 1, []) :: (48, .ireturn, []) :: zX6_readGuests_49
def zX6_readGuests_26 : aC := (26, .aload_n 1, []) :: (27, .iload_n 2, []) :: (28, .iconst 1, []) :: (29, .iadd, []) :: (30, .putfield 83, [1, 10, 0, 134]) :: (33, .iinc 2 1, []) :: (36, .goto (-34), [2]) :: zX6_readGuests_39
def zX6_readGuests_2 : aC := (2, .iload_n 2, []) :: (3, .iconst 4, []) :: (4, .if_icmp .ge 35, [39]) :: (7, .aload_n 0, []) :: (8, .getfield 76, [6, 2, 0, 190]) :: (11, .iconst 4, []) :: (12, .if_icmp .eq 27, [39]) :: (15, .aload_n 0, []) :: (16, .aload_n 1, []) :: (17, .iload_n 2, []) :: (18, .invokevirtual 79, [1, 59, 3, 6, 537, 539, 14, 68]) :: (21, .ifCond .ne 5, [26]) :: (24, .iconst 0, []) :: (25, .ireturn, []) :: zX6_readGuests_26
def zX6_readGuests_0 : aC := (0, .iconst 0, []) :: (1, .istore_n 2, []) :: zX6_readGuests_2
def zX1_dawn_0 : aC := (0, .aload_n 0, []) :: (1, .iconst 0, []) :: (2, .putfield 53, [1, 11, 0, 136]) :: (5, .aload_n 0, []) :: (6, .iconst 0, []) :: (7, .putfield 65, [1, 15, 0, 145]) :: (10, .aload_n 0, []) :: (11, .iconst 1, []) :: (12, .aload_n 0, []) :: (13, .getfield 50, [1, 10, 0, 133]) :: (16, .ishl, []) :: (17, .iconst 1, []) :: (18, .isub, []) :: (19, .putfield 59, [1, 13, 0, 140]) :: (22, .return_, []) :: []
def zX6_readBeach_42 : aC := (42, .istore_n 2, []) :: (43, .aload_n 1, []) :: (44, .iload_n 2, []) :: (45, .putfield 40, [1, 7, 3, 124]) :: (48, .aload_n 1, []) :: (49, .invokevirtual 44, [1, 61, 1, 1, 554, 555, 556, 67]) :: (52, .aload_n 0, []) :: (53, .iconst 0, []) :: (54, .putfield 15, [6, 1, 0, 188]) :: (57, .iload_n 2, []) :: (58, .ireturn, []) :: []
def zX6_readBeach_41 : aC := (41, .iconst 0, []) :: zX6_readBeach_42
def zX6_readBeach_0 : aC := (0, .aload_n 0, []) :: (1, .iconst 0, []) :: (2, .putfield 19, [6, 4, 0, 193]) :: (5, .aload_n 0, []) :: (6, .invokevirtual 22, [1, 36, 1, 6, 435, 437, 2, 68]) :: (9, .aload_n 1, []) :: (10, .invokevirtual 25, [1, 37, 1, 1, 447, 448, 449, 67]) :: (13, .aload_n 0, []) :: (14, .aload_n 1, []) :: (15, .invokevirtual 30, [1, 55, 2, 6, 451, 453, 5, 68]) :: (18, .ifCond .eq 23, [41]) :: (21, .aload_n 0, []) :: (22, .aload_n 1, []) :: (23, .invokevirtual 34, [1, 56, 2, 6, 528, 530, 12, 68]) :: (26, .ifCond .eq 15, [41]) :: (29, .aload_n 0, []) :: (30, .aload_n 1, []) :: (31, .invokevirtual 37, [1, 60, 2, 6, 533, 535, 13, 68]) :: (34, .ifCond .eq 7, [41]) :: (37, .iconst 1, []) :: (38, .goto 4, [42]) :: zX6_readBeach_41
def zX1_become_0 : aC := (0, .aload_n 1, []) :: (1, .getfield 9, [1, 0, 2, 99]) :: (4, .iconst 0, []) :: (5, .aload_n 0, []) :: (6, .getfield 9, [1, 0, 2, 99]) :: (9, .iconst 0, []) :: (10, .bipush 6, []) :: (12, .invokestatic 33, [9, 563, 405, 404, 75]) :: (15, .aload_n 1, []) :: (16, .getfield 15, [1, 1, 2, 102]) :: (19, .iconst 0, []) :: (20, .aload_n 0, []) :: (21, .getfield 15, [1, 1, 2, 102]) :: (24, .iconst 0, []) :: (25, .iconst 4, []) :: (26, .invokestatic 33, [9, 563, 405, 404, 75]) :: (29, .aload_n 1, []) :: (30, .getfield 18, [1, 2, 2, 107]) :: (33, .iconst 0, []) :: (34, .aload_n 0, []) :: (35, .getfield 18, [1, 2, 2, 107]) :: (38, .iconst 0, []) :: (39, .iconst 4, []) :: (40, .invokestatic 33, [9, 563, 405, 404, 75]) :: (43, .aload_n 1, []) :: (44, .getfield 21, [1, 3, 2, 110]) :: (47, .iconst 0, []) :: (48, .aload_n 0, []) :: (49, .getfield 21, [1, 3, 2, 110]) :: (52, .iconst 0, []) :: (53, .iconst 4, []) :: (54, .invokestatic 33, [9, 563, 405, 404, 75]) :: (57, .aload_n 1, []) :: (58, .getfield 24, [1, 4, 2, 113]) :: (61, .iconst 0, []) :: (62, .aload_n 0, []) :: (63, .getfield 24, [1, 4, 2, 113]) :: (66, .iconst 0, []) :: (67, .iconst 4, []) :: (68, .invokestatic 33, [9, 563, 405, 404, 75]) :: (71, .aload_n 1, []) :: (72, .getfield 27, [1, 5, 2, 117]) :: (75, .iconst 0, []) :: (76, .aload_n 0, []) :: (77, .getfield 27, [1, 5, 2, 117]) :: (80, .iconst 0, []) :: (81, .iconst 4, []) :: (82, .invokestatic 33, [9, 563, 405, 404, 75]) :: (85, .aload_n 1, []) :: (86, .getfield 30, [1, 6, 2, 121]) :: (89, .iconst 0, []) :: (90, .aload_n 0, []) :: (91, .getfield 30, [1, 6, 2, 121]) :: (94, .iconst 0, []) :: (95, .iconst 4, []) :: (96, .invokestatic 33, [9, 563, 405, 404, 75]) :: (99, .aload_n 0, []) :: (100, .aload_n 1, []) :: (101, .getfield 39, [1, 7, 3, 123]) :: (104, .putfield 39, [1, 7, 3, 123]) :: (107, .aload_n 0, []) :: (108, .aload_n 1, []) :: (109, .getfield 43, [1, 8, 0, 127]) :: (112, .putfield 43, [1, 8, 0, 127]) :: (115, .aload_n 0, []) :: (116, .aload_n 1, []) :: (117, .getfield 47, [1, 9, 0, 130]) :: (120, .putfield 47, [1, 9, 0, 130]) :: (123, .aload_n 0, []) :: (124, .aload_n 1, []) :: (125, .getfield 50, [1, 10, 0, 133]) :: (128, .putfield 50, [1, 10, 0, 133]) :: (131, .aload_n 0, []) :: (132, .aload_n 1, []) :: (133, .getfield 53, [1, 11, 0, 136]) :: (136, .putfield 53, [1, 11, 0, 136]) :: (139, .aload_n 0, []) :: (140, .aload_n 1, []) :: (141, .getfield 56, [1, 12, 0, 138]) :: (144, .putfield 56, [1, 12, 0, 138]) :: (147, .aload_n 0, []) :: (148, .aload_n 1, []) :: (149, .getfield 59, [1, 13, 0, 140]) :: (152, .putfield 59, [1, 13, 0, 140]) :: (155, .aload_n 0, []) :: (156, .aload_n 1, []) :: (157, .getfield 62, [1, 14, 0, 143]) :: (160, .putfield 62, [1, 14, 0, 143]) :: (163, .aload_n 0, []) :: (164, .aload_n 1, []) :: (165, .getfield 65, [1, 15, 0, 145]) :: (168, .putfield 65, [1, 15, 0, 145]) :: (171, .return_, []) :: []
def zX4_forget_0 : aC := (0, .aload_n 0, []) :: (1, .iconst 0, []) :: (2, .putfield 24, [4, 2, 0, 223]) :: (5, .return_, []) :: []
def zX7_beach_25 : aC := (25, .aload_n 0, []) :: (26, .getfield 22, [7, 2, 2, 330]) :: (29, .aload_n 0, []) :: (30, .getfield 26, [7, 3, 2, 331]) :: (33, .invokevirtual 130, [1, 63, 2, 1, 559, 560, 561, 67]) :: (36, .aload_n 0, []) :: (37, .getfield 39, [7, 5, 2, 333]) :: (40, .invokevirtual 134, [1, 64, 1, 4, 564, 565, 566, 69]) :: (43, .aload_n 0, []) :: (44, .getfield 22, [7, 2, 2, 330]) :: (47, .getfield 137, [1, 10, 0, 135]) :: (50, .ireturn, []) :: []
def zX7_beach_0 : aC := (0, .aload_n 0, []) :: (1, .getfield 32, [7, 4, 2, 332]) :: (4, .aload_n 0, []) :: (5, .getfield 26, [7, 3, 2, 331]) :: (8, .invokevirtual 122, [1, 62, 2, 6, 431, 432, 433, 68]) :: (11, .ifCond .ne 14, [25]) :: (14, .ldc 126, [0, -1000100, 558]) :: (16, .aload_n 0, []) :: (17, .getfield 32, [7, 4, 2, 332]) :: (20, .getfield 127, [6, 3, 0, 191]) :: (23, .isub, []) :: (24, .ireturn, []) :: zX7_beach_25
def zX8_sort_47 : aC := (47, .ireturn, []) :: []
def zX8_sort_46 : aC := (46, .iconst 4, []) :: zX8_sort_47
def zX8_sort_36 : aC := (36, .iload_n 0, []) :: (37, .bipush 59, []) :: (39, .if_icmp .ne 7, [46]) :: (42, .iconst 3, []) :: (43, .goto 4, [47]) :: zX8_sort_46
def zX8_sort_18 : aC := (18, .iload_n 0, []) :: (19, .i2l, []) :: (20, .ldc2_w 87, [0, 48, 1065]) :: (23, .ldc2_w 89, [0, 57, 1066]) :: (26, .invokestatic 57, [2, 15, 3, 0, 1010, 1011, 0, 74]) :: (29, .ifCond .eq 7, [36]) :: (32, .iconst 2, []) :: (33, .goto 14, [47]) :: zX8_sort_36
def zX8_sort_0 : aC := (0, .iload_n 0, []) :: (1, .i2l, []) :: (2, .ldc2_w 83, [0, 97, 1063]) :: (5, .ldc2_w 85, [0, 122, 1064]) :: (8, .invokestatic 57, [2, 15, 3, 0, 1010, 1011, 0, 74]) :: (11, .ifCond .eq 7, [18]) :: (14, .iconst 1, []) :: (15, .goto 32, [47]) :: zX8_sort_18
def zX8_next_281 : aC := (281, .putfield 103, [8, 17, 0, 942]) :: (284, .return_, []) :: []
def zX8_next_277 : aC := (277, .aload_n 0, []) :: (278, .getfield 103, [8, 17, 0, 942]) :: zX8_next_281
def zX8_next_251 : aC := (251, .aload_n 0, []) :: (252, .aload_n 0, []) :: (253, .getfield 103, [8, 17, 0, 942]) :: (256, .iconst 2, []) :: (257, .if_icmp .ne 20, [277]) :: (260, .aload_n 0, []) :: (261, .getfield 91, [8, 15, 0, 940]) :: (264, .aload_n 0, []) :: (265, .getfield 97, [8, 16, 0, 941]) :: (268, .isub, []) :: (269, .iconst 3, []) :: (270, .if_icmp .le 7, [277]) :: (273, .iconst 4, []) :: (274, .goto 7, [281]) :: zX8_next_277
def zX8_next_235 : aC := (235, .putfield 106, [8, 18, 1, 943]) :: (238, .aload_n 0, []) :: (239, .dup, []) :: (240, .getfield 91, [8, 15, 0, 940]) :: (243, .iconst 1, []) :: (244, .iadd, []) :: (245, .putfield 91, [8, 15, 0, 940]) :: (248, .goto (-130), [118]) :: zX8_next_251
def zX8_next_220 : aC := (220, .ldc2_w 116, [0, 10, 1070]) :: (223, .aload_n 0, []) :: (224, .getfield 106, [8, 18, 1, 943]) :: (227, .lmul, []) :: (228, .iload_n 1, []) :: (229, .i2l, []) :: (230, .ladd, []) :: (231, .ldc2_w 87, [0, 48, 1065]) :: (234, .lsub, []) :: zX8_next_235
def zX8_next_194 : aC := (194, .aload_n 0, []) :: (195, .getfield 103, [8, 17, 0, 942]) :: (198, .iconst 1, []) :: (199, .if_icmp .ne 21, [220]) :: (202, .ldc2_w 112, [0, 32, 1068]) :: (205, .aload_n 0, []) :: (206, .getfield 106, [8, 18, 1, 943]) :: (209, .lmul, []) :: (210, .iload_n 1, []) :: (211, .i2l, []) :: (212, .ladd, []) :: (213, .ldc2_w 114, [0, 96, 1069]) :: (216, .lsub, []) :: (217, .goto 18, [235]) :: zX8_next_220
def zX8_next_118 : aC := (118, .aload_n 0, []) :: (119, .getfield 103, [8, 17, 0, 942]) :: (122, .ifCond .le 129, [251]) :: (125, .aload_n 0, []) :: (126, .getfield 103, [8, 17, 0, 942]) :: (129, .iconst 3, []) :: (130, .if_icmp .ge 121, [251]) :: (133, .aload_n 0, []) :: (134, .getfield 91, [8, 15, 0, 940]) :: (137, .aload_n 0, []) :: (138, .getfield 94, [8, 19, 0, 944]) :: (141, .if_icmp .ge 110, [251]) :: (144, .aload_n 0, []) :: (145, .getfield 19, [8, 4, 2, 929]) :: (148, .aload_n 0, []) :: (149, .getfield 91, [8, 15, 0, 940]) :: (152, .iaload, []) :: (153, .invokestatic 100, [2, 66, 1, 0, 1060, 1061, 0, 74]) :: (156, .aload_n 0, []) :: (157, .getfield 103, [8, 17, 0, 942]) :: (160, .if_icmp .ne 91, [251]) :: (163, .aload_n 0, []) :: (164, .getfield 19, [8, 4, 2, 929]) :: (167, .aload_n 0, []) :: (168, .getfield 91, [8, 15, 0, 940]) :: (171, .iaload, []) :: (172, .istore_n 1, []) :: (173, .aload_n 0, []) :: (174, .aload_n 0, []) :: (175, .getfield 91, [8, 15, 0, 940]) :: (178, .aload_n 0, []) :: (179, .getfield 97, [8, 16, 0, 941]) :: (182, .isub, []) :: (183, .bipush 7, []) :: (185, .if_icmp .le 9, [194]) :: (188, .ldc2_w 110, [0, -1, 1067]) :: (191, .goto 44, [235]) :: zX8_next_194
def zX8_next_114 : aC := (114, .iadd, []) :: (115, .putfield 91, [8, 15, 0, 940]) :: zX8_next_118
def zX8_next_113 : aC := (113, .iconst 0, []) :: zX8_next_114
def zX8_next_88 : aC := (88, .putfield 103, [8, 17, 0, 942]) :: (91, .aload_n 0, []) :: (92, .lconst 0, []) :: (93, .putfield 106, [8, 18, 1, 943]) :: (96, .aload_n 0, []) :: (97, .dup, []) :: (98, .getfield 91, [8, 15, 0, 940]) :: (101, .aload_n 0, []) :: (102, .getfield 103, [8, 17, 0, 942]) :: (105, .iconst 2, []) :: (106, .if_icmp .le 7, [113]) :: (109, .iconst 1, []) :: (110, .goto 4, [114]) :: zX8_next_113
def zX8_next_87 : aC := (87, .iconst 0, []) :: zX8_next_88
def zX8_next_52 : aC := (52, .aload_n 0, []) :: (53, .aload_n 0, []) :: (54, .getfield 91, [8, 15, 0, 940]) :: (57, .putfield 97, [8, 16, 0, 941]) :: (60, .aload_n 0, []) :: (61, .aload_n 0, []) :: (62, .getfield 91, [8, 15, 0, 940]) :: (65, .aload_n 0, []) :: (66, .getfield 94, [8, 19, 0, 944]) :: (69, .if_icmp .ge 18, [87]) :: (72, .aload_n 0, []) :: (73, .getfield 19, [8, 4, 2, 929]) :: (76, .aload_n 0, []) :: (77, .getfield 91, [8, 15, 0, 940]) :: (80, .iaload, []) :: (81, .invokestatic 100, [2, 66, 1, 0, 1060, 1061, 0, 74]) :: (84, .goto 4, [88]) :: zX8_next_87
def zX8_next_39 : aC := (39, .aload_n 0, []) :: (40, .dup, []) :: (41, .getfield 91, [8, 15, 0, 940]) :: (44, .iconst 1, []) :: (45, .iadd, []) :: (46, .putfield 91, [8, 15, 0, 940]) :: (49, .goto (-49), [0]) :: zX8_next_52
def zX8_next_0 : aC := (0, .aload_n 0, []) :: (1, .getfield 91, [8, 15, 0, 940]) :: (4, .aload_n 0, []) :: (5, .getfield 94, [8, 19, 0, 944]) :: (8, .if_icmp .ge 44, [52]) :: (11, .aload_n 0, []) :: (12, .getfield 19, [8, 4, 2, 929]) :: (15, .aload_n 0, []) :: (16, .getfield 91, [8, 15, 0, 940]) :: (19, .iaload, []) :: (20, .bipush 32, []) :: (22, .if_icmp .eq 17, [39]) :: (25, .aload_n 0, []) :: (26, .getfield 19, [8, 4, 2, 929]) :: (29, .aload_n 0, []) :: (30, .getfield 91, [8, 15, 0, 940]) :: (33, .iaload, []) :: (34, .bipush 10, []) :: (36, .if_icmp .ne 16, [52]) :: zX8_next_39
def zX8_mustBe_13 : aC := (13, .putfield 121, [8, 6, 0, 931]) :: (16, .iload_n 1, []) :: (17, .ireturn, []) :: []
def zX8_mustBe_12 : aC := (12, .iconst 1, []) :: zX8_mustBe_13
def zX8_mustBe_0 : aC := (0, .aload_n 0, []) :: (1, .iload_n 1, []) :: (2, .ifCond .eq 10, [12]) :: (5, .aload_n 0, []) :: (6, .getfield 121, [8, 6, 0, 931]) :: (9, .goto 4, [13]) :: zX8_mustBe_12
def zX8_isWord_27 : aC := (27, .invokevirtual 124, [1, 68, 2, 8, 1071, 1073, 39, 74]) :: (30, .ireturn, []) :: []
def zX8_isWord_26 : aC := (26, .iconst 0, []) :: zX8_isWord_27
def zX8_isWord_0 : aC := (0, .aload_n 0, []) :: (1, .invokevirtual 118, [1, 67, 1, 8, 1056, 1058, 38, 74]) :: (4, .aload_n 0, []) :: (5, .aload_n 0, []) :: (6, .getfield 103, [8, 17, 0, 942]) :: (9, .iconst 1, []) :: (10, .if_icmp .ne 16, [26]) :: (13, .aload_n 0, []) :: (14, .getfield 106, [8, 18, 1, 943]) :: (17, .lload_n 1, []) :: (18, .lcmp, []) :: (19, .ifCond .ne 7, [26]) :: (22, .iconst 1, []) :: (23, .goto 4, [27]) :: zX8_isWord_26
def zX8_number_40 : aC := (40, .aload_n 0, []) :: (41, .getfield 38, [8, 20, 2, 945]) :: (44, .iload_n 1, []) :: (45, .aload_n 0, []) :: (46, .getfield 106, [8, 18, 1, 943]) :: (49, .l2i, []) :: (50, .iastore, []) :: (51, .iconst 1, []) :: (52, .ireturn, []) :: []
def zX8_number_19 : aC := (19, .aload_n 0, []) :: (20, .getfield 106, [8, 18, 1, 943]) :: (23, .iload_n 2, []) :: (24, .i2l, []) :: (25, .iload_n 3, []) :: (26, .i2l, []) :: (27, .invokestatic 57, [2, 15, 3, 0, 1010, 1011, 0, 74]) :: (30, .ifCond .ne 10, [40]) :: (33, .aload_n 0, []) :: (34, .iconst 2, []) :: (35, .putfield 121, [8, 6, 0, 931]) :: (38, .iconst 0, []) :: (39, .ireturn, []) :: zX8_number_40
def zX8_number_0 : aC := (0, .aload_n 0, []) :: (1, .invokevirtual 118, [1, 67, 1, 8, 1056, 1058, 38, 74]) :: (4, .aload_n 0, []) :: (5, .getfield 103, [8, 17, 0, 942]) :: (8, .iconst 2, []) :: (9, .if_icmp .eq 10, [19]) :: (12, .aload_n 0, []) :: (13, .iconst 1, []) :: (14, .putfield 121, [8, 6, 0, 931]) :: (17, .iconst 0, []) :: (18, .ireturn, []) :: zX8_number_19
def zX8_ends_18 : aC := (18, .invokevirtual 124, [1, 68, 2, 8, 1071, 1073, 39, 74]) :: (21, .ireturn, []) :: []
def zX8_ends_17 : aC := (17, .iconst 0, []) :: zX8_ends_18
def zX8_ends_0 : aC := (0, .aload_n 0, []) :: (1, .invokevirtual 118, [1, 67, 1, 8, 1056, 1058, 38, 74]) :: (4, .aload_n 0, []) :: (5, .aload_n 0, []) :: (6, .getfield 103, [8, 17, 0, 942]) :: (9, .iconst 3, []) :: (10, .if_icmp .ne 7, [17]) :: (13, .iconst 1, []) :: (14, .goto 4, [18]) :: zX8_ends_17
def zX8_kindHere_92 : aC := (92, .ireturn, []) :: []
def zX8_kindHere_91 : aC := (91, .iconst 0, []) :: zX8_kindHere_92
def zX8_kindHere_76 : aC := (76, .aload_n 0, []) :: (77, .getfield 106, [8, 18, 1, 943]) :: (80, .ldc2_w 136, [0, 110638, 1097]) :: (83, .lcmp, []) :: (84, .ifCond .ne 7, [91]) :: (87, .iconst 5, []) :: (88, .goto 4, [92]) :: zX8_kindHere_91
def zX8_kindHere_61 : aC := (61, .aload_n 0, []) :: (62, .getfield 106, [8, 18, 1, 943]) :: (65, .ldc2_w 134, [0, 67012, 1096]) :: (68, .lcmp, []) :: (69, .ifCond .ne 7, [76]) :: (72, .iconst 4, []) :: (73, .goto 19, [92]) :: zX8_kindHere_76
def zX8_kindHere_46 : aC := (46, .aload_n 0, []) :: (47, .getfield 106, [8, 18, 1, 943]) :: (50, .ldc2_w 132, [0, 3417476, 1095]) :: (53, .lcmp, []) :: (54, .ifCond .ne 7, [61]) :: (57, .iconst 3, []) :: (58, .goto 34, [92]) :: zX8_kindHere_61
def zX8_kindHere_31 : aC := (31, .aload_n 0, []) :: (32, .getfield 106, [8, 18, 1, 943]) :: (35, .ldc2_w 130, [0, 54740, 1094]) :: (38, .lcmp, []) :: (39, .ifCond .ne 7, [46]) :: (42, .iconst 2, []) :: (43, .goto 49, [92]) :: zX8_kindHere_46
def zX8_kindHere_16 : aC := (16, .aload_n 0, []) :: (17, .getfield 106, [8, 18, 1, 943]) :: (20, .ldc2_w 128, [0, 409029, 1093]) :: (23, .lcmp, []) :: (24, .ifCond .ne 7, [31]) :: (27, .iconst 1, []) :: (28, .goto 64, [92]) :: zX8_kindHere_31
def zX8_kindHere_0 : aC := (0, .aload_n 0, []) :: (1, .invokevirtual 118, [1, 67, 1, 8, 1056, 1058, 38, 74]) :: (4, .aload_n 0, []) :: (5, .getfield 103, [8, 17, 0, 942]) :: (8, .iconst 1, []) :: (9, .if_icmp .eq 7, [16]) :: (12, .iconst 0, []) :: (13, .goto 79, [92]) :: zX8_kindHere_16
def zX8_readsGuest_134 : aC := (134, .aload_n 0, []) :: (135, .getfield 38, [8, 20, 2, 945]) :: (138, .iconst 2, []) :: (139, .dup2, []) :: (140, .iaload, []) :: (141, .iconst 1, []) :: (142, .iadd, []) :: (143, .iastore, []) :: (144, .aload_n 0, []) :: (145, .invokevirtual 148, [1, 71, 1, 8, 1079, 1081, 41, 74]) :: (148, .ireturn, []) :: []
def zX8_readsGuest_132 : aC := (132, .iconst 0, []) :: (133, .ireturn, []) :: zX8_readsGuest_134
def zX8_readsGuest_83 : aC := (83, .invokevirtual 124, [1, 68, 2, 8, 1071, 1073, 39, 74]) :: (86, .ifCond .eq 46, [132]) :: (89, .aload_n 0, []) :: (90, .bipush 16, []) :: (92, .iload_n 1, []) :: (93, .iadd, []) :: (94, .iconst 0, []) :: (95, .bipush 20, []) :: (97, .invokevirtual 144, [1, 70, 4, 8, 1075, 1077, 40, 74]) :: (100, .ifCond .eq 32, [132]) :: (103, .aload_n 0, []) :: (104, .bipush 24, []) :: (106, .iload_n 1, []) :: (107, .iadd, []) :: (108, .iconst 0, []) :: (109, .sipush 200, []) :: (112, .invokevirtual 144, [1, 70, 4, 8, 1075, 1077, 40, 74]) :: (115, .ifCond .eq 17, [132]) :: (118, .aload_n 0, []) :: (119, .bipush 20, []) :: (121, .iload_n 1, []) :: (122, .iadd, []) :: (123, .iconst 1, []) :: (124, .bipush 6, []) :: (126, .invokevirtual 144, [1, 70, 4, 8, 1075, 1077, 40, 74]) :: (129, .ifCond .ne 5, [134]) :: zX8_readsGuest_132
def zX8_readsGuest_82 : aC := (82, .iconst 0, []) :: zX8_readsGuest_83
def zX8_readsGuest_52 : aC := (52, .aload_n 0, []) :: (53, .getfield 38, [8, 20, 2, 945]) :: (56, .bipush 12, []) :: (58, .iload_n 1, []) :: (59, .iadd, []) :: (60, .aload_n 0, []) :: (61, .invokevirtual 140, [1, 72, 1, 8, 1089, 1091, 43, 74]) :: (64, .iastore, []) :: (65, .aload_n 0, []) :: (66, .aload_n 0, []) :: (67, .getfield 38, [8, 20, 2, 945]) :: (70, .bipush 12, []) :: (72, .iload_n 1, []) :: (73, .iadd, []) :: (74, .iaload, []) :: (75, .ifCond .le 7, [82]) :: (78, .iconst 1, []) :: (79, .goto 4, [83]) :: zX8_readsGuest_82
def zX8_readsGuest_33 : aC := (33, .aload_n 0, []) :: (34, .getfield 38, [8, 20, 2, 945]) :: (37, .iconst 2, []) :: (38, .iaload, []) :: (39, .istore_n 1, []) :: (40, .iload_n 1, []) :: (41, .iconst 4, []) :: (42, .if_icmp .ne 10, [52]) :: (45, .aload_n 0, []) :: (46, .iconst 3, []) :: (47, .putfield 121, [8, 6, 0, 931]) :: (50, .iconst 0, []) :: (51, .ireturn, []) :: zX8_readsGuest_52
def zX8_readsGuest_25 : aC := (25, .invokevirtual 124, [1, 68, 2, 8, 1071, 1073, 39, 74]) :: (28, .ifCond .ne 5, [33]) :: (31, .iconst 0, []) :: (32, .ireturn, []) :: zX8_readsGuest_33
def zX8_readsGuest_24 : aC := (24, .iconst 0, []) :: zX8_readsGuest_25
def zX8_readsGuest_0 : aC := (0, .aload_n 0, []) :: (1, .aload_n 0, []) :: (2, .getfield 103, [8, 17, 0, 942]) :: (5, .iconst 1, []) :: (6, .if_icmp .ne 18, [24]) :: (9, .aload_n 0, []) :: (10, .getfield 106, [8, 18, 1, 943]) :: (13, .ldc2_w 138, [0, 8033908, 1088]) :: (16, .lcmp, []) :: (17, .ifCond .ne 7, [24]) :: (20, .iconst 1, []) :: (21, .goto 4, [25]) :: zX8_readsGuest_24
def zX8_reads_142 : aC := (142, .iconst 1, []) :: (143, .ireturn, []) :: []
def zX8_reads_135 : aC := (135, .aload_n 0, []) :: (136, .invokevirtual 118, [1, 67, 1, 8, 1056, 1058, 38, 74]) :: (139, .goto (-20), [119]) :: zX8_reads_142
def zX8_reads_119 : aC := (119, .aload_n 0, []) :: (120, .getfield 103, [8, 17, 0, 942]) :: (123, .ifCond .eq 19, [142]) :: (126, .aload_n 0, []) :: (127, .invokevirtual 160, [1, 73, 1, 8, 1084, 1086, 42, 74]) :: (130, .ifCond .ne 5, [135]) :: (133, .iconst 0, []) :: (134, .ireturn, []) :: zX8_reads_135
def zX8_reads_115 : aC := (115, .aload_n 0, []) :: (116, .invokevirtual 118, [1, 67, 1, 8, 1056, 1058, 38, 74]) :: zX8_reads_119
def zX8_reads_106 : aC := (106, .aload_n 0, []) :: (107, .invokevirtual 148, [1, 71, 1, 8, 1079, 1081, 41, 74]) :: (110, .ifCond .ne 5, [115]) :: (113, .iconst 0, []) :: (114, .ireturn, []) :: zX8_reads_115
def zX8_reads_100 : aC := (100, .iinc 1 1, []) :: (103, .goto (-25), [78]) :: zX8_reads_106
def zX8_reads_78 : aC := (78, .iload_n 1, []) :: (79, .bipush 6, []) :: (81, .if_icmp .ge 25, [106]) :: (84, .aload_n 0, []) :: (85, .bipush 6, []) :: (87, .iload_n 1, []) :: (88, .iadd, []) :: (89, .iconst 0, []) :: (90, .bipush 30, []) :: (92, .invokevirtual 144, [1, 70, 4, 8, 1075, 1077, 40, 74]) :: (95, .ifCond .ne 5, [100]) :: (98, .iconst 0, []) :: (99, .ireturn, []) :: zX8_reads_100
def zX8_reads_76 : aC := (76, .iconst 0, []) :: (77, .istore_n 1, []) :: zX8_reads_78
def zX8_reads_74 : aC := (74, .iconst 0, []) :: (75, .ireturn, []) :: zX8_reads_76
def zX8_reads_21 : aC := (21, .aload_n 0, []) :: (22, .iconst 0, []) :: (23, .putfield 91, [8, 15, 0, 940]) :: (26, .aload_n 0, []) :: (27, .ldc2_w 152, [0, 12343, 1051]) :: (30, .invokevirtual 154, [1, 69, 2, 8, 1052, 1054, 37, 74]) :: (33, .ifCond .eq 41, [74]) :: (36, .aload_n 0, []) :: (37, .iconst 0, []) :: (38, .iconst 0, []) :: (39, .iconst 2, []) :: (40, .invokevirtual 144, [1, 70, 4, 8, 1075, 1077, 40, 74]) :: (43, .ifCond .eq 31, [74]) :: (46, .aload_n 0, []) :: (47, .iconst 1, []) :: (48, .iconst 0, []) :: (49, .bipush 9, []) :: (51, .invokevirtual 144, [1, 70, 4, 8, 1075, 1077, 40, 74]) :: (54, .ifCond .eq 20, [74]) :: (57, .aload_n 0, []) :: (58, .invokevirtual 148, [1, 71, 1, 8, 1079, 1081, 41, 74]) :: (61, .ifCond .eq 13, [74]) :: (64, .aload_n 0, []) :: (65, .ldc2_w 158, [0, 20142, 1083]) :: (68, .invokevirtual 154, [1, 69, 2, 8, 1052, 1054, 37, 74]) :: (71, .ifCond .ne 5, [76]) :: zX8_reads_74
def zX8_reads_2 : aC := (2, .iload_n 1, []) :: (3, .bipush 44, []) :: (5, .if_icmp .ge 16, [21]) :: (8, .aload_n 0, []) :: (9, .getfield 38, [8, 20, 2, 945]) :: (12, .iload_n 1, []) :: (13, .iconst 0, []) :: (14, .iastore, []) :: (15, .iinc 1 1, []) :: (18, .goto (-16), [2]) :: zX8_reads_21
def zX8_reads_0 : aC := (0, .iconst 0, []) :: (1, .istore_n 1, []) :: zX8_reads_2
def zX8_copies_28 : aC := (28, .return_, []) :: []
def zX8_copies_3 : aC := (3, .iload 4, []) :: (5, .bipush 44, []) :: (7, .if_icmp .ge 21, [28]) :: (10, .aload_n 2, []) :: (11, .iload_n 3, []) :: (12, .iload 4, []) :: (14, .iadd, []) :: (15, .aload_n 0, []) :: (16, .iload_n 1, []) :: (17, .iload 4, []) :: (19, .iadd, []) :: (20, .iaload, []) :: (21, .iastore, []) :: (22, .iinc 4 1, []) :: (25, .goto (-22), [3]) :: zX8_copies_28
def zX8_copies_0 : aC := (0, .iconst 0, []) :: (1, .istore 4, []) :: zX8_copies_3
def zX8_beach_33 : aC := (33, .aload_n 0, []) :: (34, .iload_n 1, []) :: (35, .putfield 121, [8, 6, 0, 931]) :: (38, .aload_n 0, []) :: (39, .iconst 1, []) :: (40, .putfield 167, [8, 7, 3, 932]) :: (43, .aload_n 0, []) :: (44, .iconst 0, []) :: (45, .putfield 171, [8, 9, 0, 934]) :: (48, .aload_n 0, []) :: (49, .getfield 38, [8, 20, 2, 945]) :: (52, .iconst 0, []) :: (53, .aload_n 0, []) :: (54, .getfield 22, [8, 8, 2, 933]) :: (57, .iconst 0, []) :: (58, .invokestatic 174, [2, 75, 4, 0, 1099, 1100, 0, 74]) :: (61, .aload_n 0, []) :: (62, .getfield 22, [8, 8, 2, 933]) :: (65, .iconst 2, []) :: (66, .iaload, []) :: (67, .ireturn, []) :: []
def zX8_beach_0 : aC := (0, .aload_n 0, []) :: (1, .aload_n 0, []) :: (2, .getfield 77, [8, 5, 0, 930]) :: (5, .putfield 94, [8, 19, 0, 944]) :: (8, .aload_n 0, []) :: (9, .iconst 0, []) :: (10, .putfield 77, [8, 5, 0, 930]) :: (13, .aload_n 0, []) :: (14, .getfield 121, [8, 6, 0, 931]) :: (17, .istore_n 1, []) :: (18, .aload_n 0, []) :: (19, .invokevirtual 163, [1, 74, 1, 8, 1047, 1049, 36, 74]) :: (22, .ifCond .ne 11, [33]) :: (25, .ldc 166, [0, -1000100, 1098]) :: (27, .aload_n 0, []) :: (28, .getfield 97, [8, 16, 0, 941]) :: (31, .isub, []) :: (32, .ireturn, []) :: zX8_beach_33
def zX7_fault_0 : aC := (0, .aload_n 0, []) :: (1, .getfield 32, [7, 4, 2, 332]) :: (4, .getfield 140, [6, 6, 0, 195]) :: (7, .ireturn, []) :: []
def zX8_fault_0 : aC := (0, .aload_n 0, []) :: (1, .getfield 121, [8, 6, 0, 931]) :: (4, .ireturn, []) :: []
def zX4_keep_0 : aC := (0, .aload_n 0, []) :: (1, .getfield 11, [4, 0, 2, 221]) :: (4, .aload_n 0, []) :: (5, .getfield 16, [4, 1, 0, 222]) :: (8, .aaload, []) :: (9, .aload_n 1, []) :: (10, .invokevirtual 20, [1, 63, 2, 1, 581, 560, 561, 67]) :: (13, .aload_n 0, []) :: (14, .aload_n 0, []) :: (15, .getfield 16, [4, 1, 0, 222]) :: (18, .iconst 1, []) :: (19, .iadd, []) :: (20, .bipush 24, []) :: (22, .irem, []) :: (23, .putfield 16, [4, 1, 0, 222]) :: (26, .aload_n 0, []) :: (27, .bipush 24, []) :: (29, .aload_n 0, []) :: (30, .getfield 24, [4, 2, 0, 223]) :: (33, .iconst 1, []) :: (34, .iadd, []) :: (35, .invokestatic 27, [7, 1, 582, 583, 80, 584]) :: (38, .putfield 24, [4, 2, 0, 223]) :: (41, .return_, []) :: []
def zX7_bit_0 : aC := (0, .iload_n 1, []) :: (1, .iload_n 0, []) :: (2, .ishr, []) :: (3, .iconst 1, []) :: (4, .iand, []) :: (5, .ireturn, []) :: []
def zX7_isIn_14 : aC := (14, .ireturn, []) :: []
def zX7_isIn_13 : aC := (13, .iconst 0, []) :: zX7_isIn_14
def zX7_isIn_0 : aC := (0, .iload_n 0, []) :: (1, .iload_n 1, []) :: (2, .invokestatic 181, [2, 80, 2, 0, 592, 593, 0, 66]) :: (5, .iconst 1, []) :: (6, .if_icmp .ne 7, [13]) :: (9, .iconst 1, []) :: (10, .goto 4, [14]) :: zX7_isIn_13
def zX1_priceOf_28 : aC := (28, .ireturn, []) :: []
def zX1_priceOf_22 : aC := (22, .aload_n 0, []) :: (23, .getfield 9, [1, 0, 2, 99]) :: (26, .iload_n 1, []) :: (27, .iaload, []) :: zX1_priceOf_28
def zX1_priceOf_0 : aC := (0, .iload_n 1, []) :: (1, .aload_n 0, []) :: (2, .getfield 65, [1, 15, 0, 145]) :: (5, .invokestatic 72, [5, 81, 2, 0, 589, 590, 0, 66]) :: (8, .ifCond .eq 14, [22]) :: (11, .aload_n 0, []) :: (12, .getfield 9, [1, 0, 2, 99]) :: (15, .iload_n 1, []) :: (16, .iaload, []) :: (17, .iconst 2, []) :: (18, .idiv, []) :: (19, .goto 9, [28]) :: zX1_priceOf_22
def zX7_hour_67 : aC := (67, .istore_n 1, []) :: (68, .aload_n 0, []) :: (69, .getfield 22, [7, 2, 2, 330]) :: (72, .dup, []) :: (73, .getfield 148, [1, 11, 0, 137]) :: (76, .iconst 1, []) :: (77, .iadd, []) :: (78, .putfield 148, [1, 11, 0, 137]) :: (81, .iload_n 1, []) :: (82, .ireturn, []) :: []
def zX7_hour_53 : aC := (53, .aload_n 0, []) :: (54, .getfield 22, [7, 2, 2, 330]) :: (57, .aload_n 0, []) :: (58, .getfield 22, [7, 2, 2, 330]) :: (61, .getfield 148, [1, 11, 0, 137]) :: (64, .invokevirtual 157, [1, 82, 2, 1, 585, 586, 587, 67]) :: zX7_hour_67
def zX7_hour_28 : aC := (28, .aload_n 0, []) :: (29, .getfield 39, [7, 5, 2, 333]) :: (32, .aload_n 0, []) :: (33, .getfield 22, [7, 2, 2, 330]) :: (36, .invokevirtual 151, [1, 79, 2, 4, 577, 578, 579, 69]) :: (39, .aload_n 0, []) :: (40, .getfield 22, [7, 2, 2, 330]) :: (43, .getfield 154, [1, 13, 0, 141]) :: (46, .ifCond .ne 7, [53]) :: (49, .iconst 0, []) :: (50, .goto 17, [67]) :: zX7_hour_53
def zX7_hour_13 : aC := (13, .aload_n 0, []) :: (14, .getfield 22, [7, 2, 2, 330]) :: (17, .getfield 148, [1, 11, 0, 137]) :: (20, .bipush 6, []) :: (22, .if_icmp .lt 6, [28]) :: (25, .ldc 114, [0, -1000003, 422]) :: (27, .ireturn, []) :: zX7_hour_28
def zX7_hour_0 : aC := (0, .aload_n 0, []) :: (1, .getfield 22, [7, 2, 2, 330]) :: (4, .getfield 143, [1, 7, 3, 125]) :: (7, .ifCond .ne 6, [13]) :: (10, .ldc 147, [0, -1000002, 576]) :: (12, .ireturn, []) :: zX7_hour_13
def zX8_remember_49 : aC := (49, .aload_n 0, []) :: (50, .getfield 22, [8, 8, 2, 933]) :: (53, .iconst 0, []) :: (54, .aload_n 0, []) :: (55, .getfield 25, [8, 10, 2, 935]) :: (58, .bipush 44, []) :: (60, .aload_n 0, []) :: (61, .getfield 171, [8, 9, 0, 934]) :: (64, .imul, []) :: (65, .invokestatic 174, [2, 75, 4, 0, 1099, 1100, 0, 74]) :: (68, .aload_n 0, []) :: (69, .dup, []) :: (70, .getfield 171, [8, 9, 0, 934]) :: (73, .iconst 1, []) :: (74, .iadd, []) :: (75, .putfield 171, [8, 9, 0, 934]) :: (78, .return_, []) :: []
def zX8_remember_39 : aC := (39, .aload_n 0, []) :: (40, .dup, []) :: (41, .getfield 171, [8, 9, 0, 934]) :: (44, .iconst 1, []) :: (45, .isub, []) :: (46, .putfield 171, [8, 9, 0, 934]) :: zX8_remember_49
def zX8_remember_11 : aC := (11, .iload_n 1, []) :: (12, .sipush 1012, []) :: (15, .if_icmp .ge 24, [39]) :: (18, .aload_n 0, []) :: (19, .getfield 25, [8, 10, 2, 935]) :: (22, .iload_n 1, []) :: (23, .aload_n 0, []) :: (24, .getfield 25, [8, 10, 2, 935]) :: (27, .iload_n 1, []) :: (28, .bipush 44, []) :: (30, .iadd, []) :: (31, .iaload, []) :: (32, .iastore, []) :: (33, .iinc 1 1, []) :: (36, .goto (-25), [11]) :: zX8_remember_39
def zX8_remember_0 : aC := (0, .aload_n 0, []) :: (1, .getfield 171, [8, 9, 0, 934]) :: (4, .bipush 24, []) :: (6, .if_icmp .ne 43, [49]) :: (9, .iconst 0, []) :: (10, .istore_n 1, []) :: zX8_remember_11
def zX8_priceOf_37 : aC := (37, .ireturn, []) :: []
def zX8_priceOf_28 : aC := (28, .aload_n 0, []) :: (29, .getfield 22, [8, 8, 2, 933]) :: (32, .bipush 6, []) :: (34, .iload_n 1, []) :: (35, .iadd, []) :: (36, .iaload, []) :: zX8_priceOf_37
def zX8_priceOf_0 : aC := (0, .aload_n 0, []) :: (1, .getfield 22, [8, 8, 2, 933]) :: (4, .iconst 5, []) :: (5, .iaload, []) :: (6, .iload_n 1, []) :: (7, .ishr, []) :: (8, .iconst 1, []) :: (9, .iand, []) :: (10, .iconst 1, []) :: (11, .if_icmp .ne 17, [28]) :: (14, .aload_n 0, []) :: (15, .getfield 22, [8, 8, 2, 933]) :: (18, .bipush 6, []) :: (20, .iload_n 1, []) :: (21, .iadd, []) :: (22, .iaload, []) :: (23, .iconst 2, []) :: (24, .idiv, []) :: (25, .goto 12, [37]) :: zX8_priceOf_28
def zX8_hour_84 : aC := (84, .aload_n 0, []) :: (85, .getfield 22, [8, 8, 2, 933]) :: (88, .iconst 4, []) :: (89, .dup2, []) :: (90, .iaload, []) :: (91, .iconst 1, []) :: (92, .iadd, []) :: (93, .iastore, []) :: (94, .iload_n 1, []) :: (95, .ireturn, []) :: []
def zX8_hour_78 : aC := (78, .iinc 2 1, []) :: (81, .goto (-49), [32]) :: zX8_hour_84
def zX8_hour_32 : aC := (32, .iload_n 2, []) :: (33, .aload_n 0, []) :: (34, .getfield 22, [8, 8, 2, 933]) :: (37, .iconst 2, []) :: (38, .iaload, []) :: (39, .if_icmp .ge 45, [84]) :: (42, .aload_n 0, []) :: (43, .getfield 22, [8, 8, 2, 933]) :: (46, .bipush 32, []) :: (48, .iload_n 2, []) :: (49, .iadd, []) :: (50, .iaload, []) :: (51, .ifCond .ne 27, [78]) :: (54, .aload_n 0, []) :: (55, .getfield 22, [8, 8, 2, 933]) :: (58, .bipush 36, []) :: (60, .iload_n 2, []) :: (61, .iadd, []) :: (62, .dup2, []) :: (63, .iaload, []) :: (64, .iconst 1, []) :: (65, .iadd, []) :: (66, .iastore, []) :: (67, .aload_n 0, []) :: (68, .aload_n 0, []) :: (69, .getfield 22, [8, 8, 2, 933]) :: (72, .iconst 4, []) :: (73, .iaload, []) :: (74, .invokevirtual 178, [1, 85, 2, 8, 1115, 1117, 45, 74]) :: (77, .istore_n 1, []) :: zX8_hour_78
def zX8_hour_24 : aC := (24, .aload_n 0, []) :: (25, .invokevirtual 215, [1, 84, 1, 8, 1111, 1113, 44, 74]) :: (28, .iconst 0, []) :: (29, .istore_n 1, []) :: (30, .iconst 0, []) :: (31, .istore_n 2, []) :: zX8_hour_32
def zX8_hour_10 : aC := (10, .aload_n 0, []) :: (11, .getfield 22, [8, 8, 2, 933]) :: (14, .iconst 4, []) :: (15, .iaload, []) :: (16, .bipush 6, []) :: (18, .if_icmp .ne 6, [24]) :: (21, .ldc 80, [0, -1000003, 1041]) :: (23, .ireturn, []) :: zX8_hour_24
def zX8_hour_0 : aC := (0, .aload_n 0, []) :: (1, .getfield 167, [8, 7, 3, 932]) :: (4, .ifCond .ne 6, [10]) :: (7, .ldc 214, [0, -1000002, 1110]) :: (9, .ireturn, []) :: zX8_hour_10
def zX1_has_0 : aC := (0, .iload_n 1, []) :: (1, .aload_n 0, []) :: (2, .getfield 50, [1, 10, 0, 133]) :: (5, .invokestatic 68, [5, 9, 2, 0, 603, 367, 0, 66]) :: (8, .ireturn, []) :: []
def zX7_leave_31 : aC := (31, .aload_n 0, []) :: (32, .getfield 39, [7, 5, 2, 333]) :: (35, .aload_n 0, []) :: (36, .getfield 22, [7, 2, 2, 330]) :: (39, .invokevirtual 151, [1, 79, 2, 4, 577, 578, 579, 69]) :: (42, .aload_n 0, []) :: (43, .getfield 22, [7, 2, 2, 330]) :: (46, .aload_n 0, []) :: (47, .getfield 22, [7, 2, 2, 330]) :: (50, .getfield 154, [1, 13, 0, 141]) :: (53, .iconst 1, []) :: (54, .iload_n 1, []) :: (55, .ishl, []) :: (56, .iconst (-1), []) :: (57, .ixor, []) :: (58, .iand, []) :: (59, .putfield 154, [1, 13, 0, 141]) :: (62, .aload_n 0, []) :: (63, .getfield 22, [7, 2, 2, 330]) :: (66, .getfield 166, [1, 6, 2, 122]) :: (69, .iload_n 1, []) :: (70, .aload_n 0, []) :: (71, .getfield 22, [7, 2, 2, 330]) :: (74, .getfield 148, [1, 11, 0, 137]) :: (77, .iastore, []) :: (78, .aload_n 0, []) :: (79, .getfield 22, [7, 2, 2, 330]) :: (82, .getfield 148, [1, 11, 0, 137]) :: (85, .ireturn, []) :: []
def zX7_leave_14 : aC := (14, .iload_n 1, []) :: (15, .aload_n 0, []) :: (16, .getfield 22, [7, 2, 2, 330]) :: (19, .getfield 154, [1, 13, 0, 141]) :: (22, .invokestatic 163, [2, 81, 2, 0, 604, 590, 0, 66]) :: (25, .ifCond .ne 6, [31]) :: (28, .ldc 147, [0, -1000002, 576]) :: (30, .ireturn, []) :: zX7_leave_31
def zX7_leave_0 : aC := (0, .aload_n 0, []) :: (1, .getfield 22, [7, 2, 2, 330]) :: (4, .iload_n 1, []) :: (5, .invokevirtual 160, [1, 87, 2, 1, 599, 600, 601, 67]) :: (8, .ifCond .ne 6, [14]) :: (11, .ldc 67, [0, -1000001, 369]) :: (13, .ireturn, []) :: zX7_leave_14
def zX8_isGuest_0 : aC := (0, .iload_n 1, []) :: (1, .i2l, []) :: (2, .lconst 0, []) :: (3, .aload_n 0, []) :: (4, .getfield 22, [8, 8, 2, 933]) :: (7, .iconst 2, []) :: (8, .iaload, []) :: (9, .iconst 1, []) :: (10, .isub, []) :: (11, .i2l, []) :: (12, .invokestatic 57, [2, 15, 3, 0, 1010, 1011, 0, 74]) :: (15, .ireturn, []) :: []
def zX8_leave_27 : aC := (27, .aload_n 0, []) :: (28, .invokevirtual 215, [1, 84, 1, 8, 1111, 1113, 44, 74]) :: (31, .aload_n 0, []) :: (32, .getfield 22, [8, 8, 2, 933]) :: (35, .bipush 32, []) :: (37, .iload_n 1, []) :: (38, .iadd, []) :: (39, .iconst 1, []) :: (40, .iastore, []) :: (41, .aload_n 0, []) :: (42, .getfield 22, [8, 8, 2, 933]) :: (45, .bipush 36, []) :: (47, .iload_n 1, []) :: (48, .iadd, []) :: (49, .iaload, []) :: (50, .ireturn, []) :: []
def zX8_leave_11 : aC := (11, .aload_n 0, []) :: (12, .getfield 22, [8, 8, 2, 933]) :: (15, .bipush 32, []) :: (17, .iload_n 1, []) :: (18, .iadd, []) :: (19, .iaload, []) :: (20, .iconst 1, []) :: (21, .if_icmp .ne 6, [27]) :: (24, .ldc 214, [0, -1000002, 1110]) :: (26, .ireturn, []) :: zX8_leave_27
def zX8_leave_0 : aC := (0, .aload_n 0, []) :: (1, .iload_n 1, []) :: (2, .invokevirtual 218, [1, 89, 2, 8, 1123, 1125, 46, 74]) :: (5, .ifCond .ne 6, [11]) :: (8, .ldc 67, [0, -1000001, 1014]) :: (10, .ireturn, []) :: zX8_leave_11
def zX7_isHour_0 : aC := (0, .iload_n 0, []) :: (1, .bipush 6, []) :: (3, .invokestatic 175, [2, 9, 2, 0, 366, 367, 0, 66]) :: (6, .ireturn, []) :: []
def zX7_cloud_51 : aC := (51, .aload_n 0, []) :: (52, .getfield 39, [7, 5, 2, 333]) :: (55, .aload_n 0, []) :: (56, .getfield 22, [7, 2, 2, 330]) :: (59, .invokevirtual 151, [1, 79, 2, 4, 577, 578, 579, 69]) :: (62, .aload_n 0, []) :: (63, .getfield 22, [7, 2, 2, 330]) :: (66, .aload_n 0, []) :: (67, .getfield 22, [7, 2, 2, 330]) :: (70, .getfield 172, [1, 15, 0, 146]) :: (73, .iconst 1, []) :: (74, .iload_n 1, []) :: (75, .ishl, []) :: (76, .ior, []) :: (77, .putfield 172, [1, 15, 0, 146]) :: (80, .aload_n 0, []) :: (81, .getfield 22, [7, 2, 2, 330]) :: (84, .iload_n 1, []) :: (85, .invokevirtual 157, [1, 82, 2, 1, 585, 586, 587, 67]) :: (88, .ireturn, []) :: []
def zX7_cloud_48 : aC := (48, .ldc 147, [0, -1000002, 576]) :: (50, .ireturn, []) :: zX7_cloud_51
def zX7_cloud_23 : aC := (23, .iload_n 1, []) :: (24, .aload_n 0, []) :: (25, .getfield 22, [7, 2, 2, 330]) :: (28, .getfield 172, [1, 15, 0, 146]) :: (31, .invokestatic 163, [2, 81, 2, 0, 604, 590, 0, 66]) :: (34, .ifCond .ne 14, [48]) :: (37, .iload_n 1, []) :: (38, .aload_n 0, []) :: (39, .getfield 22, [7, 2, 2, 330]) :: (42, .getfield 148, [1, 11, 0, 137]) :: (45, .if_icmp .ge 6, [51]) :: zX7_cloud_48
def zX7_cloud_13 : aC := (13, .iload_n 1, []) :: (14, .invokestatic 169, [2, 91, 1, 0, 609, 610, 0, 66]) :: (17, .ifCond .ne 6, [23]) :: (20, .ldc 67, [0, -1000001, 369]) :: (22, .ireturn, []) :: zX7_cloud_23
def zX7_cloud_0 : aC := (0, .aload_n 0, []) :: (1, .getfield 22, [7, 2, 2, 330]) :: (4, .getfield 143, [1, 7, 3, 125]) :: (7, .ifCond .ne 6, [13]) :: (10, .ldc 147, [0, -1000002, 576]) :: (12, .ireturn, []) :: zX7_cloud_13
def zX8_cloud_52 : aC := (52, .aload_n 0, []) :: (53, .invokevirtual 215, [1, 84, 1, 8, 1111, 1113, 44, 74]) :: (56, .aload_n 0, []) :: (57, .getfield 22, [8, 8, 2, 933]) :: (60, .iconst 5, []) :: (61, .dup2, []) :: (62, .iaload, []) :: (63, .iconst 1, []) :: (64, .iload_n 1, []) :: (65, .ishl, []) :: (66, .ior, []) :: (67, .iastore, []) :: (68, .aload_n 0, []) :: (69, .iload_n 1, []) :: (70, .invokevirtual 178, [1, 85, 2, 8, 1115, 1117, 45, 74]) :: (73, .ireturn, []) :: []
def zX8_cloud_49 : aC := (49, .ldc 214, [0, -1000002, 1110]) :: (51, .ireturn, []) :: zX8_cloud_52
def zX8_cloud_25 : aC := (25, .aload_n 0, []) :: (26, .getfield 22, [8, 8, 2, 933]) :: (29, .iconst 5, []) :: (30, .iaload, []) :: (31, .iload_n 1, []) :: (32, .ishr, []) :: (33, .iconst 1, []) :: (34, .iand, []) :: (35, .iconst 1, []) :: (36, .if_icmp .eq 13, [49]) :: (39, .iload_n 1, []) :: (40, .aload_n 0, []) :: (41, .getfield 22, [8, 8, 2, 933]) :: (44, .iconst 4, []) :: (45, .iaload, []) :: (46, .if_icmp .ge 6, [52]) :: zX8_cloud_49
def zX8_cloud_10 : aC := (10, .iload_n 1, []) :: (11, .i2l, []) :: (12, .lconst 0, []) :: (13, .ldc2_w 221, [0, 5, 1131]) :: (16, .invokestatic 57, [2, 15, 3, 0, 1010, 1011, 0, 74]) :: (19, .ifCond .ne 6, [25]) :: (22, .ldc 67, [0, -1000001, 1014]) :: (24, .ireturn, []) :: zX8_cloud_25
def zX8_cloud_0 : aC := (0, .aload_n 0, []) :: (1, .getfield 167, [8, 7, 3, 932]) :: (4, .ifCond .ne 6, [10]) :: (7, .ldc 214, [0, -1000002, 1110]) :: (9, .ireturn, []) :: zX8_cloud_10
def zX7_shade_22 : aC := (22, .aload_n 0, []) :: (23, .getfield 39, [7, 5, 2, 333]) :: (26, .aload_n 0, []) :: (27, .getfield 22, [7, 2, 2, 330]) :: (30, .invokevirtual 151, [1, 79, 2, 4, 577, 578, 579, 69]) :: (33, .iload_n 1, []) :: (34, .aload_n 0, []) :: (35, .getfield 22, [7, 2, 2, 330]) :: (38, .getfield 178, [1, 14, 0, 144]) :: (41, .invokestatic 181, [2, 80, 2, 0, 592, 593, 0, 66]) :: (44, .istore_n 3, []) :: (45, .aload_n 0, []) :: (46, .getfield 22, [7, 2, 2, 330]) :: (49, .aload_n 0, []) :: (50, .getfield 22, [7, 2, 2, 330]) :: (53, .getfield 178, [1, 14, 0, 144]) :: (56, .iconst 1, []) :: (57, .iload_n 1, []) :: (58, .ishl, []) :: (59, .iconst (-1), []) :: (60, .ixor, []) :: (61, .iand, []) :: (62, .iload_n 2, []) :: (63, .iload_n 1, []) :: (64, .ishl, []) :: (65, .ior, []) :: (66, .putfield 178, [1, 14, 0, 144]) :: (69, .iload_n 3, []) :: (70, .ireturn, []) :: []
def zX7_shade_19 : aC := (19, .ldc 67, [0, -1000001, 369]) :: (21, .ireturn, []) :: zX7_shade_22
def zX7_shade_0 : aC := (0, .aload_n 0, []) :: (1, .getfield 22, [7, 2, 2, 330]) :: (4, .iload_n 1, []) :: (5, .invokevirtual 160, [1, 87, 2, 1, 599, 600, 601, 67]) :: (8, .ifCond .eq 11, [19]) :: (11, .iload_n 2, []) :: (12, .iconst 2, []) :: (13, .invokestatic 175, [2, 9, 2, 0, 366, 367, 0, 66]) :: (16, .ifCond .ne 6, [22]) :: zX7_shade_19
def zX8_shade_21 : aC := (21, .aload_n 0, []) :: (22, .invokevirtual 215, [1, 84, 1, 8, 1111, 1113, 44, 74]) :: (25, .aload_n 0, []) :: (26, .getfield 22, [8, 8, 2, 933]) :: (29, .bipush 40, []) :: (31, .iload_n 1, []) :: (32, .iadd, []) :: (33, .iaload, []) :: (34, .istore_n 3, []) :: (35, .aload_n 0, []) :: (36, .getfield 22, [8, 8, 2, 933]) :: (39, .bipush 40, []) :: (41, .iload_n 1, []) :: (42, .iadd, []) :: (43, .iload_n 2, []) :: (44, .iastore, []) :: (45, .iload_n 3, []) :: (46, .ireturn, []) :: []
def zX8_shade_18 : aC := (18, .ldc 67, [0, -1000001, 1014]) :: (20, .ireturn, []) :: zX8_shade_21
def zX8_shade_0 : aC := (0, .aload_n 0, []) :: (1, .iload_n 1, []) :: (2, .invokevirtual 218, [1, 89, 2, 8, 1123, 1125, 46, 74]) :: (5, .ifCond .eq 13, [18]) :: (8, .iload_n 2, []) :: (9, .i2l, []) :: (10, .lconst 0, []) :: (11, .lconst 1, []) :: (12, .invokestatic 57, [2, 15, 3, 0, 1010, 1011, 0, 74]) :: (15, .ifCond .ne 6, [21]) :: zX8_shade_18
def zX7_gift_66 : aC := (66, .aload_n 0, []) :: (67, .getfield 39, [7, 5, 2, 333]) :: (70, .aload_n 0, []) :: (71, .getfield 22, [7, 2, 2, 330]) :: (74, .invokevirtual 151, [1, 79, 2, 4, 577, 578, 579, 69]) :: (77, .aload_n 0, []) :: (78, .getfield 22, [7, 2, 2, 330]) :: (81, .getfield 184, [1, 5, 2, 120]) :: (84, .iload_n 1, []) :: (85, .dup2, []) :: (86, .iaload, []) :: (87, .iload_n 3, []) :: (88, .isub, []) :: (89, .iastore, []) :: (90, .aload_n 0, []) :: (91, .getfield 22, [7, 2, 2, 330]) :: (94, .getfield 192, [1, 4, 2, 116]) :: (97, .iload_n 1, []) :: (98, .iload 4, []) :: (100, .iastore, []) :: (101, .aload_n 0, []) :: (102, .getfield 22, [7, 2, 2, 330]) :: (105, .getfield 184, [1, 5, 2, 120]) :: (108, .iload_n 1, []) :: (109, .iaload, []) :: (110, .ireturn, []) :: []
def zX7_gift_26 : aC := (26, .iload_n 2, []) :: (27, .aload_n 0, []) :: (28, .getfield 22, [7, 2, 2, 330]) :: (31, .getfield 184, [1, 5, 2, 120]) :: (34, .iload_n 1, []) :: (35, .iaload, []) :: (36, .invokestatic 187, [7, 1, 620, 583, 80, 584]) :: (39, .istore_n 3, []) :: (40, .aload_n 0, []) :: (41, .getfield 22, [7, 2, 2, 330]) :: (44, .getfield 192, [1, 4, 2, 116]) :: (47, .iload_n 1, []) :: (48, .iaload, []) :: (49, .iload_n 2, []) :: (50, .iadd, []) :: (51, .iload_n 3, []) :: (52, .isub, []) :: (53, .istore 4, []) :: (55, .iload 4, []) :: (57, .sipush 9999, []) :: (60, .if_icmp .le 6, [66]) :: (63, .ldc 114, [0, -1000003, 422]) :: (65, .ireturn, []) :: zX7_gift_66
def zX7_gift_23 : aC := (23, .ldc 67, [0, -1000001, 369]) :: (25, .ireturn, []) :: zX7_gift_26
def zX7_gift_0 : aC := (0, .aload_n 0, []) :: (1, .getfield 22, [7, 2, 2, 330]) :: (4, .iload_n 1, []) :: (5, .invokevirtual 160, [1, 87, 2, 1, 599, 600, 601, 67]) :: (8, .ifCond .eq 15, [23]) :: (11, .iload_n 2, []) :: (12, .iconst 1, []) :: (13, .if_icmp .lt 10, [23]) :: (16, .iload_n 2, []) :: (17, .sipush 999, []) :: (20, .if_icmp .le 6, [26]) :: zX7_gift_23
def zX8_gift_92 : aC := (92, .iastore, []) :: (93, .aload_n 0, []) :: (94, .getfield 22, [8, 8, 2, 933]) :: (97, .bipush 24, []) :: (99, .iload_n 1, []) :: (100, .iadd, []) :: (101, .dup2, []) :: (102, .iaload, []) :: (103, .iload 4, []) :: (105, .iadd, []) :: (106, .iastore, []) :: (107, .aload_n 0, []) :: (108, .getfield 22, [8, 8, 2, 933]) :: (111, .bipush 28, []) :: (113, .iload_n 1, []) :: (114, .iadd, []) :: (115, .iaload, []) :: (116, .ireturn, []) :: []
def zX8_gift_89 : aC := (89, .iload_n 3, []) :: (90, .iload_n 2, []) :: (91, .isub, []) :: zX8_gift_92
def zX8_gift_68 : aC := (68, .aload_n 0, []) :: (69, .invokevirtual 215, [1, 84, 1, 8, 1111, 1113, 44, 74]) :: (72, .aload_n 0, []) :: (73, .getfield 22, [8, 8, 2, 933]) :: (76, .bipush 28, []) :: (78, .iload_n 1, []) :: (79, .iadd, []) :: (80, .iload_n 2, []) :: (81, .iload_n 3, []) :: (82, .if_icmp .le 7, [89]) :: (85, .iconst 0, []) :: (86, .goto 6, [92]) :: zX8_gift_89
def zX8_gift_45 : aC := (45, .istore 4, []) :: (47, .aload_n 0, []) :: (48, .getfield 22, [8, 8, 2, 933]) :: (51, .bipush 24, []) :: (53, .iload_n 1, []) :: (54, .iadd, []) :: (55, .iaload, []) :: (56, .iload 4, []) :: (58, .iadd, []) :: (59, .sipush 9999, []) :: (62, .if_icmp .le 6, [68]) :: (65, .ldc 80, [0, -1000003, 1041]) :: (67, .ireturn, []) :: zX8_gift_68
def zX8_gift_44 : aC := (44, .iconst 0, []) :: zX8_gift_45
def zX8_gift_23 : aC := (23, .aload_n 0, []) :: (24, .getfield 22, [8, 8, 2, 933]) :: (27, .bipush 28, []) :: (29, .iload_n 1, []) :: (30, .iadd, []) :: (31, .iaload, []) :: (32, .istore_n 3, []) :: (33, .iload_n 2, []) :: (34, .iload_n 3, []) :: (35, .if_icmp .le 9, [44]) :: (38, .iload_n 2, []) :: (39, .iload_n 3, []) :: (40, .isub, []) :: (41, .goto 4, [45]) :: zX8_gift_44
def zX8_gift_20 : aC := (20, .ldc 67, [0, -1000001, 1014]) :: (22, .ireturn, []) :: zX8_gift_23
def zX8_gift_0 : aC := (0, .aload_n 0, []) :: (1, .iload_n 1, []) :: (2, .invokevirtual 218, [1, 89, 2, 8, 1123, 1125, 46, 74]) :: (5, .ifCond .eq 15, [20]) :: (8, .iload_n 2, []) :: (9, .i2l, []) :: (10, .lconst 1, []) :: (11, .ldc2_w 223, [0, 999, 1140]) :: (14, .invokestatic 57, [2, 15, 3, 0, 1010, 1011, 0, 74]) :: (17, .ifCond .ne 6, [23]) :: zX8_gift_20
def zX1_hoursOf_24 : aC := (24, .ireturn, []) :: []
def zX1_hoursOf_18 : aC := (18, .aload_n 0, []) :: (19, .getfield 30, [1, 6, 2, 121]) :: (22, .iload_n 1, []) :: (23, .iaload, []) :: zX1_hoursOf_24
def zX1_hoursOf_0 : aC := (0, .iload_n 1, []) :: (1, .aload_n 0, []) :: (2, .getfield 59, [1, 13, 0, 140]) :: (5, .invokestatic 72, [5, 81, 2, 0, 589, 590, 0, 66]) :: (8, .ifCond .eq 10, [18]) :: (11, .aload_n 0, []) :: (12, .getfield 53, [1, 11, 0, 136]) :: (15, .goto 9, [24]) :: zX1_hoursOf_18
def zX1_joyAlone_60 : aC := (60, .ireturn, []) :: []
def zX1_joyAlone_59 : aC := (59, .iload_n 3, []) :: zX1_joyAlone_60
def zX1_joyAlone_38 : aC := (38, .aload_n 0, []) :: (39, .getfield 15, [1, 1, 2, 102]) :: (42, .iload_n 1, []) :: (43, .iaload, []) :: (44, .iconst 3, []) :: (45, .if_icmp .ne 14, [59]) :: (48, .iload_n 2, []) :: (49, .iconst 2, []) :: (50, .if_icmp .gt 9, [59]) :: (53, .iconst 2, []) :: (54, .iload_n 3, []) :: (55, .imul, []) :: (56, .goto 4, [60]) :: zX1_joyAlone_59
def zX1_joyAlone_25 : aC := (25, .iload_n 2, []) :: (26, .aload_n 0, []) :: (27, .getfield 21, [1, 3, 2, 110]) :: (30, .iload_n 1, []) :: (31, .iaload, []) :: (32, .if_icmp .lt 6, [38]) :: (35, .iload_n 3, []) :: (36, .ineg, []) :: (37, .istore_n 3, []) :: zX1_joyAlone_38
def zX1_joyAlone_0 : aC := (0, .aload_n 0, []) :: (1, .getfield 18, [1, 2, 2, 107]) :: (4, .iload_n 1, []) :: (5, .iaload, []) :: (6, .istore_n 3, []) :: (7, .iload_n 1, []) :: (8, .aload_n 0, []) :: (9, .getfield 62, [1, 14, 0, 143]) :: (12, .invokestatic 72, [5, 81, 2, 0, 589, 590, 0, 66]) :: (15, .ifCond .eq 10, [25]) :: (18, .iload_n 3, []) :: (19, .iconst 2, []) :: (20, .idiv, []) :: (21, .istore_n 3, []) :: (22, .goto 16, [38]) :: zX1_joyAlone_25
def zX2_open_181 : aC := (181, .return_, []) :: []
def zX2_open_175 : aC := (175, .iinc 2 1, []) :: (178, .goto (-135), [43]) :: zX2_open_181
def zX2_open_143 : aC := (143, .iload 4, []) :: (145, .bipush 6, []) :: (147, .if_icmp .ge 28, [175]) :: (150, .aload_n 0, []) :: (151, .getfield 24, [2, 4, 2, 250]) :: (154, .iload_n 2, []) :: (155, .bipush 6, []) :: (157, .imul, []) :: (158, .iload 4, []) :: (160, .iadd, []) :: (161, .aload_n 1, []) :: (162, .iload_n 2, []) :: (163, .iload 4, []) :: (165, .invokevirtual 61, [1, 99, 3, 1, 635, 636, 637, 67]) :: (168, .iastore, []) :: (169, .iinc 4 1, []) :: (172, .goto (-29), [143]) :: zX2_open_175
def zX2_open_128 : aC := (128, .iastore, []) :: (129, .aload_n 0, []) :: (130, .getfield 27, [2, 5, 2, 251]) :: (133, .iload_n 2, []) :: (134, .aload_n 1, []) :: (135, .iload_n 2, []) :: (136, .invokevirtual 58, [1, 98, 2, 1, 631, 632, 633, 67]) :: (139, .iastore, []) :: (140, .iconst 0, []) :: (141, .istore 4, []) :: zX2_open_143
def zX2_open_127 : aC := (127, .iconst 0, []) :: zX2_open_128
def zX2_open_123 : aC := (123, .iconst (-1), []) :: (124, .goto 4, [128]) :: zX2_open_127
def zX2_open_113 : aC := (113, .iload_n 3, []) :: (114, .iconst 4, []) :: (115, .if_icmp .eq 8, [123]) :: (118, .iload_n 3, []) :: (119, .iconst 5, []) :: (120, .if_icmp .ne 7, [127]) :: zX2_open_123
def zX2_open_98 : aC := (98, .iastore, []) :: (99, .aload_n 0, []) :: (100, .getfield 21, [2, 3, 2, 249]) :: (103, .iload_n 2, []) :: (104, .iload_n 3, []) :: (105, .iconst 2, []) :: (106, .if_icmp .ne 7, [113]) :: (109, .iconst 1, []) :: (110, .goto 18, [128]) :: zX2_open_113
def zX2_open_97 : aC := (97, .iconst 0, []) :: zX2_open_98
def zX2_open_73 : aC := (73, .iastore, []) :: (74, .aload_n 0, []) :: (75, .getfield 18, [2, 2, 2, 247]) :: (78, .iload_n 2, []) :: (79, .iload_n 2, []) :: (80, .aload_n 1, []) :: (81, .getfield 48, [1, 14, 0, 142]) :: (84, .invokestatic 51, [5, 81, 2, 0, 630, 590, 0, 66]) :: (87, .ifCond .eq 10, [97]) :: (90, .aload_n 1, []) :: (91, .getfield 55, [1, 9, 0, 129]) :: (94, .goto 4, [98]) :: zX2_open_97
def zX2_open_72 : aC := (72, .iconst 1, []) :: zX2_open_73
def zX2_open_43 : aC := (43, .iload_n 2, []) :: (44, .aload_n 0, []) :: (45, .getfield 36, [2, 6, 0, 254]) :: (48, .if_icmp .ge 133, [181]) :: (51, .aload_n 1, []) :: (52, .getfield 45, [1, 1, 2, 103]) :: (55, .iload_n 2, []) :: (56, .iaload, []) :: (57, .istore_n 3, []) :: (58, .aload_n 0, []) :: (59, .getfield 15, [2, 1, 2, 246]) :: (62, .iload_n 2, []) :: (63, .iload_n 3, []) :: (64, .iconst 5, []) :: (65, .if_icmp .ne 7, [72]) :: (68, .iconst 2, []) :: (69, .goto 4, [73]) :: zX2_open_72
def zX2_open_41 : aC := (41, .iconst 0, []) :: (42, .istore_n 2, []) :: zX2_open_43
def zX2_open_18 : aC := (18, .iload_n 2, []) :: (19, .bipush 6, []) :: (21, .if_icmp .ge 20, [41]) :: (24, .aload_n 0, []) :: (25, .getfield 9, [2, 0, 2, 244]) :: (28, .iload_n 2, []) :: (29, .aload_n 1, []) :: (30, .iload_n 2, []) :: (31, .invokevirtual 41, [1, 82, 2, 1, 629, 586, 587, 67]) :: (34, .iastore, []) :: (35, .iinc 2 1, []) :: (38, .goto (-20), [18]) :: zX2_open_41
def zX2_open_0 : aC := (0, .aload_n 0, []) :: (1, .aload_n 1, []) :: (2, .getfield 30, [1, 10, 0, 132]) :: (5, .putfield 36, [2, 6, 0, 254]) :: (8, .aload_n 0, []) :: (9, .aload_n 1, []) :: (10, .getfield 37, [1, 8, 0, 126]) :: (13, .putfield 40, [2, 7, 0, 257]) :: (16, .iconst 0, []) :: (17, .istore_n 2, []) :: zX2_open_18
def zX2_longest_39 : aC := (39, .iload_n 1, []) :: (40, .ireturn, []) :: []
def zX2_longest_32 : aC := (32, .istore_n 1, []) :: (33, .iinc 2 1, []) :: (36, .goto (-32), [4]) :: zX2_longest_39
def zX2_longest_31 : aC := (31, .iload_n 1, []) :: zX2_longest_32
def zX2_longest_4 : aC := (4, .iload_n 2, []) :: (5, .aload_n 0, []) :: (6, .getfield 36, [2, 6, 0, 254]) :: (9, .if_icmp .ge 30, [39]) :: (12, .aload_n 0, []) :: (13, .getfield 27, [2, 5, 2, 251]) :: (16, .iload_n 2, []) :: (17, .iaload, []) :: (18, .iload_n 1, []) :: (19, .if_icmp .le 12, [31]) :: (22, .aload_n 0, []) :: (23, .getfield 27, [2, 5, 2, 251]) :: (26, .iload_n 2, []) :: (27, .iaload, []) :: (28, .goto 4, [32]) :: zX2_longest_31
def zX2_longest_0 : aC := (0, .iconst 0, []) :: (1, .istore_n 1, []) :: (2, .iconst 0, []) :: (3, .istore_n 2, []) :: zX2_longest_4
def zX2_bill_24 : aC := (24, .iload_n 2, []) :: (25, .ireturn, []) :: []
def zX2_bill_4 : aC := (4, .iload_n 3, []) :: (5, .iload_n 1, []) :: (6, .if_icmp .ge 18, [24]) :: (9, .iload_n 2, []) :: (10, .aload_n 0, []) :: (11, .getfield 9, [2, 0, 2, 244]) :: (14, .iload_n 3, []) :: (15, .iaload, []) :: (16, .iadd, []) :: (17, .istore_n 2, []) :: (18, .iinc 3 1, []) :: (21, .goto (-17), [4]) :: zX2_bill_24
def zX2_bill_0 : aC := (0, .iconst 0, []) :: (1, .istore_n 2, []) :: (2, .iconst 0, []) :: (3, .istore_n 3, []) :: zX2_bill_4
def zX2_alike_126 : aC := (126, .istore 8, []) :: (128, .iload_n 1, []) :: (129, .iload 4, []) :: (131, .idiv, []) :: (132, .iload 6, []) :: (134, .imul, []) :: (135, .iload 8, []) :: (137, .iadd, []) :: (138, .ireturn, []) :: []
def zX2_alike_124 : aC := (124, .iload 7, []) :: zX2_alike_126
def zX2_alike_112 : aC := (112, .iload 7, []) :: (114, .iload 6, []) :: (116, .if_icmp .le 8, [124]) :: (119, .iload 6, []) :: (121, .goto 5, [126]) :: zX2_alike_124
def zX2_alike_86 : aC := (86, .aload_n 0, []) :: (87, .getfield 15, [2, 1, 2, 246]) :: (90, .iload_n 3, []) :: (91, .iaload, []) :: (92, .istore 6, []) :: (94, .iload_n 1, []) :: (95, .iload 4, []) :: (97, .irem, []) :: (98, .iload 5, []) :: (100, .isub, []) :: (101, .istore 7, []) :: (103, .iload 7, []) :: (105, .ifCond .ge 7, [112]) :: (108, .iconst 0, []) :: (109, .goto 17, [126]) :: zX2_alike_112
def zX2_alike_84 : aC := (84, .iconst 0, []) :: (85, .ireturn, []) :: zX2_alike_86
def zX2_alike_69 : aC := (69, .iload 4, []) :: (71, .ifCond .eq 13, [84]) :: (74, .aload_n 0, []) :: (75, .getfield 27, [2, 5, 2, 251]) :: (78, .iload_n 3, []) :: (79, .iaload, []) :: (80, .iload_n 2, []) :: (81, .if_icmp .ge 5, [86]) :: zX2_alike_84
def zX2_alike_63 : aC := (63, .iinc 6 1, []) :: (66, .goto (-57), [9]) :: zX2_alike_69
def zX2_alike_60 : aC := (60, .iadd, []) :: (61, .istore 5, []) :: zX2_alike_63
def zX2_alike_59 : aC := (59, .iconst 0, []) :: zX2_alike_60
def zX2_alike_9 : aC := (9, .iload 6, []) :: (11, .aload_n 0, []) :: (12, .getfield 36, [2, 6, 0, 254]) :: (15, .if_icmp .ge 54, [69]) :: (18, .aload_n 0, []) :: (19, .getfield 27, [2, 5, 2, 251]) :: (22, .iload 6, []) :: (24, .iaload, []) :: (25, .iload_n 2, []) :: (26, .if_icmp .lt 37, [63]) :: (29, .iload 4, []) :: (31, .aload_n 0, []) :: (32, .getfield 15, [2, 1, 2, 246]) :: (35, .iload 6, []) :: (37, .iaload, []) :: (38, .iadd, []) :: (39, .istore 4, []) :: (41, .iload 5, []) :: (43, .iload 6, []) :: (45, .iload_n 3, []) :: (46, .if_icmp .ge 13, [59]) :: (49, .aload_n 0, []) :: (50, .getfield 15, [2, 1, 2, 246]) :: (53, .iload 6, []) :: (55, .iaload, []) :: (56, .goto 4, [60]) :: zX2_alike_59
def zX2_alike_0 : aC := (0, .iconst 0, []) :: (1, .istore 4, []) :: (3, .iconst 0, []) :: (4, .istore 5, []) :: (6, .iconst 0, []) :: (7, .istore 6, []) :: zX2_alike_9
def zX2_byWeight_150 : aC := (150, .iadd, []) :: (151, .ireturn, []) :: []
def zX2_byWeight_149 : aC := (149, .iconst 0, []) :: zX2_byWeight_150
def zX2_byWeight_120 : aC := (120, .iload_n 1, []) :: (121, .aload_n 0, []) :: (122, .getfield 27, [2, 5, 2, 251]) :: (125, .iload_n 3, []) :: (126, .iaload, []) :: (127, .imul, []) :: (128, .aload_n 0, []) :: (129, .getfield 15, [2, 1, 2, 246]) :: (132, .iload_n 3, []) :: (133, .iaload, []) :: (134, .imul, []) :: (135, .iload 4, []) :: (137, .idiv, []) :: (138, .iload_n 3, []) :: (139, .iload 5, []) :: (141, .if_icmp .ne 8, [149]) :: (144, .iload 6, []) :: (146, .goto 4, [150]) :: zX2_byWeight_149
def zX2_byWeight_114 : aC := (114, .iinc 7 1, []) :: (117, .goto (-59), [58]) :: zX2_byWeight_120
def zX2_byWeight_58 : aC := (58, .iload 7, []) :: (60, .aload_n 0, []) :: (61, .getfield 36, [2, 6, 0, 254]) :: (64, .if_icmp .ge 56, [120]) :: (67, .iload 6, []) :: (69, .iload_n 1, []) :: (70, .aload_n 0, []) :: (71, .getfield 27, [2, 5, 2, 251]) :: (74, .iload 7, []) :: (76, .iaload, []) :: (77, .imul, []) :: (78, .aload_n 0, []) :: (79, .getfield 15, [2, 1, 2, 246]) :: (82, .iload 7, []) :: (84, .iaload, []) :: (85, .imul, []) :: (86, .iload 4, []) :: (88, .idiv, []) :: (89, .isub, []) :: (90, .istore 6, []) :: (92, .iload 5, []) :: (94, .ldc 91, [0, -1000000, 663]) :: (96, .if_icmp .ne 18, [114]) :: (99, .aload_n 0, []) :: (100, .getfield 27, [2, 5, 2, 251]) :: (103, .iload 7, []) :: (105, .iaload, []) :: (106, .iload_n 2, []) :: (107, .if_icmp .ne 7, [114]) :: (110, .iload 7, []) :: (112, .istore 5, []) :: zX2_byWeight_114
def zX2_byWeight_48 : aC := (48, .ldc 91, [0, -1000000, 663]) :: (50, .istore 5, []) :: (52, .iload_n 1, []) :: (53, .istore 6, []) :: (55, .iconst 0, []) :: (56, .istore 7, []) :: zX2_byWeight_58
def zX2_byWeight_41 : aC := (41, .iload 4, []) :: (43, .ifCond .ne 5, [48]) :: (46, .iconst 0, []) :: (47, .ireturn, []) :: zX2_byWeight_48
def zX2_byWeight_6 : aC := (6, .iload 5, []) :: (8, .aload_n 0, []) :: (9, .getfield 36, [2, 6, 0, 254]) :: (12, .if_icmp .ge 29, [41]) :: (15, .iload 4, []) :: (17, .aload_n 0, []) :: (18, .getfield 27, [2, 5, 2, 251]) :: (21, .iload 5, []) :: (23, .iaload, []) :: (24, .aload_n 0, []) :: (25, .getfield 15, [2, 1, 2, 246]) :: (28, .iload 5, []) :: (30, .iaload, []) :: (31, .imul, []) :: (32, .iadd, []) :: (33, .istore 4, []) :: (35, .iinc 5 1, []) :: (38, .goto (-32), [6]) :: zX2_byWeight_41
def zX2_byWeight_0 : aC := (0, .iconst 0, []) :: (1, .istore 4, []) :: (3, .iconst 0, []) :: (4, .istore 5, []) :: zX2_byWeight_6
def zX2_byHours_37 : aC := (37, .iload_n 2, []) :: (38, .ireturn, []) :: []
def zX2_byHours_4 : aC := (4, .iload_n 3, []) :: (5, .aload_n 0, []) :: (6, .getfield 27, [2, 5, 2, 251]) :: (9, .iload_n 1, []) :: (10, .iaload, []) :: (11, .if_icmp .ge 26, [37]) :: (14, .iload_n 2, []) :: (15, .aload_n 0, []) :: (16, .aload_n 0, []) :: (17, .getfield 9, [2, 0, 2, 244]) :: (20, .iload_n 3, []) :: (21, .iaload, []) :: (22, .iload_n 3, []) :: (23, .iconst 1, []) :: (24, .iadd, []) :: (25, .iload_n 1, []) :: (26, .invokevirtual 81, [1, 103, 4, 2, 655, 657, 18, 71]) :: (29, .iadd, []) :: (30, .istore_n 2, []) :: (31, .iinc 3 1, []) :: (34, .goto (-30), [4]) :: zX2_byHours_37
def zX2_byHours_0 : aC := (0, .iconst 0, []) :: (1, .istore_n 2, []) :: (2, .iconst 0, []) :: (3, .istore_n 3, []) :: zX2_byHours_4
def zX2_share_60 : aC := (60, .aload_n 0, []) :: (61, .iload_n 1, []) :: (62, .invokevirtual 88, [1, 105, 2, 2, 664, 666, 20, 71]) :: (65, .ireturn, []) :: []
def zX2_share_48 : aC := (48, .aload_n 0, []) :: (49, .aload_n 0, []) :: (50, .iload_n 2, []) :: (51, .invokevirtual 78, [1, 102, 2, 2, 651, 653, 17, 71]) :: (54, .iload_n 2, []) :: (55, .iload_n 1, []) :: (56, .invokevirtual 85, [1, 104, 4, 2, 659, 661, 19, 71]) :: (59, .ireturn, []) :: zX2_share_60
def zX2_share_36 : aC := (36, .aload_n 0, []) :: (37, .aload_n 0, []) :: (38, .iload_n 2, []) :: (39, .invokevirtual 78, [1, 102, 2, 2, 651, 653, 17, 71]) :: (42, .iload_n 2, []) :: (43, .iload_n 1, []) :: (44, .invokevirtual 81, [1, 103, 4, 2, 655, 657, 18, 71]) :: (47, .ireturn, []) :: zX2_share_48
def zX2_share_0 : aC := (0, .aload_n 0, []) :: (1, .invokevirtual 74, [1, 101, 1, 2, 647, 649, 16, 71]) :: (4, .istore_n 2, []) :: (5, .aload_n 0, []) :: (6, .getfield 40, [2, 7, 0, 257]) :: (9, .lookupswitch 51 #[(0, 27), (1, 39)], [60, 0, 36, 1, 48]) :: zX2_share_36
def zX2_pay_0 : aC := (0, .aload_n 0, []) :: (1, .iload_n 1, []) :: (2, .invokevirtual 71, [1, 106, 2, 2, 643, 644, 645, 71]) :: (5, .aload_n 0, []) :: (6, .getfield 18, [2, 2, 2, 247]) :: (9, .iload_n 1, []) :: (10, .iaload, []) :: (11, .aload_n 0, []) :: (12, .getfield 27, [2, 5, 2, 251]) :: (15, .iload_n 1, []) :: (16, .iaload, []) :: (17, .imul, []) :: (18, .iadd, []) :: (19, .ireturn, []) :: []
def zX1_grown_0 : aC := (0, .sipush 9999, []) :: (3, .iload_n 0, []) :: (4, .iload_n 0, []) :: (5, .bipush 10, []) :: (7, .idiv, []) :: (8, .iadd, []) :: (9, .invokestatic 75, [7, 1, 672, 583, 80, 584]) :: (12, .ireturn, []) :: []
def zX1_charge_0 : aC := (0, .iload_n 2, []) :: (1, .aload_n 0, []) :: (2, .getfield 24, [1, 4, 2, 113]) :: (5, .iload_n 1, []) :: (6, .iaload, []) :: (7, .invokestatic 75, [7, 1, 672, 583, 80, 584]) :: (10, .istore_n 3, []) :: (11, .aload_n 0, []) :: (12, .getfield 24, [1, 4, 2, 113]) :: (15, .iload_n 1, []) :: (16, .dup2, []) :: (17, .iaload, []) :: (18, .iload_n 3, []) :: (19, .isub, []) :: (20, .iastore, []) :: (21, .aload_n 0, []) :: (22, .getfield 27, [1, 5, 2, 117]) :: (25, .iload_n 1, []) :: (26, .sipush 9999, []) :: (29, .aload_n 0, []) :: (30, .getfield 27, [1, 5, 2, 117]) :: (33, .iload_n 1, []) :: (34, .iaload, []) :: (35, .invokestatic 81, [2, 108, 1, 0, 673, 674, 0, 67]) :: (38, .iload_n 2, []) :: (39, .iadd, []) :: (40, .iload_n 3, []) :: (41, .isub, []) :: (42, .invokestatic 75, [7, 1, 672, 583, 80, 584]) :: (45, .iastore, []) :: (46, .return_, []) :: []
def zX2_sum_0 : aC := (0, .aload_n 0, []) :: (1, .aload_n 0, []) :: (2, .invokevirtual 74, [1, 101, 1, 2, 647, 649, 16, 71]) :: (5, .invokevirtual 78, [1, 102, 2, 2, 651, 653, 17, 71]) :: (8, .ireturn, []) :: []
def zX7_sunset_98 : aC := (98, .aload_n 0, []) :: (99, .getfield 22, [7, 2, 2, 330]) :: (102, .dup, []) :: (103, .getfield 195, [1, 12, 0, 139]) :: (106, .iconst 1, []) :: (107, .iadd, []) :: (108, .putfield 195, [1, 12, 0, 139]) :: (111, .aload_n 0, []) :: (112, .getfield 22, [7, 2, 2, 330]) :: (115, .invokevirtual 209, [1, 61, 1, 1, 676, 555, 556, 67]) :: (118, .aload_n 0, []) :: (119, .getfield 54, [7, 7, 2, 335]) :: (122, .invokevirtual 212, [1, 110, 1, 2, 677, 678, 679, 71]) :: (125, .ireturn, []) :: []
def zX7_sunset_65 : aC := (65, .iload_n 1, []) :: (66, .aload_n 0, []) :: (67, .getfield 22, [7, 2, 2, 330]) :: (70, .getfield 137, [1, 10, 0, 135]) :: (73, .if_icmp .ge 25, [98]) :: (76, .aload_n 0, []) :: (77, .getfield 22, [7, 2, 2, 330]) :: (80, .iload_n 1, []) :: (81, .aload_n 0, []) :: (82, .getfield 54, [7, 7, 2, 335]) :: (85, .iload_n 1, []) :: (86, .invokevirtual 203, [1, 107, 2, 2, 639, 640, 641, 71]) :: (89, .invokevirtual 206, [1, 109, 3, 1, 668, 669, 670, 67]) :: (92, .iinc 1 1, []) :: (95, .goto (-30), [65]) :: zX7_sunset_98
def zX7_sunset_41 : aC := (41, .aload_n 0, []) :: (42, .getfield 39, [7, 5, 2, 333]) :: (45, .aload_n 0, []) :: (46, .getfield 22, [7, 2, 2, 330]) :: (49, .invokevirtual 151, [1, 79, 2, 4, 577, 578, 579, 69]) :: (52, .aload_n 0, []) :: (53, .getfield 54, [7, 7, 2, 335]) :: (56, .aload_n 0, []) :: (57, .getfield 22, [7, 2, 2, 330]) :: (60, .invokevirtual 198, [1, 100, 2, 2, 625, 626, 627, 71]) :: (63, .iconst 0, []) :: (64, .istore_n 1, []) :: zX7_sunset_65
def zX7_sunset_25 : aC := (25, .aload_n 0, []) :: (26, .getfield 22, [7, 2, 2, 330]) :: (29, .getfield 195, [1, 12, 0, 139]) :: (32, .sipush 999, []) :: (35, .if_icmp .lt 6, [41]) :: (38, .ldc 114, [0, -1000003, 422]) :: (40, .ireturn, []) :: zX7_sunset_41
def zX7_sunset_22 : aC := (22, .ldc 147, [0, -1000002, 576]) :: (24, .ireturn, []) :: zX7_sunset_25
def zX7_sunset_0 : aC := (0, .aload_n 0, []) :: (1, .getfield 22, [7, 2, 2, 330]) :: (4, .getfield 143, [1, 7, 3, 125]) :: (7, .ifCond .eq 15, [22]) :: (10, .aload_n 0, []) :: (11, .getfield 22, [7, 2, 2, 330]) :: (14, .getfield 148, [1, 11, 0, 137]) :: (17, .bipush 6, []) :: (19, .if_icmp .ge 6, [25]) :: zX7_sunset_22
def zX8_layNow_25 : aC := (25, .aload_n 0, []) :: (26, .aload_n 0, []) :: (27, .getfield 22, [8, 8, 2, 933]) :: (30, .iconst 0, []) :: (31, .iaload, []) :: (32, .putfield 181, [8, 23, 0, 948]) :: (35, .return_, []) :: []
def zX8_layNow_2 : aC := (2, .iload_n 1, []) :: (3, .bipush 6, []) :: (5, .if_icmp .ge 20, [25]) :: (8, .aload_n 0, []) :: (9, .getfield 44, [8, 22, 2, 947]) :: (12, .iload_n 1, []) :: (13, .aload_n 0, []) :: (14, .iload_n 1, []) :: (15, .invokevirtual 178, [1, 85, 2, 8, 1115, 1117, 45, 74]) :: (18, .iastore, []) :: (19, .iinc 1 1, []) :: (22, .goto (-20), [2]) :: zX8_layNow_25
def zX8_layNow_0 : aC := (0, .iconst 0, []) :: (1, .istore_n 1, []) :: zX8_layNow_2
def zX8_longest_41 : aC := (41, .iload_n 1, []) :: (42, .ireturn, []) :: []
def zX8_longest_34 : aC := (34, .istore_n 1, []) :: (35, .iinc 2 1, []) :: (38, .goto (-34), [4]) :: zX8_longest_41
def zX8_longest_33 : aC := (33, .iload_n 1, []) :: zX8_longest_34
def zX8_longest_4 : aC := (4, .iload_n 2, []) :: (5, .aload_n 0, []) :: (6, .getfield 22, [8, 8, 2, 933]) :: (9, .iconst 2, []) :: (10, .iaload, []) :: (11, .if_icmp .ge 30, [41]) :: (14, .aload_n 0, []) :: (15, .getfield 41, [8, 21, 2, 946]) :: (18, .iload_n 2, []) :: (19, .iaload, []) :: (20, .iload_n 1, []) :: (21, .if_icmp .le 12, [33]) :: (24, .aload_n 0, []) :: (25, .getfield 41, [8, 21, 2, 946]) :: (28, .iload_n 2, []) :: (29, .iaload, []) :: (30, .goto 4, [34]) :: zX8_longest_33
def zX8_longest_0 : aC := (0, .iconst 0, []) :: (1, .istore_n 1, []) :: (2, .iconst 0, []) :: (3, .istore_n 2, []) :: zX8_longest_4
def zX8_sum_27 : aC := (27, .iload_n 1, []) :: (28, .ireturn, []) :: []
def zX8_sum_4 : aC := (4, .iload_n 2, []) :: (5, .aload_n 0, []) :: (6, .invokevirtual 184, [1, 113, 1, 8, 1153, 1155, 49, 74]) :: (9, .if_icmp .ge 18, [27]) :: (12, .iload_n 1, []) :: (13, .aload_n 0, []) :: (14, .getfield 44, [8, 22, 2, 947]) :: (17, .iload_n 2, []) :: (18, .iaload, []) :: (19, .iadd, []) :: (20, .istore_n 1, []) :: (21, .iinc 2 1, []) :: (24, .goto (-20), [4]) :: zX8_sum_27
def zX8_sum_0 : aC := (0, .iconst 0, []) :: (1, .istore_n 1, []) :: (2, .iconst 0, []) :: (3, .istore_n 2, []) :: zX8_sum_4
def zX8_heads_18 : aC := (18, .ireturn, []) :: []
def zX8_heads_17 : aC := (17, .iconst 1, []) :: zX8_heads_18
def zX8_heads_0 : aC := (0, .aload_n 0, []) :: (1, .getfield 22, [8, 8, 2, 933]) :: (4, .bipush 12, []) :: (6, .iload_n 1, []) :: (7, .iadd, []) :: (8, .iaload, []) :: (9, .iconst 5, []) :: (10, .if_icmp .ne 7, [17]) :: (13, .iconst 2, []) :: (14, .goto 4, [18]) :: zX8_heads_17
def zX8_parts_130 : aC := (130, .return_, []) :: []
def zX8_parts_124 : aC := (124, .iinc 5 1, []) :: (127, .goto (-75), [52]) :: zX8_parts_130
def zX8_parts_112 : aC := (112, .iadd, []) :: (113, .iadd, []) :: (114, .iastore, []) :: (115, .iinc 4 1, []) :: (118, .iinc 6 1, []) :: (121, .goto (-55), [66]) :: zX8_parts_124
def zX8_parts_111 : aC := (111, .iconst 0, []) :: zX8_parts_112
def zX8_parts_66 : aC := (66, .iload 6, []) :: (68, .aload_n 0, []) :: (69, .iload 5, []) :: (71, .invokevirtual 187, [1, 115, 2, 8, 1165, 1167, 52, 74]) :: (74, .if_icmp .ge 50, [124]) :: (77, .aload_n 0, []) :: (78, .getfield 41, [8, 21, 2, 946]) :: (81, .iload 5, []) :: (83, .iaload, []) :: (84, .iload_n 2, []) :: (85, .if_icmp .le 39, [124]) :: (88, .aload_n 0, []) :: (89, .getfield 47, [8, 24, 2, 949]) :: (92, .iload 5, []) :: (94, .dup2, []) :: (95, .iaload, []) :: (96, .iload_n 1, []) :: (97, .iload_n 3, []) :: (98, .idiv, []) :: (99, .iload 4, []) :: (101, .iload_n 1, []) :: (102, .iload_n 3, []) :: (103, .irem, []) :: (104, .if_icmp .ge 7, [111]) :: (107, .iconst 1, []) :: (108, .goto 4, [112]) :: zX8_parts_111
def zX8_parts_52 : aC := (52, .iload 5, []) :: (54, .aload_n 0, []) :: (55, .getfield 22, [8, 8, 2, 933]) :: (58, .iconst 2, []) :: (59, .iaload, []) :: (60, .if_icmp .ge 70, [130]) :: (63, .iconst 0, []) :: (64, .istore 6, []) :: zX8_parts_66
def zX8_parts_46 : aC := (46, .iconst 0, []) :: (47, .istore 4, []) :: (49, .iconst 0, []) :: (50, .istore 5, []) :: zX8_parts_52
def zX8_parts_38 : aC := (38, .iadd, []) :: (39, .istore_n 3, []) :: (40, .iinc 4 1, []) :: (43, .goto (-38), [5]) :: zX8_parts_46
def zX8_parts_37 : aC := (37, .iconst 0, []) :: zX8_parts_38
def zX8_parts_5 : aC := (5, .iload 4, []) :: (7, .aload_n 0, []) :: (8, .getfield 22, [8, 8, 2, 933]) :: (11, .iconst 2, []) :: (12, .iaload, []) :: (13, .if_icmp .ge 33, [46]) :: (16, .iload_n 3, []) :: (17, .aload_n 0, []) :: (18, .getfield 41, [8, 21, 2, 946]) :: (21, .iload 4, []) :: (23, .iaload, []) :: (24, .iload_n 2, []) :: (25, .if_icmp .le 12, [37]) :: (28, .aload_n 0, []) :: (29, .iload 4, []) :: (31, .invokevirtual 187, [1, 115, 2, 8, 1165, 1167, 52, 74]) :: (34, .goto 4, [38]) :: zX8_parts_37
def zX8_parts_0 : aC := (0, .iconst 0, []) :: (1, .istore_n 3, []) :: (2, .iconst 0, []) :: (3, .istore 4, []) :: zX8_parts_5
def zX8_share_232 : aC := (232, .return_, []) :: []
def zX8_share_220 : aC := (220, .aload_n 0, []) :: (221, .getfield 47, [8, 24, 2, 949]) :: (224, .iload 4, []) :: (226, .dup2, []) :: (227, .iaload, []) :: (228, .iload 5, []) :: (230, .iadd, []) :: (231, .iastore, []) :: zX8_share_232
def zX8_share_166 : aC := (166, .iload 6, []) :: (168, .aload_n 0, []) :: (169, .getfield 22, [8, 8, 2, 933]) :: (172, .iconst 2, []) :: (173, .iaload, []) :: (174, .if_icmp .ge 46, [220]) :: (177, .aload_n 0, []) :: (178, .getfield 47, [8, 24, 2, 949]) :: (181, .iload 6, []) :: (183, .iload_n 2, []) :: (184, .aload_n 0, []) :: (185, .getfield 41, [8, 21, 2, 946]) :: (188, .iload 6, []) :: (190, .iaload, []) :: (191, .imul, []) :: (192, .aload_n 0, []) :: (193, .iload 6, []) :: (195, .invokevirtual 187, [1, 115, 2, 8, 1165, 1167, 52, 74]) :: (198, .imul, []) :: (199, .iload_n 3, []) :: (200, .idiv, []) :: (201, .iastore, []) :: (202, .iload 5, []) :: (204, .aload_n 0, []) :: (205, .getfield 47, [8, 24, 2, 949]) :: (208, .iload 6, []) :: (210, .iaload, []) :: (211, .isub, []) :: (212, .istore 5, []) :: (214, .iinc 6 1, []) :: (217, .goto (-51), [166]) :: zX8_share_220
def zX8_share_160 : aC := (160, .iload_n 2, []) :: (161, .istore 5, []) :: (163, .iconst 0, []) :: (164, .istore 6, []) :: zX8_share_166
def zX8_share_152 : aC := (152, .istore 4, []) :: (154, .iinc 5 1, []) :: (157, .goto (-58), [99]) :: zX8_share_160
def zX8_share_150 : aC := (150, .iload 4, []) :: zX8_share_152
def zX8_share_99 : aC := (99, .iload 5, []) :: (101, .aload_n 0, []) :: (102, .getfield 22, [8, 8, 2, 933]) :: (105, .iconst 2, []) :: (106, .iaload, []) :: (107, .if_icmp .ge 53, [160]) :: (110, .iload_n 3, []) :: (111, .aload_n 0, []) :: (112, .getfield 41, [8, 21, 2, 946]) :: (115, .iload 5, []) :: (117, .iaload, []) :: (118, .aload_n 0, []) :: (119, .iload 5, []) :: (121, .invokevirtual 187, [1, 115, 2, 8, 1165, 1167, 52, 74]) :: (124, .imul, []) :: (125, .iadd, []) :: (126, .istore_n 3, []) :: (127, .iload 4, []) :: (129, .ldc 197, [0, -1000000, 1169]) :: (131, .if_icmp .ne 19, [150]) :: (134, .aload_n 0, []) :: (135, .getfield 41, [8, 21, 2, 946]) :: (138, .iload 5, []) :: (140, .iaload, []) :: (141, .iload_n 1, []) :: (142, .if_icmp .ne 8, [150]) :: (145, .iload 5, []) :: (147, .goto 5, [152]) :: zX8_share_150
def zX8_share_82 : aC := (82, .aload_n 0, []) :: (83, .getfield 181, [8, 23, 0, 948]) :: (86, .iconst 1, []) :: (87, .if_icmp .ne 145, [232]) :: (90, .iconst 0, []) :: (91, .istore_n 3, []) :: (92, .ldc 197, [0, -1000000, 1169]) :: (94, .istore 4, []) :: (96, .iconst 0, []) :: (97, .istore 5, []) :: zX8_share_99
def zX8_share_52 : aC := (52, .iload_n 3, []) :: (53, .iload_n 1, []) :: (54, .if_icmp .ge 28, [82]) :: (57, .aload_n 0, []) :: (58, .getfield 181, [8, 23, 0, 948]) :: (61, .iconst 2, []) :: (62, .if_icmp .ne 20, [82]) :: (65, .aload_n 0, []) :: (66, .aload_n 0, []) :: (67, .getfield 44, [8, 22, 2, 947]) :: (70, .iload_n 3, []) :: (71, .iaload, []) :: (72, .iload_n 3, []) :: (73, .invokevirtual 193, [1, 116, 3, 8, 1161, 1163, 51, 74]) :: (76, .iinc 3 1, []) :: (79, .goto (-27), [52]) :: zX8_share_82
def zX8_share_50 : aC := (50, .iconst 0, []) :: (51, .istore_n 3, []) :: zX8_share_52
def zX8_share_35 : aC := (35, .aload_n 0, []) :: (36, .getfield 181, [8, 23, 0, 948]) :: (39, .ifCond .ne 11, [50]) :: (42, .aload_n 0, []) :: (43, .iload_n 2, []) :: (44, .iload_n 1, []) :: (45, .iconst 1, []) :: (46, .isub, []) :: (47, .invokevirtual 193, [1, 116, 3, 8, 1161, 1163, 51, 74]) :: zX8_share_50
def zX8_share_20 : aC := (20, .aload_n 0, []) :: (21, .invokevirtual 184, [1, 113, 1, 8, 1153, 1155, 49, 74]) :: (24, .istore_n 1, []) :: (25, .aload_n 0, []) :: (26, .invokevirtual 190, [1, 114, 1, 8, 1157, 1159, 50, 74]) :: (29, .istore_n 2, []) :: (30, .iload_n 1, []) :: (31, .ifCond .ne 4, [35]) :: (34, .return_, []) :: zX8_share_35
def zX8_share_2 : aC := (2, .iload_n 1, []) :: (3, .iconst 4, []) :: (4, .if_icmp .ge 16, [20]) :: (7, .aload_n 0, []) :: (8, .getfield 47, [8, 24, 2, 949]) :: (11, .iload_n 1, []) :: (12, .iconst 0, []) :: (13, .iastore, []) :: (14, .iinc 1 1, []) :: (17, .goto (-15), [2]) :: zX8_share_20
def zX8_share_0 : aC := (0, .iconst 0, []) :: (1, .istore_n 1, []) :: zX8_share_2
def zX8_payOf_36 : aC := (36, .iadd, []) :: (37, .ireturn, []) :: []
def zX8_payOf_35 : aC := (35, .iconst 0, []) :: zX8_payOf_36
def zX8_payOf_0 : aC := (0, .aload_n 0, []) :: (1, .getfield 47, [8, 24, 2, 949]) :: (4, .iload_n 1, []) :: (5, .iaload, []) :: (6, .aload_n 0, []) :: (7, .getfield 22, [8, 8, 2, 933]) :: (10, .bipush 40, []) :: (12, .iload_n 1, []) :: (13, .iadd, []) :: (14, .iaload, []) :: (15, .iconst 1, []) :: (16, .if_icmp .ne 19, [35]) :: (19, .aload_n 0, []) :: (20, .getfield 22, [8, 8, 2, 933]) :: (23, .iconst 1, []) :: (24, .iaload, []) :: (25, .aload_n 0, []) :: (26, .getfield 41, [8, 21, 2, 946]) :: (29, .iload_n 1, []) :: (30, .iaload, []) :: (31, .imul, []) :: (32, .goto 4, [36]) :: zX8_payOf_35
def zX8_least_14 : aC := (14, .ireturn, []) :: []
def zX8_least_11 : aC := (11, .sipush 9999, []) :: zX8_least_14
def zX8_least_0 : aC := (0, .iload_n 0, []) :: (1, .sipush 9999, []) :: (4, .if_icmp .ge 7, [11]) :: (7, .iload_n 0, []) :: (8, .goto 6, [14]) :: zX8_least_11
def zX8_sunset_214 : aC := (214, .aload_n 0, []) :: (215, .getfield 22, [8, 8, 2, 933]) :: (218, .iconst 3, []) :: (219, .dup2, []) :: (220, .iaload, []) :: (221, .iconst 1, []) :: (222, .iadd, []) :: (223, .iastore, []) :: (224, .aload_n 0, []) :: (225, .getfield 22, [8, 8, 2, 933]) :: (228, .iconst 4, []) :: (229, .iconst 0, []) :: (230, .iastore, []) :: (231, .aload_n 0, []) :: (232, .getfield 22, [8, 8, 2, 933]) :: (235, .iconst 5, []) :: (236, .iconst 0, []) :: (237, .iastore, []) :: (238, .iload_n 1, []) :: (239, .ireturn, []) :: []
def zX8_sunset_130 : aC := (130, .istore 4, []) :: (132, .aload_n 0, []) :: (133, .getfield 22, [8, 8, 2, 933]) :: (136, .bipush 28, []) :: (138, .iload_n 2, []) :: (139, .iadd, []) :: (140, .aload_n 0, []) :: (141, .getfield 22, [8, 8, 2, 933]) :: (144, .bipush 28, []) :: (146, .iload_n 2, []) :: (147, .iadd, []) :: (148, .iaload, []) :: (149, .aload_n 0, []) :: (150, .getfield 22, [8, 8, 2, 933]) :: (153, .bipush 28, []) :: (155, .iload_n 2, []) :: (156, .iadd, []) :: (157, .iaload, []) :: (158, .bipush 10, []) :: (160, .idiv, []) :: (161, .iadd, []) :: (162, .invokestatic 228, [2, 119, 1, 0, 1174, 1175, 0, 74]) :: (165, .iload_n 3, []) :: (166, .iadd, []) :: (167, .iload 4, []) :: (169, .isub, []) :: (170, .invokestatic 228, [2, 119, 1, 0, 1174, 1175, 0, 74]) :: (173, .iastore, []) :: (174, .aload_n 0, []) :: (175, .getfield 22, [8, 8, 2, 933]) :: (178, .bipush 24, []) :: (180, .iload_n 2, []) :: (181, .iadd, []) :: (182, .dup2, []) :: (183, .iaload, []) :: (184, .iload 4, []) :: (186, .isub, []) :: (187, .iastore, []) :: (188, .aload_n 0, []) :: (189, .getfield 22, [8, 8, 2, 933]) :: (192, .bipush 32, []) :: (194, .iload_n 2, []) :: (195, .iadd, []) :: (196, .iconst 0, []) :: (197, .iastore, []) :: (198, .aload_n 0, []) :: (199, .getfield 22, [8, 8, 2, 933]) :: (202, .bipush 36, []) :: (204, .iload_n 2, []) :: (205, .iadd, []) :: (206, .iconst 0, []) :: (207, .iastore, []) :: (208, .iinc 2 1, []) :: (211, .goto (-123), [88]) :: zX8_sunset_214
def zX8_sunset_121 : aC := (121, .aload_n 0, []) :: (122, .getfield 22, [8, 8, 2, 933]) :: (125, .bipush 24, []) :: (127, .iload_n 2, []) :: (128, .iadd, []) :: (129, .iaload, []) :: zX8_sunset_130
def zX8_sunset_88 : aC := (88, .iload_n 2, []) :: (89, .aload_n 0, []) :: (90, .getfield 22, [8, 8, 2, 933]) :: (93, .iconst 2, []) :: (94, .iaload, []) :: (95, .if_icmp .ge 119, [214]) :: (98, .aload_n 0, []) :: (99, .iload_n 2, []) :: (100, .invokevirtual 201, [1, 118, 2, 8, 1170, 1172, 53, 74]) :: (103, .istore_n 3, []) :: (104, .iload_n 3, []) :: (105, .aload_n 0, []) :: (106, .getfield 22, [8, 8, 2, 933]) :: (109, .bipush 24, []) :: (111, .iload_n 2, []) :: (112, .iadd, []) :: (113, .iaload, []) :: (114, .if_icmp .ge 7, [121]) :: (117, .iload_n 3, []) :: (118, .goto 12, [130]) :: zX8_sunset_121
def zX8_sunset_77 : aC := (77, .aload_n 0, []) :: (78, .invokevirtual 198, [1, 117, 1, 8, 1149, 1151, 48, 74]) :: (81, .aload_n 0, []) :: (82, .invokevirtual 190, [1, 114, 1, 8, 1157, 1159, 50, 74]) :: (85, .istore_n 1, []) :: (86, .iconst 0, []) :: (87, .istore_n 2, []) :: zX8_sunset_88
def zX8_sunset_46 : aC := (46, .iload_n 1, []) :: (47, .aload_n 0, []) :: (48, .getfield 22, [8, 8, 2, 933]) :: (51, .iconst 2, []) :: (52, .iaload, []) :: (53, .if_icmp .ge 24, [77]) :: (56, .aload_n 0, []) :: (57, .getfield 41, [8, 21, 2, 946]) :: (60, .iload_n 1, []) :: (61, .aload_n 0, []) :: (62, .getfield 22, [8, 8, 2, 933]) :: (65, .bipush 36, []) :: (67, .iload_n 1, []) :: (68, .iadd, []) :: (69, .iaload, []) :: (70, .iastore, []) :: (71, .iinc 1 1, []) :: (74, .goto (-28), [46]) :: zX8_sunset_77
def zX8_sunset_36 : aC := (36, .aload_n 0, []) :: (37, .invokevirtual 215, [1, 84, 1, 8, 1111, 1113, 44, 74]) :: (40, .aload_n 0, []) :: (41, .invokevirtual 225, [1, 112, 1, 8, 1145, 1147, 47, 74]) :: (44, .iconst 0, []) :: (45, .istore_n 1, []) :: zX8_sunset_46
def zX8_sunset_21 : aC := (21, .aload_n 0, []) :: (22, .getfield 22, [8, 8, 2, 933]) :: (25, .iconst 3, []) :: (26, .iaload, []) :: (27, .sipush 999, []) :: (30, .if_icmp .ne 6, [36]) :: (33, .ldc 80, [0, -1000003, 1041]) :: (35, .ireturn, []) :: zX8_sunset_36
def zX8_sunset_18 : aC := (18, .ldc 214, [0, -1000002, 1110]) :: (20, .ireturn, []) :: zX8_sunset_21
def zX8_sunset_0 : aC := (0, .aload_n 0, []) :: (1, .getfield 167, [8, 7, 3, 932]) :: (4, .ifCond .eq 14, [18]) :: (7, .aload_n 0, []) :: (8, .getfield 22, [8, 8, 2, 933]) :: (11, .iconst 4, []) :: (12, .iaload, []) :: (13, .bipush 6, []) :: (15, .if_icmp .ge 6, [21]) :: zX8_sunset_18
def zX4_undoInto_0 : aC := (0, .aload_n 0, []) :: (1, .aload_n 0, []) :: (2, .getfield 16, [4, 1, 0, 222]) :: (5, .bipush 24, []) :: (7, .iadd, []) :: (8, .iconst 1, []) :: (9, .isub, []) :: (10, .bipush 24, []) :: (12, .irem, []) :: (13, .putfield 16, [4, 1, 0, 222]) :: (16, .aload_n 0, []) :: (17, .dup, []) :: (18, .getfield 24, [4, 2, 0, 223]) :: (21, .iconst 1, []) :: (22, .isub, []) :: (23, .putfield 24, [4, 2, 0, 223]) :: (26, .aload_n 1, []) :: (27, .aload_n 0, []) :: (28, .getfield 11, [4, 0, 2, 221]) :: (31, .aload_n 0, []) :: (32, .getfield 16, [4, 1, 0, 222]) :: (35, .aaload, []) :: (36, .invokevirtual 20, [1, 63, 2, 1, 581, 560, 561, 67]) :: (39, .return_, []) :: []
def zX7_undo_13 : aC := (13, .aload_n 0, []) :: (14, .getfield 39, [7, 5, 2, 333]) :: (17, .aload_n 0, []) :: (18, .getfield 22, [7, 2, 2, 330]) :: (21, .invokevirtual 219, [1, 121, 2, 4, 685, 686, 687, 69]) :: (24, .aload_n 0, []) :: (25, .getfield 39, [7, 5, 2, 333]) :: (28, .getfield 216, [4, 2, 0, 224]) :: (31, .ireturn, []) :: []
def zX7_undo_0 : aC := (0, .aload_n 0, []) :: (1, .getfield 39, [7, 5, 2, 333]) :: (4, .getfield 216, [4, 2, 0, 224]) :: (7, .ifCond .ne 6, [13]) :: (10, .ldc 147, [0, -1000002, 576]) :: (12, .ireturn, []) :: zX7_undo_13
def zX8_undo_10 : aC := (10, .aload_n 0, []) :: (11, .dup, []) :: (12, .getfield 171, [8, 9, 0, 934]) :: (15, .iconst 1, []) :: (16, .isub, []) :: (17, .putfield 171, [8, 9, 0, 934]) :: (20, .aload_n 0, []) :: (21, .getfield 25, [8, 10, 2, 935]) :: (24, .bipush 44, []) :: (26, .aload_n 0, []) :: (27, .getfield 171, [8, 9, 0, 934]) :: (30, .imul, []) :: (31, .aload_n 0, []) :: (32, .getfield 22, [8, 8, 2, 933]) :: (35, .iconst 0, []) :: (36, .invokestatic 174, [2, 75, 4, 0, 1099, 1100, 0, 74]) :: (39, .aload_n 0, []) :: (40, .getfield 171, [8, 9, 0, 934]) :: (43, .ireturn, []) :: []
def zX8_undo_0 : aC := (0, .aload_n 0, []) :: (1, .getfield 171, [8, 9, 0, 934]) :: (4, .ifCond .ne 6, [10]) :: (7, .ldc 214, [0, -1000002, 1110]) :: (9, .ireturn, []) :: zX8_undo_10
def zX7_guest_129 : aC := (129, .ldc 67, [0, -1000001, 369]) :: (131, .ireturn, []) :: []
def zX7_guest_119 : aC := (119, .aload_n 0, []) :: (120, .getfield 22, [7, 2, 2, 330]) :: (123, .getfield 184, [1, 5, 2, 120]) :: (126, .iload_n 1, []) :: (127, .iaload, []) :: (128, .ireturn, []) :: zX7_guest_129
def zX7_guest_107 : aC := (107, .iload_n 1, []) :: (108, .aload_n 0, []) :: (109, .getfield 22, [7, 2, 2, 330]) :: (112, .getfield 178, [1, 14, 0, 144]) :: (115, .invokestatic 181, [2, 80, 2, 0, 592, 593, 0, 66]) :: (118, .ireturn, []) :: zX7_guest_119
def zX7_guest_98 : aC := (98, .aload_n 0, []) :: (99, .getfield 22, [7, 2, 2, 330]) :: (102, .iload_n 1, []) :: (103, .invokevirtual 228, [1, 98, 2, 1, 693, 632, 633, 67]) :: (106, .ireturn, []) :: zX7_guest_107
def zX7_guest_86 : aC := (86, .iload_n 1, []) :: (87, .aload_n 0, []) :: (88, .getfield 22, [7, 2, 2, 330]) :: (91, .getfield 154, [1, 13, 0, 141]) :: (94, .invokestatic 181, [2, 80, 2, 0, 592, 593, 0, 66]) :: (97, .ireturn, []) :: zX7_guest_98
def zX7_guest_76 : aC := (76, .aload_n 0, []) :: (77, .getfield 22, [7, 2, 2, 330]) :: (80, .getfield 225, [1, 3, 2, 112]) :: (83, .iload_n 1, []) :: (84, .iaload, []) :: (85, .ireturn, []) :: zX7_guest_86
def zX7_guest_66 : aC := (66, .aload_n 0, []) :: (67, .getfield 22, [7, 2, 2, 330]) :: (70, .getfield 192, [1, 4, 2, 116]) :: (73, .iload_n 1, []) :: (74, .iaload, []) :: (75, .ireturn, []) :: zX7_guest_76
def zX7_guest_56 : aC := (56, .aload_n 0, []) :: (57, .getfield 22, [7, 2, 2, 330]) :: (60, .getfield 222, [1, 2, 2, 109]) :: (63, .iload_n 1, []) :: (64, .iaload, []) :: (65, .ireturn, []) :: zX7_guest_66
def zX7_guest_14 : aC := (14, .iload_n 2, []) :: (15, .tableswitch 114 0 6 #[41, 51, 61, 71, 83, 92, 104], [129, 56, 66, 76, 86, 98, 107, 119]) :: zX7_guest_56
def zX7_guest_0 : aC := (0, .aload_n 0, []) :: (1, .getfield 22, [7, 2, 2, 330]) :: (4, .iload_n 1, []) :: (5, .invokevirtual 160, [1, 87, 2, 1, 599, 600, 601, 67]) :: (8, .ifCond .ne 6, [14]) :: (11, .ldc 67, [0, -1000001, 369]) :: (13, .ireturn, []) :: zX7_guest_14
def zX8_guest_126 : aC := (126, .aload_n 0, []) :: (127, .getfield 22, [8, 8, 2, 933]) :: (130, .bipush 28, []) :: (132, .iload_n 1, []) :: (133, .iadd, []) :: (134, .iaload, []) :: (135, .ireturn, []) :: []
def zX8_guest_116 : aC := (116, .aload_n 0, []) :: (117, .getfield 22, [8, 8, 2, 933]) :: (120, .bipush 40, []) :: (122, .iload_n 1, []) :: (123, .iadd, []) :: (124, .iaload, []) :: (125, .ireturn, []) :: zX8_guest_126
def zX8_guest_106 : aC := (106, .aload_n 0, []) :: (107, .getfield 22, [8, 8, 2, 933]) :: (110, .bipush 36, []) :: (112, .iload_n 1, []) :: (113, .iadd, []) :: (114, .iaload, []) :: (115, .ireturn, []) :: zX8_guest_116
def zX8_guest_94 : aC := (94, .iconst 1, []) :: (95, .aload_n 0, []) :: (96, .getfield 22, [8, 8, 2, 933]) :: (99, .bipush 32, []) :: (101, .iload_n 1, []) :: (102, .iadd, []) :: (103, .iaload, []) :: (104, .isub, []) :: (105, .ireturn, []) :: zX8_guest_106
def zX8_guest_84 : aC := (84, .aload_n 0, []) :: (85, .getfield 22, [8, 8, 2, 933]) :: (88, .bipush 20, []) :: (90, .iload_n 1, []) :: (91, .iadd, []) :: (92, .iaload, []) :: (93, .ireturn, []) :: zX8_guest_94
def zX8_guest_74 : aC := (74, .aload_n 0, []) :: (75, .getfield 22, [8, 8, 2, 933]) :: (78, .bipush 24, []) :: (80, .iload_n 1, []) :: (81, .iadd, []) :: (82, .iaload, []) :: (83, .ireturn, []) :: zX8_guest_84
def zX8_guest_64 : aC := (64, .aload_n 0, []) :: (65, .getfield 22, [8, 8, 2, 933]) :: (68, .bipush 16, []) :: (70, .iload_n 1, []) :: (71, .iadd, []) :: (72, .iaload, []) :: (73, .ireturn, []) :: zX8_guest_74
def zX8_guest_23 : aC := (23, .iload_n 2, []) :: (24, .tableswitch 102 0 5 #[40, 50, 60, 70, 82, 92], [126, 64, 74, 84, 94, 106, 116]) :: zX8_guest_64
def zX8_guest_20 : aC := (20, .ldc 67, [0, -1000001, 1014]) :: (22, .ireturn, []) :: zX8_guest_23
def zX8_guest_0 : aC := (0, .aload_n 0, []) :: (1, .iload_n 1, []) :: (2, .invokevirtual 218, [1, 89, 2, 8, 1123, 1125, 46, 74]) :: (5, .ifCond .eq 15, [20]) :: (8, .iload_n 2, []) :: (9, .i2l, []) :: (10, .lconst 0, []) :: (11, .ldc2_w 231, [0, 6, 1185]) :: (14, .invokestatic 57, [2, 15, 3, 0, 1010, 1011, 0, 74]) :: (17, .ifCond .ne 6, [23]) :: zX8_guest_20
def zX7_price_33 : aC := (33, .ireturn, []) :: []
def zX7_price_31 : aC := (31, .ldc 67, [0, -1000001, 369]) :: zX7_price_33
def zX7_price_13 : aC := (13, .iload_n 1, []) :: (14, .invokestatic 169, [2, 91, 1, 0, 609, 610, 0, 66]) :: (17, .ifCond .eq 14, [31]) :: (20, .aload_n 0, []) :: (21, .getfield 22, [7, 2, 2, 330]) :: (24, .iload_n 1, []) :: (25, .invokevirtual 157, [1, 82, 2, 1, 585, 586, 587, 67]) :: (28, .goto 5, [33]) :: zX7_price_31
def zX7_price_0 : aC := (0, .aload_n 0, []) :: (1, .getfield 22, [7, 2, 2, 330]) :: (4, .getfield 143, [1, 7, 3, 125]) :: (7, .ifCond .ne 6, [13]) :: (10, .ldc 147, [0, -1000002, 576]) :: (12, .ireturn, []) :: zX7_price_13
def zX8_price_34 : aC := (34, .ireturn, []) :: []
def zX8_price_32 : aC := (32, .ldc 67, [0, -1000001, 1014]) :: zX8_price_34
def zX8_price_12 : aC := (12, .iload_n 1, []) :: (13, .i2l, []) :: (14, .lconst 0, []) :: (15, .ldc2_w 221, [0, 5, 1131]) :: (18, .invokestatic 57, [2, 15, 3, 0, 1010, 1011, 0, 74]) :: (21, .ifCond .eq 11, [32]) :: (24, .aload_n 0, []) :: (25, .iload_n 1, []) :: (26, .invokevirtual 178, [1, 85, 2, 8, 1115, 1117, 45, 74]) :: (29, .goto 5, [34]) :: zX8_price_32
def zX8_price_0 : aC := (0, .aload_n 0, []) :: (1, .getfield 167, [8, 7, 3, 932]) :: (4, .ifCond .ne 8, [12]) :: (7, .ldc 214, [0, -1000002, 1110]) :: (9, .goto 25, [34]) :: zX8_price_12
def zX7_look_117 : aC := (117, .aload_n 0, []) :: (118, .iconst 0, []) :: (119, .invokevirtual 76, [1, 13, 2, 7, 379, 381, 1, 66]) :: (122, .ireturn, []) :: []
def zX7_look_111 : aC := (111, .iinc 5 1, []) :: (114, .goto (-41), [73]) :: zX7_look_117
def zX7_look_108 : aC := (108, .ldc 67, [0, -1000001, 369]) :: (110, .ireturn, []) :: zX7_look_111
def zX7_look_73 : aC := (73, .iload 5, []) :: (75, .aload_n 0, []) :: (76, .getfield 22, [7, 2, 2, 330]) :: (79, .getfield 137, [1, 10, 0, 135]) :: (82, .if_icmp .ge 35, [117]) :: (85, .aload 4, []) :: (87, .getfield 95, [5, 0, 2, 316]) :: (90, .iload 5, []) :: (92, .iaload, []) :: (93, .ifCond .lt 15, [108]) :: (96, .aload 4, []) :: (98, .getfield 95, [5, 0, 2, 316]) :: (101, .iload 5, []) :: (103, .iaload, []) :: (104, .iload_n 3, []) :: (105, .if_icmp .le 6, [111]) :: zX7_look_108
def zX7_look_70 : aC := (70, .iconst 0, []) :: (71, .istore 5, []) :: zX7_look_73
def zX7_look_49 : aC := (49, .aload 4, []) :: (51, .getfield 105, [5, 2, 0, 320]) :: (54, .aload_n 0, []) :: (55, .getfield 22, [7, 2, 2, 330]) :: (58, .getfield 137, [1, 10, 0, 135]) :: (61, .if_icmp .ge 9, [70]) :: (64, .aload_n 0, []) :: (65, .iconst 2, []) :: (66, .invokevirtual 68, [1, 11, 2, 7, 370, 372, 0, 66]) :: (69, .ireturn, []) :: zX7_look_70
def zX7_look_27 : aC := (27, .aload_n 0, []) :: (28, .getfield 11, [7, 0, 2, 328]) :: (31, .iload_n 1, []) :: (32, .aaload, []) :: (33, .astore 4, []) :: (35, .aload 4, []) :: (37, .invokevirtual 79, [1, 20, 1, 5, 387, 388, 389, 73]) :: (40, .ifCond .eq 9, [49]) :: (43, .aload_n 0, []) :: (44, .iconst 1, []) :: (45, .invokevirtual 68, [1, 11, 2, 7, 370, 372, 0, 66]) :: (48, .ireturn, []) :: zX7_look_49
def zX7_look_24 : aC := (24, .ldc 67, [0, -1000001, 369]) :: (26, .ireturn, []) :: zX7_look_27
def zX7_look_13 : aC := (13, .iload_n 2, []) :: (14, .ifCond .eq 10, [24]) :: (17, .iload_n 1, []) :: (18, .invokestatic 63, [2, 10, 1, 0, 363, 364, 0, 66]) :: (21, .ifCond .ne 6, [27]) :: zX7_look_24
def zX7_look_0 : aC := (0, .aload_n 0, []) :: (1, .getfield 22, [7, 2, 2, 330]) :: (4, .getfield 143, [1, 7, 3, 125]) :: (7, .ifCond .ne 6, [13]) :: (10, .ldc 147, [0, -1000002, 576]) :: (12, .ireturn, []) :: zX7_look_13
def zX7_hear_52 : aC := (52, .iload_n 3, []) :: (53, .ireturn, []) :: []
def zX7_hear_0 : aC := (0, .aload_n 0, []) :: (1, .iload_n 1, []) :: (2, .iload_n 2, []) :: (3, .bipush 6, []) :: (5, .invokevirtual 272, [1, 128, 4, 7, 706, 708, 22, 66]) :: (8, .istore_n 3, []) :: (9, .iload_n 3, []) :: (10, .ifCond .ne 42, [52]) :: (13, .aload_n 0, []) :: (14, .getfield 54, [7, 7, 2, 335]) :: (17, .aload_n 0, []) :: (18, .getfield 22, [7, 2, 2, 330]) :: (21, .invokevirtual 198, [1, 100, 2, 2, 625, 626, 627, 71]) :: (24, .aload_n 0, []) :: (25, .getfield 11, [7, 0, 2, 328]) :: (28, .iload_n 1, []) :: (29, .aaload, []) :: (30, .getfield 95, [5, 0, 2, 316]) :: (33, .iconst 0, []) :: (34, .aload_n 0, []) :: (35, .getfield 54, [7, 7, 2, 335]) :: (38, .getfield 247, [2, 5, 2, 253]) :: (41, .iconst 0, []) :: (42, .aload_n 0, []) :: (43, .getfield 54, [7, 7, 2, 335]) :: (46, .getfield 324, [2, 6, 0, 256]) :: (49, .invokestatic 99, [9, 403, 405, 404, 75]) :: zX7_hear_52
def zX2_joyIn_40 : aC := (40, .aload_n 0, []) :: (41, .getfield 24, [2, 4, 2, 250]) :: (44, .iload_n 1, []) :: (45, .bipush 6, []) :: (47, .imul, []) :: (48, .iload_n 2, []) :: (49, .iadd, []) :: (50, .iaload, []) :: (51, .iload_n 3, []) :: (52, .aload_n 0, []) :: (53, .getfield 21, [2, 3, 2, 249]) :: (56, .iload_n 1, []) :: (57, .iaload, []) :: (58, .imul, []) :: (59, .iadd, []) :: (60, .ireturn, []) :: []
def zX2_joyIn_34 : aC := (34, .iinc 4 1, []) :: (37, .goto (-32), [5]) :: zX2_joyIn_40
def zX2_joyIn_5 : aC := (5, .iload 4, []) :: (7, .aload_n 0, []) :: (8, .getfield 36, [2, 6, 0, 254]) :: (11, .if_icmp .ge 29, [40]) :: (14, .iload 4, []) :: (16, .iload_n 1, []) :: (17, .if_icmp .eq 17, [34]) :: (20, .aload_n 0, []) :: (21, .getfield 27, [2, 5, 2, 251]) :: (24, .iload 4, []) :: (26, .iaload, []) :: (27, .iload_n 2, []) :: (28, .if_icmp .le 6, [34]) :: (31, .iinc 3 1, []) :: zX2_joyIn_34
def zX2_joyIn_0 : aC := (0, .iconst 0, []) :: (1, .istore_n 3, []) :: (2, .iconst 0, []) :: (3, .istore 4, []) :: zX2_joyIn_5
def zX2_worthOf_29 : aC := (29, .iload_n 2, []) :: (30, .aload_n 0, []) :: (31, .iload_n 1, []) :: (32, .invokevirtual 68, [1, 107, 2, 2, 718, 640, 641, 71]) :: (35, .isub, []) :: (36, .ireturn, []) :: []
def zX2_worthOf_4 : aC := (4, .iload_n 3, []) :: (5, .aload_n 0, []) :: (6, .getfield 27, [2, 5, 2, 251]) :: (9, .iload_n 1, []) :: (10, .iaload, []) :: (11, .if_icmp .ge 18, [29]) :: (14, .iload_n 2, []) :: (15, .aload_n 0, []) :: (16, .iload_n 1, []) :: (17, .iload_n 3, []) :: (18, .invokevirtual 65, [1, 130, 3, 2, 714, 715, 716, 71]) :: (21, .iadd, []) :: (22, .istore_n 2, []) :: (23, .iinc 3 1, []) :: (26, .goto (-22), [4]) :: zX2_worthOf_29
def zX2_worthOf_0 : aC := (0, .iconst 0, []) :: (1, .istore_n 2, []) :: (2, .iconst 0, []) :: (3, .istore_n 3, []) :: zX2_worthOf_4
def zX7_worth_86 : aC := (86, .aload_n 0, []) :: (87, .getfield 54, [7, 7, 2, 335]) :: (90, .iload_n 2, []) :: (91, .invokevirtual 238, [1, 106, 2, 2, 719, 644, 645, 71]) :: (94, .ireturn, []) :: []
def zX7_worth_77 : aC := (77, .aload_n 0, []) :: (78, .getfield 54, [7, 7, 2, 335]) :: (81, .iload_n 2, []) :: (82, .invokevirtual 203, [1, 107, 2, 2, 639, 640, 641, 71]) :: (85, .ireturn, []) :: zX7_worth_86
def zX7_worth_68 : aC := (68, .aload_n 0, []) :: (69, .getfield 54, [7, 7, 2, 335]) :: (72, .iload_n 2, []) :: (73, .invokevirtual 235, [1, 131, 2, 2, 710, 711, 712, 71]) :: (76, .ireturn, []) :: zX7_worth_77
def zX7_worth_39 : aC := (39, .iload_n 3, []) :: (40, .lookupswitch 46 #[(0, 28), (1, 37)], [86, 0, 68, 1, 77]) :: zX7_worth_68
def zX7_worth_26 : aC := (26, .invokevirtual 231, [1, 129, 3, 7, 702, 704, 21, 66]) :: (29, .istore 4, []) :: (31, .iload 4, []) :: (33, .ifCond .eq 6, [39]) :: (36, .iload 4, []) :: (38, .ireturn, []) :: zX7_worth_39
def zX7_worth_25 : aC := (25, .iconst 0, []) :: zX7_worth_26
def zX7_worth_0 : aC := (0, .aload_n 0, []) :: (1, .iload_n 1, []) :: (2, .aload_n 0, []) :: (3, .getfield 22, [7, 2, 2, 330]) :: (6, .iload_n 2, []) :: (7, .invokevirtual 160, [1, 87, 2, 1, 599, 600, 601, 67]) :: (10, .ifCond .eq 15, [25]) :: (13, .iload_n 3, []) :: (14, .iconst 3, []) :: (15, .invokestatic 175, [2, 9, 2, 0, 366, 367, 0, 66]) :: (18, .ifCond .eq 7, [25]) :: (21, .iconst 1, []) :: (22, .goto 4, [26]) :: zX7_worth_25
def zX8_tells_124 : aC := (124, .aload_n 0, []) :: (125, .iconst 0, []) :: (126, .putfield 50, [8, 3, 0, 928]) :: (129, .aload_n 0, []) :: (130, .invokevirtual 225, [1, 112, 1, 8, 1145, 1147, 47, 74]) :: (133, .iconst 0, []) :: (134, .ireturn, []) :: []
def zX8_tells_99 : aC := (99, .aload_n 0, []) :: (100, .getfield 41, [8, 21, 2, 946]) :: (103, .iload 4, []) :: (105, .aload_n 0, []) :: (106, .getfield 16, [8, 2, 2, 927]) :: (109, .bipush 40, []) :: (111, .iload_n 1, []) :: (112, .imul, []) :: (113, .iload 4, []) :: (115, .iadd, []) :: (116, .iaload, []) :: (117, .iastore, []) :: (118, .iinc 4 1, []) :: (121, .goto (-58), [63]) :: zX8_tells_124
def zX8_tells_63 : aC := (63, .iload 4, []) :: (65, .aload_n 0, []) :: (66, .getfield 22, [8, 8, 2, 933]) :: (69, .iconst 2, []) :: (70, .iaload, []) :: (71, .if_icmp .ge 53, [124]) :: (74, .aload_n 0, []) :: (75, .getfield 16, [8, 2, 2, 927]) :: (78, .bipush 40, []) :: (80, .iload_n 1, []) :: (81, .imul, []) :: (82, .iload 4, []) :: (84, .iadd, []) :: (85, .iaload, []) :: (86, .i2l, []) :: (87, .lconst 0, []) :: (88, .iload_n 3, []) :: (89, .i2l, []) :: (90, .invokestatic 57, [2, 15, 3, 0, 1010, 1011, 0, 74]) :: (93, .ifCond .ne 6, [99]) :: (96, .ldc 67, [0, -1000001, 1014]) :: (98, .ireturn, []) :: zX8_tells_99
def zX8_tells_60 : aC := (60, .iconst 0, []) :: (61, .istore 4, []) :: zX8_tells_63
def zX8_tells_39 : aC := (39, .aload_n 0, []) :: (40, .getfield 13, [8, 1, 2, 926]) :: (43, .iload_n 1, []) :: (44, .iaload, []) :: (45, .aload_n 0, []) :: (46, .getfield 22, [8, 8, 2, 933]) :: (49, .iconst 2, []) :: (50, .iaload, []) :: (51, .if_icmp .ge 9, [60]) :: (54, .aload_n 0, []) :: (55, .iconst 2, []) :: (56, .invokevirtual 68, [1, 17, 2, 8, 1015, 1017, 34, 74]) :: (59, .ireturn, []) :: zX8_tells_60
def zX8_tells_24 : aC := (24, .aload_n 0, []) :: (25, .getfield 13, [8, 1, 2, 926]) :: (28, .iload_n 1, []) :: (29, .iaload, []) :: (30, .ifCond .ge 9, [39]) :: (33, .aload_n 0, []) :: (34, .iconst 1, []) :: (35, .invokevirtual 68, [1, 17, 2, 8, 1015, 1017, 34, 74]) :: (38, .ireturn, []) :: zX8_tells_39
def zX8_tells_21 : aC := (21, .ldc 67, [0, -1000001, 1014]) :: (23, .ireturn, []) :: zX8_tells_24
def zX8_tells_10 : aC := (10, .iload_n 1, []) :: (11, .invokestatic 61, [2, 16, 1, 0, 1006, 1007, 0, 74]) :: (14, .ifCond .eq 7, [21]) :: (17, .iload_n 2, []) :: (18, .ifCond .ne 6, [24]) :: zX8_tells_21
def zX8_tells_0 : aC := (0, .aload_n 0, []) :: (1, .getfield 167, [8, 7, 3, 932]) :: (4, .ifCond .ne 6, [10]) :: (7, .ldc 214, [0, -1000002, 1110]) :: (9, .ireturn, []) :: zX8_tells_10
def zX8_joyOf_162 : aC := (162, .ireturn, []) :: []
def zX8_joyOf_160 : aC := (160, .iload 5, []) :: zX8_joyOf_162
def zX8_joyOf_147 : aC := (147, .iload_n 3, []) :: (148, .iconst 4, []) :: (149, .if_icmp .lt 11, [160]) :: (152, .iload 5, []) :: (154, .iload 6, []) :: (156, .isub, []) :: (157, .goto 5, [162]) :: zX8_joyOf_160
def zX8_joyOf_134 : aC := (134, .iload_n 3, []) :: (135, .iconst 2, []) :: (136, .if_icmp .ne 11, [147]) :: (139, .iload 5, []) :: (141, .iload 6, []) :: (143, .iadd, []) :: (144, .goto 18, [162]) :: zX8_joyOf_147
def zX8_joyOf_133 : aC := (133, .ireturn, []) :: zX8_joyOf_134
def zX8_joyOf_131 : aC := (131, .iload 5, []) :: zX8_joyOf_133
def zX8_joyOf_114 : aC := (114, .iload_n 3, []) :: (115, .iconst 3, []) :: (116, .if_icmp .ne 18, [134]) :: (119, .iload_n 2, []) :: (120, .iconst 3, []) :: (121, .if_icmp .ge 10, [131]) :: (124, .iconst 2, []) :: (125, .iload 5, []) :: (127, .imul, []) :: (128, .goto 5, [133]) :: zX8_joyOf_131
def zX8_joyOf_105 : aC := (105, .iadd, []) :: (106, .istore 6, []) :: (108, .iinc 7 1, []) :: (111, .goto (-41), [70]) :: zX8_joyOf_114
def zX8_joyOf_104 : aC := (104, .iconst 0, []) :: zX8_joyOf_105
def zX8_joyOf_70 : aC := (70, .iload 7, []) :: (72, .aload_n 0, []) :: (73, .getfield 22, [8, 8, 2, 933]) :: (76, .iconst 2, []) :: (77, .iaload, []) :: (78, .if_icmp .ge 36, [114]) :: (81, .iload 6, []) :: (83, .iload 7, []) :: (85, .iload_n 1, []) :: (86, .if_icmp .eq 18, [104]) :: (89, .aload_n 0, []) :: (90, .getfield 41, [8, 21, 2, 946]) :: (93, .iload 7, []) :: (95, .iaload, []) :: (96, .iload_n 2, []) :: (97, .if_icmp .le 7, [104]) :: (100, .iconst 1, []) :: (101, .goto 4, [105]) :: zX8_joyOf_104
def zX8_joyOf_62 : aC := (62, .istore 5, []) :: (64, .iconst 0, []) :: (65, .istore 6, []) :: (67, .iconst 0, []) :: (68, .istore 7, []) :: zX8_joyOf_70
def zX8_joyOf_60 : aC := (60, .iload 4, []) :: zX8_joyOf_62
def zX8_joyOf_41 : aC := (41, .iload_n 2, []) :: (42, .aload_n 0, []) :: (43, .getfield 22, [8, 8, 2, 933]) :: (46, .bipush 20, []) :: (48, .iload_n 1, []) :: (49, .iadd, []) :: (50, .iaload, []) :: (51, .if_icmp .lt 9, [60]) :: (54, .iload 4, []) :: (56, .ineg, []) :: (57, .goto 5, [62]) :: zX8_joyOf_60
def zX8_joyOf_0 : aC := (0, .aload_n 0, []) :: (1, .getfield 22, [8, 8, 2, 933]) :: (4, .bipush 12, []) :: (6, .iload_n 1, []) :: (7, .iadd, []) :: (8, .iaload, []) :: (9, .istore_n 3, []) :: (10, .aload_n 0, []) :: (11, .getfield 22, [8, 8, 2, 933]) :: (14, .bipush 16, []) :: (16, .iload_n 1, []) :: (17, .iadd, []) :: (18, .iaload, []) :: (19, .istore 4, []) :: (21, .aload_n 0, []) :: (22, .getfield 22, [8, 8, 2, 933]) :: (25, .bipush 40, []) :: (27, .iload_n 1, []) :: (28, .iadd, []) :: (29, .iaload, []) :: (30, .iconst 1, []) :: (31, .if_icmp .ne 10, [41]) :: (34, .iload 4, []) :: (36, .iconst 2, []) :: (37, .idiv, []) :: (38, .goto 24, [62]) :: zX8_joyOf_41
def zX8_worthOf_38 : aC := (38, .iload_n 2, []) :: (39, .ireturn, []) :: []
def zX8_worthOf_13 : aC := (13, .iload_n 3, []) :: (14, .aload_n 0, []) :: (15, .getfield 41, [8, 21, 2, 946]) :: (18, .iload_n 1, []) :: (19, .iaload, []) :: (20, .if_icmp .ge 18, [38]) :: (23, .iload_n 2, []) :: (24, .aload_n 0, []) :: (25, .iload_n 1, []) :: (26, .iload_n 3, []) :: (27, .invokevirtual 204, [1, 134, 3, 8, 1202, 1204, 56, 74]) :: (30, .iadd, []) :: (31, .istore_n 2, []) :: (32, .iinc 3 1, []) :: (35, .goto (-22), [13]) :: zX8_worthOf_38
def zX8_worthOf_0 : aC := (0, .aload_n 0, []) :: (1, .invokevirtual 198, [1, 117, 1, 8, 1149, 1151, 48, 74]) :: (4, .aload_n 0, []) :: (5, .iload_n 1, []) :: (6, .invokevirtual 201, [1, 118, 2, 8, 1170, 1172, 53, 74]) :: (9, .ineg, []) :: (10, .istore_n 2, []) :: (11, .iconst 0, []) :: (12, .istore_n 3, []) :: zX8_worthOf_13
def zX8_worth_77 : aC := (77, .ireturn, []) :: []
def zX8_worth_71 : aC := (71, .aload_n 0, []) :: (72, .getfield 47, [8, 24, 2, 949]) :: (75, .iload_n 2, []) :: (76, .iaload, []) :: zX8_worth_77
def zX8_worth_58 : aC := (58, .iload_n 3, []) :: (59, .iconst 1, []) :: (60, .if_icmp .ne 11, [71]) :: (63, .aload_n 0, []) :: (64, .iload_n 2, []) :: (65, .invokevirtual 201, [1, 118, 2, 8, 1170, 1172, 53, 74]) :: (68, .goto 9, [77]) :: zX8_worth_71
def zX8_worth_42 : aC := (42, .aload_n 0, []) :: (43, .iload_n 2, []) :: (44, .invokevirtual 208, [1, 135, 2, 8, 1198, 1200, 55, 74]) :: (47, .istore 5, []) :: (49, .iload_n 3, []) :: (50, .ifCond .ne 8, [58]) :: (53, .iload 5, []) :: (55, .goto 22, [77]) :: zX8_worth_58
def zX8_worth_27 : aC := (27, .bipush 6, []) :: (29, .invokevirtual 233, [1, 133, 4, 8, 1194, 1196, 54, 74]) :: (32, .istore 4, []) :: (34, .iload 4, []) :: (36, .ifCond .ge 6, [42]) :: (39, .iload 4, []) :: (41, .ireturn, []) :: zX8_worth_42
def zX8_worth_26 : aC := (26, .iconst 0, []) :: zX8_worth_27
def zX8_worth_0 : aC := (0, .aload_n 0, []) :: (1, .iload_n 1, []) :: (2, .aload_n 0, []) :: (3, .iload_n 2, []) :: (4, .invokevirtual 218, [1, 89, 2, 8, 1123, 1125, 46, 74]) :: (7, .ifCond .eq 19, [26]) :: (10, .iload_n 3, []) :: (11, .i2l, []) :: (12, .lconst 0, []) :: (13, .ldc2_w 65, [0, 2, 1013]) :: (16, .invokestatic 57, [2, 15, 3, 0, 1010, 1011, 0, 74]) :: (19, .ifCond .eq 7, [26]) :: (22, .iconst 1, []) :: (23, .goto 4, [27]) :: zX8_worth_26
def zX3_bestOf_122 : aC := (122, .aload_n 0, []) :: (123, .getfield 12, [3, 0, 2, 276]) :: (126, .getfield 28, [2, 5, 2, 252]) :: (129, .iload_n 1, []) :: (130, .iload_n 2, []) :: (131, .iastore, []) :: (132, .iload_n 3, []) :: (133, .ireturn, []) :: []
def zX3_bestOf_113 : aC := (113, .iadd, []) :: (114, .istore 4, []) :: (116, .iinc 5 1, []) :: (119, .goto (-101), [18]) :: zX3_bestOf_122
def zX3_bestOf_112 : aC := (112, .iconst 0, []) :: zX3_bestOf_113
def zX3_bestOf_89 : aC := (89, .istore_n 3, []) :: (90, .iload 4, []) :: (92, .iload 5, []) :: (94, .bipush 6, []) :: (96, .if_icmp .ge 16, [112]) :: (99, .aload_n 0, []) :: (100, .getfield 12, [3, 0, 2, 276]) :: (103, .iload_n 1, []) :: (104, .iload 5, []) :: (106, .invokevirtual 38, [1, 130, 3, 2, 729, 715, 716, 71]) :: (109, .goto 4, [113]) :: zX3_bestOf_112
def zX3_bestOf_88 : aC := (88, .iload_n 3, []) :: zX3_bestOf_89
def zX3_bestOf_18 : aC := (18, .iload 5, []) :: (20, .bipush 7, []) :: (22, .if_icmp .ge 100, [122]) :: (25, .aload_n 0, []) :: (26, .getfield 12, [3, 0, 2, 276]) :: (29, .getfield 28, [2, 5, 2, 252]) :: (32, .iload_n 1, []) :: (33, .iload 5, []) :: (35, .iastore, []) :: (36, .aload_n 0, []) :: (37, .getfield 18, [3, 1, 2, 278]) :: (40, .iload 5, []) :: (42, .iload 4, []) :: (44, .aload_n 0, []) :: (45, .getfield 12, [3, 0, 2, 276]) :: (48, .iload_n 1, []) :: (49, .invokevirtual 31, [1, 106, 2, 2, 728, 644, 645, 71]) :: (52, .isub, []) :: (53, .iload 5, []) :: (55, .aload_n 0, []) :: (56, .getfield 12, [3, 0, 2, 276]) :: (59, .getfield 35, [2, 2, 2, 248]) :: (62, .iload_n 1, []) :: (63, .iaload, []) :: (64, .imul, []) :: (65, .isub, []) :: (66, .iastore, []) :: (67, .aload_n 0, []) :: (68, .getfield 18, [3, 1, 2, 278]) :: (71, .iload 5, []) :: (73, .iaload, []) :: (74, .aload_n 0, []) :: (75, .getfield 18, [3, 1, 2, 278]) :: (78, .iload_n 3, []) :: (79, .iaload, []) :: (80, .if_icmp .le 8, [88]) :: (83, .iload 5, []) :: (85, .goto 4, [89]) :: zX3_bestOf_88
def zX3_bestOf_0 : aC := (0, .aload_n 0, []) :: (1, .getfield 12, [3, 0, 2, 276]) :: (4, .getfield 28, [2, 5, 2, 252]) :: (7, .iload_n 1, []) :: (8, .iaload, []) :: (9, .istore_n 2, []) :: (10, .iconst 0, []) :: (11, .istore_n 3, []) :: (12, .iconst 0, []) :: (13, .istore 4, []) :: (15, .iconst 0, []) :: (16, .istore 5, []) :: zX3_bestOf_18
def zX7_best_30 : aC := (30, .ireturn, []) :: []
def zX7_best_22 : aC := (22, .aload_n 0, []) :: (23, .getfield 46, [7, 6, 2, 334]) :: (26, .iload_n 2, []) :: (27, .invokevirtual 241, [1, 137, 2, 3, 724, 725, 726, 70]) :: zX7_best_30
def zX7_best_0 : aC := (0, .aload_n 0, []) :: (1, .iload_n 1, []) :: (2, .aload_n 0, []) :: (3, .getfield 22, [7, 2, 2, 330]) :: (6, .iload_n 2, []) :: (7, .invokevirtual 160, [1, 87, 2, 1, 599, 600, 601, 67]) :: (10, .invokevirtual 231, [1, 129, 3, 7, 702, 704, 21, 66]) :: (13, .istore_n 3, []) :: (14, .iload_n 3, []) :: (15, .ifCond .eq 7, [22]) :: (18, .iload_n 3, []) :: (19, .goto 11, [30]) :: zX7_best_22
def zX8_bestOf_62 : aC := (62, .aload_n 0, []) :: (63, .getfield 41, [8, 21, 2, 946]) :: (66, .iload_n 1, []) :: (67, .iload_n 2, []) :: (68, .iastore, []) :: (69, .iload_n 3, []) :: (70, .ireturn, []) :: []
def zX8_bestOf_56 : aC := (56, .iinc 5 1, []) :: (59, .goto (-44), [15]) :: zX8_bestOf_62
def zX8_bestOf_49 : aC := (49, .iload 5, []) :: (51, .istore_n 3, []) :: (52, .iload 6, []) :: (54, .istore 4, []) :: zX8_bestOf_56
def zX8_bestOf_15 : aC := (15, .iload 5, []) :: (17, .bipush 6, []) :: (19, .if_icmp .gt 43, [62]) :: (22, .aload_n 0, []) :: (23, .getfield 41, [8, 21, 2, 946]) :: (26, .iload_n 1, []) :: (27, .iload 5, []) :: (29, .iastore, []) :: (30, .aload_n 0, []) :: (31, .iload_n 1, []) :: (32, .invokevirtual 208, [1, 135, 2, 8, 1198, 1200, 55, 74]) :: (35, .istore 6, []) :: (37, .iload 5, []) :: (39, .ifCond .eq 10, [49]) :: (42, .iload 6, []) :: (44, .iload 4, []) :: (46, .if_icmp .le 10, [56]) :: zX8_bestOf_49
def zX8_bestOf_0 : aC := (0, .aload_n 0, []) :: (1, .getfield 41, [8, 21, 2, 946]) :: (4, .iload_n 1, []) :: (5, .iaload, []) :: (6, .istore_n 2, []) :: (7, .iconst 0, []) :: (8, .istore_n 3, []) :: (9, .iconst 0, []) :: (10, .istore 4, []) :: (12, .iconst 0, []) :: (13, .istore 5, []) :: zX8_bestOf_15
def zX8_best_26 : aC := (26, .ireturn, []) :: []
def zX8_best_21 : aC := (21, .aload_n 0, []) :: (22, .iload_n 2, []) :: (23, .invokevirtual 211, [1, 139, 2, 8, 1210, 1212, 57, 74]) :: zX8_best_26
def zX8_best_0 : aC := (0, .aload_n 0, []) :: (1, .iload_n 1, []) :: (2, .aload_n 0, []) :: (3, .iload_n 2, []) :: (4, .invokevirtual 218, [1, 89, 2, 8, 1123, 1125, 46, 74]) :: (7, .bipush 6, []) :: (9, .invokevirtual 233, [1, 133, 4, 8, 1194, 1196, 54, 74]) :: (12, .istore_n 3, []) :: (13, .iload_n 3, []) :: (14, .ifCond .ge 7, [21]) :: (17, .iload_n 3, []) :: (18, .goto 8, [26]) :: zX8_best_21
def zX3_turns_83 : aC := (83, .ldc 53, [0, -1000000, 739]) :: (85, .ireturn, []) :: []
def zX3_turns_77 : aC := (77, .iinc 1 1, []) :: (80, .goto (-78), [2]) :: zX3_turns_83
def zX3_turns_71 : aC := (71, .iload_n 2, []) :: (72, .ifCond .eq 5, [77]) :: (75, .iload_n 1, []) :: (76, .ireturn, []) :: zX3_turns_77
def zX3_turns_53 : aC := (53, .istore_n 2, []) :: (54, .aload_n 0, []) :: (55, .getfield 12, [3, 0, 2, 276]) :: (58, .getfield 28, [2, 5, 2, 252]) :: (61, .iload_n 3, []) :: (62, .iload 4, []) :: (64, .iastore, []) :: (65, .iinc 3 1, []) :: (68, .goto (-56), [12]) :: zX3_turns_71
def zX3_turns_52 : aC := (52, .iconst 0, []) :: zX3_turns_53
def zX3_turns_12 : aC := (12, .iload_n 3, []) :: (13, .aload_n 0, []) :: (14, .getfield 12, [3, 0, 2, 276]) :: (17, .getfield 45, [2, 6, 0, 255]) :: (20, .if_icmp .ge 51, [71]) :: (23, .aload_n 0, []) :: (24, .iload_n 3, []) :: (25, .invokevirtual 42, [1, 137, 2, 3, 738, 725, 726, 70]) :: (28, .istore 4, []) :: (30, .iload_n 2, []) :: (31, .ifCond .eq 21, [52]) :: (34, .iload 4, []) :: (36, .aload_n 0, []) :: (37, .getfield 12, [3, 0, 2, 276]) :: (40, .getfield 28, [2, 5, 2, 252]) :: (43, .iload_n 3, []) :: (44, .iaload, []) :: (45, .if_icmp .ne 7, [52]) :: (48, .iconst 1, []) :: (49, .goto 4, [53]) :: zX3_turns_52
def zX3_turns_2 : aC := (2, .iload_n 1, []) :: (3, .bipush 20, []) :: (5, .if_icmp .gt 78, [83]) :: (8, .iconst 1, []) :: (9, .istore_n 2, []) :: (10, .iconst 0, []) :: (11, .istore_n 3, []) :: zX3_turns_12
def zX3_turns_0 : aC := (0, .iconst 1, []) :: (1, .istore_n 1, []) :: zX3_turns_2
def zX7_rounds_61 : aC := (61, .ireturn, []) :: []
def zX7_rounds_52 : aC := (52, .aload_n 0, []) :: (53, .getfield 54, [7, 7, 2, 335]) :: (56, .getfield 247, [2, 5, 2, 253]) :: (59, .iload_n 2, []) :: (60, .iaload, []) :: zX7_rounds_61
def zX7_rounds_33 : aC := (33, .aload_n 0, []) :: (34, .getfield 46, [7, 6, 2, 334]) :: (37, .invokevirtual 244, [1, 141, 1, 3, 734, 735, 736, 70]) :: (40, .istore 4, []) :: (42, .iload_n 2, []) :: (43, .iconst (-1), []) :: (44, .if_icmp .ne 8, [52]) :: (47, .iload 4, []) :: (49, .goto 12, [61]) :: zX7_rounds_52
def zX7_rounds_23 : aC := (23, .invokevirtual 231, [1, 129, 3, 7, 702, 704, 21, 66]) :: (26, .istore_n 3, []) :: (27, .iload_n 3, []) :: (28, .ifCond .eq 5, [33]) :: (31, .iload_n 3, []) :: (32, .ireturn, []) :: zX7_rounds_33
def zX7_rounds_22 : aC := (22, .iconst 0, []) :: zX7_rounds_23
def zX7_rounds_18 : aC := (18, .iconst 1, []) :: (19, .goto 4, [23]) :: zX7_rounds_22
def zX7_rounds_0 : aC := (0, .aload_n 0, []) :: (1, .iload_n 1, []) :: (2, .iload_n 2, []) :: (3, .iconst (-1), []) :: (4, .if_icmp .eq 14, [18]) :: (7, .aload_n 0, []) :: (8, .getfield 22, [7, 2, 2, 330]) :: (11, .iload_n 2, []) :: (12, .invokevirtual 160, [1, 87, 2, 1, 599, 600, 601, 67]) :: (15, .ifCond .eq 7, [22]) :: zX7_rounds_18
def zX8_turns_76 : aC := (76, .ldc 197, [0, -1000000, 1169]) :: (78, .ireturn, []) :: []
def zX8_turns_70 : aC := (70, .iinc 1 1, []) :: (73, .goto (-71), [2]) :: zX8_turns_76
def zX8_turns_64 : aC := (64, .iload_n 2, []) :: (65, .ifCond .ne 5, [70]) :: (68, .iload_n 1, []) :: (69, .ireturn, []) :: zX8_turns_70
def zX8_turns_49 : aC := (49, .istore_n 2, []) :: (50, .aload_n 0, []) :: (51, .getfield 41, [8, 21, 2, 946]) :: (54, .iload_n 3, []) :: (55, .iload 4, []) :: (57, .iastore, []) :: (58, .iinc 3 1, []) :: (61, .goto (-49), [12]) :: zX8_turns_64
def zX8_turns_48 : aC := (48, .iconst 0, []) :: zX8_turns_49
def zX8_turns_44 : aC := (44, .iconst 1, []) :: (45, .goto 4, [49]) :: zX8_turns_48
def zX8_turns_12 : aC := (12, .iload_n 3, []) :: (13, .aload_n 0, []) :: (14, .getfield 22, [8, 8, 2, 933]) :: (17, .iconst 2, []) :: (18, .iaload, []) :: (19, .if_icmp .ge 45, [64]) :: (22, .aload_n 0, []) :: (23, .iload_n 3, []) :: (24, .invokevirtual 211, [1, 139, 2, 8, 1210, 1212, 57, 74]) :: (27, .istore 4, []) :: (29, .iload_n 2, []) :: (30, .ifCond .ne 14, [44]) :: (33, .iload 4, []) :: (35, .aload_n 0, []) :: (36, .getfield 41, [8, 21, 2, 946]) :: (39, .iload_n 3, []) :: (40, .iaload, []) :: (41, .if_icmp .eq 7, [48]) :: zX8_turns_44
def zX8_turns_2 : aC := (2, .iload_n 1, []) :: (3, .bipush 20, []) :: (5, .if_icmp .gt 71, [76]) :: (8, .iconst 0, []) :: (9, .istore_n 2, []) :: (10, .iconst 0, []) :: (11, .istore_n 3, []) :: zX8_turns_12
def zX8_turns_0 : aC := (0, .iconst 1, []) :: (1, .istore_n 1, []) :: zX8_turns_2
def zX8_rounds_53 : aC := (53, .ireturn, []) :: []
def zX8_rounds_47 : aC := (47, .aload_n 0, []) :: (48, .getfield 41, [8, 21, 2, 946]) :: (51, .iload_n 2, []) :: (52, .iaload, []) :: zX8_rounds_53
def zX8_rounds_32 : aC := (32, .aload_n 0, []) :: (33, .invokevirtual 237, [1, 143, 1, 8, 1218, 1220, 58, 74]) :: (36, .istore 4, []) :: (38, .iload_n 2, []) :: (39, .ifCond .ge 8, [47]) :: (42, .iload 4, []) :: (44, .goto 9, [53]) :: zX8_rounds_47
def zX8_rounds_20 : aC := (20, .bipush 6, []) :: (22, .invokevirtual 233, [1, 133, 4, 8, 1194, 1196, 54, 74]) :: (25, .istore_n 3, []) :: (26, .iload_n 3, []) :: (27, .ifCond .ge 5, [32]) :: (30, .iload_n 3, []) :: (31, .ireturn, []) :: zX8_rounds_32
def zX8_rounds_19 : aC := (19, .iconst 0, []) :: zX8_rounds_20
def zX8_rounds_15 : aC := (15, .iconst 1, []) :: (16, .goto 4, [20]) :: zX8_rounds_19
def zX8_rounds_0 : aC := (0, .aload_n 0, []) :: (1, .iload_n 1, []) :: (2, .iload_n 2, []) :: (3, .iconst (-1), []) :: (4, .if_icmp .eq 11, [15]) :: (7, .aload_n 0, []) :: (8, .iload_n 2, []) :: (9, .invokevirtual 218, [1, 89, 2, 8, 1123, 1125, 46, 74]) :: (12, .ifCond .eq 7, [19]) :: zX8_rounds_15
def zX3_forgetCommon_21 : aC := (21, .return_, []) :: []
def zX3_forgetCommon_2 : aC := (2, .iload_n 1, []) :: (3, .iconst 4, []) :: (4, .if_icmp .ge 17, [21]) :: (7, .aload_n 0, []) :: (8, .getfield 25, [3, 3, 2, 280]) :: (11, .iload_n 1, []) :: (12, .ldc 53, [0, -1000000, 739]) :: (14, .iastore, []) :: (15, .iinc 1 1, []) :: (18, .goto (-16), [2]) :: zX3_forgetCommon_21
def zX3_forgetCommon_0 : aC := (0, .iconst 0, []) :: (1, .istore_n 1, []) :: zX3_forgetCommon_2
def zX3_countChoices_26 : aC := (26, .iload_n 1, []) :: (27, .ireturn, []) :: []
def zX3_countChoices_4 : aC := (4, .iload_n 2, []) :: (5, .aload_n 0, []) :: (6, .getfield 12, [3, 0, 2, 276]) :: (9, .getfield 45, [2, 6, 0, 255]) :: (12, .if_icmp .ge 14, [26]) :: (15, .iload_n 1, []) :: (16, .bipush 7, []) :: (18, .imul, []) :: (19, .istore_n 1, []) :: (20, .iinc 2 1, []) :: (23, .goto (-19), [4]) :: zX3_countChoices_26
def zX3_countChoices_0 : aC := (0, .iconst 1, []) :: (1, .istore_n 1, []) :: (2, .iconst 0, []) :: (3, .istore_n 2, []) :: zX3_countChoices_4
def zX3_choose_40 : aC := (40, .return_, []) :: []
def zX3_choose_12 : aC := (12, .iload_n 3, []) :: (13, .ifCond .lt 27, [40]) :: (16, .aload_n 0, []) :: (17, .getfield 12, [3, 0, 2, 276]) :: (20, .getfield 28, [2, 5, 2, 252]) :: (23, .iload_n 3, []) :: (24, .iload_n 2, []) :: (25, .bipush 7, []) :: (27, .irem, []) :: (28, .iastore, []) :: (29, .iload_n 2, []) :: (30, .bipush 7, []) :: (32, .idiv, []) :: (33, .istore_n 2, []) :: (34, .iinc 3 (-1), []) :: (37, .goto (-25), [12]) :: zX3_choose_40
def zX3_choose_0 : aC := (0, .iload_n 1, []) :: (1, .istore_n 2, []) :: (2, .aload_n 0, []) :: (3, .getfield 12, [3, 0, 2, 276]) :: (6, .getfield 45, [2, 6, 0, 255]) :: (9, .iconst 1, []) :: (10, .isub, []) :: (11, .istore_n 3, []) :: zX3_choose_12
def zX3_isContent_34 : aC := (34, .ireturn, []) :: []
def zX3_isContent_33 : aC := (33, .iconst 0, []) :: zX3_isContent_34
def zX3_isContent_0 : aC := (0, .aload_n 0, []) :: (1, .iload_n 1, []) :: (2, .invokevirtual 42, [1, 137, 2, 3, 738, 725, 726, 70]) :: (5, .istore_n 2, []) :: (6, .aload_n 0, []) :: (7, .getfield 18, [3, 1, 2, 278]) :: (10, .aload_n 0, []) :: (11, .getfield 12, [3, 0, 2, 276]) :: (14, .getfield 28, [2, 5, 2, 252]) :: (17, .iload_n 1, []) :: (18, .iaload, []) :: (19, .iaload, []) :: (20, .aload_n 0, []) :: (21, .getfield 18, [3, 1, 2, 278]) :: (24, .iload_n 2, []) :: (25, .iaload, []) :: (26, .if_icmp .ne 7, [33]) :: (29, .iconst 1, []) :: (30, .goto 4, [34]) :: zX3_isContent_33
def zX3_isRest_29 : aC := (29, .iconst 1, []) :: (30, .ireturn, []) :: []
def zX3_isRest_23 : aC := (23, .iinc 1 1, []) :: (26, .goto (-24), [2]) :: zX3_isRest_29
def zX3_isRest_2 : aC := (2, .iload_n 1, []) :: (3, .aload_n 0, []) :: (4, .getfield 12, [3, 0, 2, 276]) :: (7, .getfield 45, [2, 6, 0, 255]) :: (10, .if_icmp .ge 19, [29]) :: (13, .aload_n 0, []) :: (14, .iload_n 1, []) :: (15, .invokevirtual 49, [1, 148, 2, 3, 764, 765, 766, 70]) :: (18, .ifCond .ne 5, [23]) :: (21, .iconst 0, []) :: (22, .ireturn, []) :: zX3_isRest_23
def zX3_isRest_0 : aC := (0, .iconst 0, []) :: (1, .istore_n 1, []) :: zX3_isRest_2
def zX3_countRests_66 : aC := (66, .iload_n 1, []) :: (67, .ireturn, []) :: []
def zX3_countRests_60 : aC := (60, .iinc 3 1, []) :: (63, .goto (-50), [13]) :: zX3_countRests_66
def zX3_countRests_57 : aC := (57, .iinc 1 1, []) :: zX3_countRests_60
def zX3_countRests_13 : aC := (13, .iload_n 3, []) :: (14, .iload_n 2, []) :: (15, .if_icmp .ge 51, [66]) :: (18, .aload_n 0, []) :: (19, .iload_n 3, []) :: (20, .invokevirtual 61, [1, 147, 2, 3, 756, 758, 25, 70]) :: (23, .aload_n 0, []) :: (24, .invokevirtual 65, [1, 149, 1, 3, 760, 762, 26, 70]) :: (27, .ifCond .eq 33, [60]) :: (30, .iload_n 1, []) :: (31, .ifCond .ne 26, [57]) :: (34, .aload_n 0, []) :: (35, .getfield 12, [3, 0, 2, 276]) :: (38, .getfield 28, [2, 5, 2, 252]) :: (41, .iconst 0, []) :: (42, .aload_n 0, []) :: (43, .getfield 25, [3, 3, 2, 280]) :: (46, .iconst 0, []) :: (47, .aload_n 0, []) :: (48, .getfield 12, [3, 0, 2, 276]) :: (51, .getfield 45, [2, 6, 0, 255]) :: (54, .invokestatic 69, [9, 768, 405, 404, 75]) :: zX3_countRests_57
def zX3_countRests_0 : aC := (0, .aload_n 0, []) :: (1, .invokevirtual 54, [1, 145, 1, 3, 748, 750, 23, 70]) :: (4, .iconst 0, []) :: (5, .istore_n 1, []) :: (6, .aload_n 0, []) :: (7, .invokevirtual 57, [1, 146, 1, 3, 752, 754, 24, 70]) :: (10, .istore_n 2, []) :: (11, .iconst 0, []) :: (12, .istore_n 3, []) :: zX3_countRests_13
def zX7_rests_69 : aC := (69, .ireturn, []) :: []
def zX7_rests_60 : aC := (60, .aload_n 0, []) :: (61, .getfield 46, [7, 6, 2, 334]) :: (64, .getfield 251, [3, 3, 2, 281]) :: (67, .iload_n 1, []) :: (68, .iaload, []) :: zX7_rests_69
def zX7_rests_32 : aC := (32, .aload_n 0, []) :: (33, .getfield 54, [7, 7, 2, 335]) :: (36, .aload_n 0, []) :: (37, .getfield 22, [7, 2, 2, 330]) :: (40, .invokevirtual 198, [1, 100, 2, 2, 625, 626, 627, 71]) :: (43, .aload_n 0, []) :: (44, .getfield 46, [7, 6, 2, 334]) :: (47, .invokevirtual 248, [1, 150, 1, 3, 744, 745, 746, 70]) :: (50, .istore_n 2, []) :: (51, .iload_n 1, []) :: (52, .iconst (-1), []) :: (53, .if_icmp .ne 7, [60]) :: (56, .iload_n 2, []) :: (57, .goto 12, [69]) :: zX7_rests_60
def zX7_rests_13 : aC := (13, .iload_n 1, []) :: (14, .iconst (-1), []) :: (15, .if_icmp .eq 17, [32]) :: (18, .aload_n 0, []) :: (19, .getfield 22, [7, 2, 2, 330]) :: (22, .iload_n 1, []) :: (23, .invokevirtual 160, [1, 87, 2, 1, 599, 600, 601, 67]) :: (26, .ifCond .ne 6, [32]) :: (29, .ldc 67, [0, -1000001, 369]) :: (31, .ireturn, []) :: zX7_rests_32
def zX7_rests_0 : aC := (0, .aload_n 0, []) :: (1, .getfield 22, [7, 2, 2, 330]) :: (4, .getfield 143, [1, 7, 3, 125]) :: (7, .ifCond .ne 6, [13]) :: (10, .ldc 147, [0, -1000002, 576]) :: (12, .ireturn, []) :: zX7_rests_13
def zX8_rows_25 : aC := (25, .iload_n 1, []) :: (26, .ireturn, []) :: []
def zX8_rows_4 : aC := (4, .iload_n 2, []) :: (5, .aload_n 0, []) :: (6, .getfield 22, [8, 8, 2, 933]) :: (9, .iconst 2, []) :: (10, .iaload, []) :: (11, .if_icmp .ge 14, [25]) :: (14, .iload_n 1, []) :: (15, .bipush 7, []) :: (17, .imul, []) :: (18, .istore_n 1, []) :: (19, .iinc 2 1, []) :: (22, .goto (-18), [4]) :: zX8_rows_25
def zX8_rows_0 : aC := (0, .iconst 1, []) :: (1, .istore_n 1, []) :: (2, .iconst 0, []) :: (3, .istore_n 2, []) :: zX8_rows_4
def zX8_tellBy_36 : aC := (36, .return_, []) :: []
def zX8_tellBy_11 : aC := (11, .iload_n 3, []) :: (12, .ifCond .lt 24, [36]) :: (15, .aload_n 0, []) :: (16, .getfield 41, [8, 21, 2, 946]) :: (19, .iload_n 3, []) :: (20, .iload_n 2, []) :: (21, .bipush 7, []) :: (23, .irem, []) :: (24, .iastore, []) :: (25, .iload_n 2, []) :: (26, .bipush 7, []) :: (28, .idiv, []) :: (29, .istore_n 2, []) :: (30, .iinc 3 (-1), []) :: (33, .goto (-22), [11]) :: zX8_tellBy_36
def zX8_tellBy_0 : aC := (0, .iload_n 1, []) :: (1, .istore_n 2, []) :: (2, .aload_n 0, []) :: (3, .getfield 22, [8, 8, 2, 933]) :: (6, .iconst 2, []) :: (7, .iaload, []) :: (8, .iconst 1, []) :: (9, .isub, []) :: (10, .istore_n 3, []) :: zX8_tellBy_11
def zX8_isRest_89 : aC := (89, .iload_n 1, []) :: (90, .ireturn, []) :: []
def zX8_isRest_76 : aC := (76, .aload_n 0, []) :: (77, .getfield 41, [8, 21, 2, 946]) :: (80, .iload_n 2, []) :: (81, .iload_n 3, []) :: (82, .iastore, []) :: (83, .iinc 2 1, []) :: (86, .goto (-82), [4]) :: zX8_isRest_89
def zX8_isRest_69 : aC := (69, .istore_n 1, []) :: (70, .iinc 5 1, []) :: (73, .goto (-38), [35]) :: zX8_isRest_76
def zX8_isRest_68 : aC := (68, .iconst 0, []) :: zX8_isRest_69
def zX8_isRest_35 : aC := (35, .iload 5, []) :: (37, .bipush 6, []) :: (39, .if_icmp .gt 37, [76]) :: (42, .aload_n 0, []) :: (43, .getfield 41, [8, 21, 2, 946]) :: (46, .iload_n 2, []) :: (47, .iload 5, []) :: (49, .iastore, []) :: (50, .iload_n 1, []) :: (51, .ifCond .eq 17, [68]) :: (54, .aload_n 0, []) :: (55, .iload_n 2, []) :: (56, .invokevirtual 208, [1, 135, 2, 8, 1198, 1200, 55, 74]) :: (59, .iload 4, []) :: (61, .if_icmp .gt 7, [68]) :: (64, .iconst 1, []) :: (65, .goto 4, [69]) :: zX8_isRest_68
def zX8_isRest_4 : aC := (4, .iload_n 2, []) :: (5, .aload_n 0, []) :: (6, .getfield 22, [8, 8, 2, 933]) :: (9, .iconst 2, []) :: (10, .iaload, []) :: (11, .if_icmp .ge 78, [89]) :: (14, .iload_n 1, []) :: (15, .ifCond .eq 74, [89]) :: (18, .aload_n 0, []) :: (19, .getfield 41, [8, 21, 2, 946]) :: (22, .iload_n 2, []) :: (23, .iaload, []) :: (24, .istore_n 3, []) :: (25, .aload_n 0, []) :: (26, .iload_n 2, []) :: (27, .invokevirtual 208, [1, 135, 2, 8, 1198, 1200, 55, 74]) :: (30, .istore 4, []) :: (32, .iconst 0, []) :: (33, .istore 5, []) :: zX8_isRest_35
def zX8_isRest_0 : aC := (0, .iconst 1, []) :: (1, .istore_n 1, []) :: (2, .iconst 0, []) :: (3, .istore_n 2, []) :: zX8_isRest_4
def zX8_rests_97 : aC := (97, .ireturn, []) :: []
def zX8_rests_96 : aC := (96, .iload_n 3, []) :: zX8_rests_97
def zX8_rests_88 : aC := (88, .iload_n 1, []) :: (89, .ifCond .ge 7, [96]) :: (92, .iload_n 2, []) :: (93, .goto 4, [97]) :: zX8_rests_96
def zX8_rests_82 : aC := (82, .iinc 4 1, []) :: (85, .goto (-47), [38]) :: zX8_rests_88
def zX8_rests_78 : aC := (78, .istore_n 3, []) :: (79, .iinc 2 1, []) :: zX8_rests_82
def zX8_rests_77 : aC := (77, .iload_n 3, []) :: zX8_rests_78
def zX8_rests_38 : aC := (38, .iload 4, []) :: (40, .aload_n 0, []) :: (41, .invokevirtual 240, [1, 152, 1, 8, 1226, 1228, 59, 74]) :: (44, .if_icmp .ge 44, [88]) :: (47, .aload_n 0, []) :: (48, .iload 4, []) :: (50, .invokevirtual 243, [1, 153, 2, 8, 1230, 1232, 60, 74]) :: (53, .aload_n 0, []) :: (54, .invokevirtual 247, [1, 154, 1, 8, 1234, 1236, 61, 74]) :: (57, .ifCond .eq 25, [82]) :: (60, .iload_n 2, []) :: (61, .ifCond .ne 16, [77]) :: (64, .iload_n 1, []) :: (65, .ifCond .lt 12, [77]) :: (68, .aload_n 0, []) :: (69, .getfield 41, [8, 21, 2, 946]) :: (72, .iload_n 1, []) :: (73, .iaload, []) :: (74, .goto 4, [78]) :: zX8_rests_77
def zX8_rests_26 : aC := (26, .aload_n 0, []) :: (27, .invokevirtual 225, [1, 112, 1, 8, 1145, 1147, 47, 74]) :: (30, .iconst 0, []) :: (31, .istore_n 2, []) :: (32, .ldc 197, [0, -1000000, 1169]) :: (34, .istore_n 3, []) :: (35, .iconst 0, []) :: (36, .istore 4, []) :: zX8_rests_38
def zX8_rests_10 : aC := (10, .iload_n 1, []) :: (11, .iconst (-1), []) :: (12, .if_icmp .eq 14, [26]) :: (15, .aload_n 0, []) :: (16, .iload_n 1, []) :: (17, .invokevirtual 218, [1, 89, 2, 8, 1123, 1125, 46, 74]) :: (20, .ifCond .ne 6, [26]) :: (23, .ldc 67, [0, -1000001, 1014]) :: (25, .ireturn, []) :: zX8_rests_26
def zX8_rests_0 : aC := (0, .aload_n 0, []) :: (1, .getfield 167, [8, 7, 3, 932]) :: (4, .ifCond .ne 6, [10]) :: (7, .ldc 214, [0, -1000002, 1110]) :: (9, .ireturn, []) :: zX8_rests_10
def zX3_agree_85 : aC := (85, .ldc 53, [0, -1000000, 739]) :: (87, .ireturn, []) :: []
def zX3_agree_79 : aC := (79, .iinc 5 1, []) :: (82, .goto (-60), [22]) :: zX3_agree_85
def zX3_agree_22 : aC := (22, .iload 5, []) :: (24, .bipush 7, []) :: (26, .if_icmp .ge 59, [85]) :: (29, .aload_n 0, []) :: (30, .getfield 12, [3, 0, 2, 276]) :: (33, .getfield 28, [2, 5, 2, 252]) :: (36, .iload_n 1, []) :: (37, .iload 5, []) :: (39, .iastore, []) :: (40, .aload_n 0, []) :: (41, .getfield 12, [3, 0, 2, 276]) :: (44, .getfield 28, [2, 5, 2, 252]) :: (47, .iload_n 2, []) :: (48, .iload 5, []) :: (50, .iastore, []) :: (51, .aload_n 0, []) :: (52, .getfield 12, [3, 0, 2, 276]) :: (55, .iload_n 1, []) :: (56, .invokevirtual 86, [1, 131, 2, 2, 777, 711, 712, 71]) :: (59, .iload_n 3, []) :: (60, .if_icmp .le 19, [79]) :: (63, .aload_n 0, []) :: (64, .getfield 12, [3, 0, 2, 276]) :: (67, .iload_n 2, []) :: (68, .invokevirtual 86, [1, 131, 2, 2, 777, 711, 712, 71]) :: (71, .iload 4, []) :: (73, .if_icmp .le 6, [79]) :: (76, .iload 5, []) :: (78, .ireturn, []) :: zX3_agree_79
def zX3_agree_0 : aC := (0, .aload_n 0, []) :: (1, .getfield 12, [3, 0, 2, 276]) :: (4, .iload_n 1, []) :: (5, .invokevirtual 86, [1, 131, 2, 2, 777, 711, 712, 71]) :: (8, .istore_n 3, []) :: (9, .aload_n 0, []) :: (10, .getfield 12, [3, 0, 2, 276]) :: (13, .iload_n 2, []) :: (14, .invokevirtual 86, [1, 131, 2, 2, 777, 711, 712, 71]) :: (17, .istore 4, []) :: (19, .iconst 0, []) :: (20, .istore 5, []) :: zX3_agree_22
def zX7_pact_110 : aC := (110, .ireturn, []) :: []
def zX7_pact_109 : aC := (109, .iconst 0, []) :: zX7_pact_110
def zX7_pact_83 : aC := (83, .aload_n 0, []) :: (84, .getfield 46, [7, 6, 2, 334]) :: (87, .iload_n 2, []) :: (88, .invokevirtual 258, [1, 148, 2, 3, 779, 765, 766, 70]) :: (91, .ifCond .eq 18, [109]) :: (94, .aload_n 0, []) :: (95, .getfield 46, [7, 6, 2, 334]) :: (98, .iload_n 3, []) :: (99, .invokevirtual 258, [1, 148, 2, 3, 779, 765, 766, 70]) :: (102, .ifCond .eq 7, [109]) :: (105, .iconst 1, []) :: (106, .goto 4, [110]) :: zX7_pact_109
def zX7_pact_80 : aC := (80, .iload 6, []) :: (82, .ireturn, []) :: zX7_pact_83
def zX7_pact_56 : aC := (56, .aload_n 0, []) :: (57, .getfield 46, [7, 6, 2, 334]) :: (60, .iload_n 2, []) :: (61, .iload_n 3, []) :: (62, .invokevirtual 254, [1, 156, 3, 3, 773, 774, 775, 70]) :: (65, .istore 6, []) :: (67, .iload 6, []) :: (69, .ldc_w 257, [0, -1000000, 778]) :: (72, .if_icmp .eq 8, [80]) :: (75, .iload 4, []) :: (77, .ifCond .ne 6, [83]) :: zX7_pact_80
def zX7_pact_43 : aC := (43, .invokevirtual 231, [1, 129, 3, 7, 702, 704, 21, 66]) :: (46, .istore 5, []) :: (48, .iload 5, []) :: (50, .ifCond .eq 6, [56]) :: (53, .iload 5, []) :: (55, .ireturn, []) :: zX7_pact_56
def zX7_pact_42 : aC := (42, .iconst 0, []) :: zX7_pact_43
def zX7_pact_0 : aC := (0, .aload_n 0, []) :: (1, .iload_n 1, []) :: (2, .aload_n 0, []) :: (3, .getfield 22, [7, 2, 2, 330]) :: (6, .iload_n 2, []) :: (7, .invokevirtual 160, [1, 87, 2, 1, 599, 600, 601, 67]) :: (10, .ifCond .eq 32, [42]) :: (13, .aload_n 0, []) :: (14, .getfield 22, [7, 2, 2, 330]) :: (17, .iload_n 3, []) :: (18, .invokevirtual 160, [1, 87, 2, 1, 599, 600, 601, 67]) :: (21, .ifCond .eq 21, [42]) :: (24, .iload_n 2, []) :: (25, .iload_n 3, []) :: (26, .if_icmp .eq 16, [42]) :: (29, .iload 4, []) :: (31, .iconst 2, []) :: (32, .invokestatic 175, [2, 9, 2, 0, 366, 367, 0, 66]) :: (35, .ifCond .eq 7, [42]) :: (38, .iconst 1, []) :: (39, .goto 4, [43]) :: zX7_pact_42
def zX8_pact_280 : aC := (280, .ireturn, []) :: []
def zX8_pact_279 : aC := (279, .iconst 0, []) :: zX8_pact_280
def zX8_pact_270 : aC := (270, .iload 10, []) :: (272, .ifCond .eq 7, [279]) :: (275, .iconst 1, []) :: (276, .goto 4, [280]) :: zX8_pact_279
def zX8_pact_254 : aC := (254, .istore 10, []) :: (256, .aload_n 0, []) :: (257, .getfield 41, [8, 21, 2, 946]) :: (260, .iload_n 3, []) :: (261, .iload 8, []) :: (263, .iastore, []) :: (264, .iinc 11 1, []) :: (267, .goto (-86), [181]) :: zX8_pact_270
def zX8_pact_253 : aC := (253, .iconst 0, []) :: zX8_pact_254
def zX8_pact_216 : aC := (216, .istore 10, []) :: (218, .aload_n 0, []) :: (219, .getfield 41, [8, 21, 2, 946]) :: (222, .iload_n 2, []) :: (223, .iload 8, []) :: (225, .iastore, []) :: (226, .aload_n 0, []) :: (227, .getfield 41, [8, 21, 2, 946]) :: (230, .iload_n 3, []) :: (231, .iload 11, []) :: (233, .iastore, []) :: (234, .iload 10, []) :: (236, .ifCond .eq 17, [253]) :: (239, .aload_n 0, []) :: (240, .iload_n 3, []) :: (241, .invokevirtual 208, [1, 135, 2, 8, 1198, 1200, 55, 74]) :: (244, .iload 7, []) :: (246, .if_icmp .gt 7, [253]) :: (249, .iconst 1, []) :: (250, .goto 4, [254]) :: zX8_pact_253
def zX8_pact_215 : aC := (215, .iconst 0, []) :: zX8_pact_216
def zX8_pact_181 : aC := (181, .iload 11, []) :: (183, .bipush 6, []) :: (185, .if_icmp .gt 85, [270]) :: (188, .aload_n 0, []) :: (189, .getfield 41, [8, 21, 2, 946]) :: (192, .iload_n 2, []) :: (193, .iload 11, []) :: (195, .iastore, []) :: (196, .iload 10, []) :: (198, .ifCond .eq 17, [215]) :: (201, .aload_n 0, []) :: (202, .iload_n 2, []) :: (203, .invokevirtual 208, [1, 135, 2, 8, 1198, 1200, 55, 74]) :: (206, .iload 6, []) :: (208, .if_icmp .gt 7, [215]) :: (211, .iconst 1, []) :: (212, .goto 4, [216]) :: zX8_pact_215
def zX8_pact_161 : aC := (161, .aload_n 0, []) :: (162, .iload_n 2, []) :: (163, .invokevirtual 208, [1, 135, 2, 8, 1198, 1200, 55, 74]) :: (166, .istore 6, []) :: (168, .aload_n 0, []) :: (169, .iload_n 3, []) :: (170, .invokevirtual 208, [1, 135, 2, 8, 1198, 1200, 55, 74]) :: (173, .istore 7, []) :: (175, .iconst 1, []) :: (176, .istore 10, []) :: (178, .iconst 0, []) :: (179, .istore 11, []) :: zX8_pact_181
def zX8_pact_160 : aC := (160, .ireturn, []) :: zX8_pact_161
def zX8_pact_158 : aC := (158, .ldc 197, [0, -1000000, 1169]) :: zX8_pact_160
def zX8_pact_148 : aC := (148, .iload 9, []) :: (150, .ifCond .eq 8, [158]) :: (153, .iload 8, []) :: (155, .goto 5, [160]) :: zX8_pact_158
def zX8_pact_135 : aC := (135, .iinc 8 (-1), []) :: (138, .iload 9, []) :: (140, .ifCond .eq 8, [148]) :: (143, .iload 4, []) :: (145, .ifCond .ne 16, [161]) :: zX8_pact_148
def zX8_pact_127 : aC := (127, .istore 9, []) :: (129, .iinc 8 1, []) :: (132, .goto (-58), [74]) :: zX8_pact_135
def zX8_pact_126 : aC := (126, .iconst 0, []) :: zX8_pact_127
def zX8_pact_74 : aC := (74, .iload 8, []) :: (76, .bipush 6, []) :: (78, .if_icmp .gt 57, [135]) :: (81, .iload 9, []) :: (83, .ifCond .ne 52, [135]) :: (86, .aload_n 0, []) :: (87, .getfield 41, [8, 21, 2, 946]) :: (90, .iload_n 2, []) :: (91, .iload 8, []) :: (93, .iastore, []) :: (94, .aload_n 0, []) :: (95, .getfield 41, [8, 21, 2, 946]) :: (98, .iload_n 3, []) :: (99, .iload 8, []) :: (101, .iastore, []) :: (102, .aload_n 0, []) :: (103, .iload_n 2, []) :: (104, .invokevirtual 208, [1, 135, 2, 8, 1198, 1200, 55, 74]) :: (107, .iload 6, []) :: (109, .if_icmp .le 17, [126]) :: (112, .aload_n 0, []) :: (113, .iload_n 3, []) :: (114, .invokevirtual 208, [1, 135, 2, 8, 1198, 1200, 55, 74]) :: (117, .iload 7, []) :: (119, .if_icmp .le 7, [126]) :: (122, .iconst 1, []) :: (123, .goto 4, [127]) :: zX8_pact_126
def zX8_pact_54 : aC := (54, .aload_n 0, []) :: (55, .iload_n 2, []) :: (56, .invokevirtual 208, [1, 135, 2, 8, 1198, 1200, 55, 74]) :: (59, .istore 6, []) :: (61, .aload_n 0, []) :: (62, .iload_n 3, []) :: (63, .invokevirtual 208, [1, 135, 2, 8, 1198, 1200, 55, 74]) :: (66, .istore 7, []) :: (68, .iconst 0, []) :: (69, .istore 8, []) :: (71, .iconst 0, []) :: (72, .istore 9, []) :: zX8_pact_74
def zX8_pact_39 : aC := (39, .bipush 6, []) :: (41, .invokevirtual 233, [1, 133, 4, 8, 1194, 1196, 54, 74]) :: (44, .istore 5, []) :: (46, .iload 5, []) :: (48, .ifCond .ge 6, [54]) :: (51, .iload 5, []) :: (53, .ireturn, []) :: zX8_pact_54
def zX8_pact_38 : aC := (38, .iconst 0, []) :: zX8_pact_39
def zX8_pact_0 : aC := (0, .aload_n 0, []) :: (1, .iload_n 1, []) :: (2, .aload_n 0, []) :: (3, .iload_n 2, []) :: (4, .invokevirtual 218, [1, 89, 2, 8, 1123, 1125, 46, 74]) :: (7, .ifCond .eq 31, [38]) :: (10, .aload_n 0, []) :: (11, .iload_n 3, []) :: (12, .invokevirtual 218, [1, 89, 2, 8, 1123, 1125, 46, 74]) :: (15, .ifCond .eq 23, [38]) :: (18, .iload_n 2, []) :: (19, .iload_n 3, []) :: (20, .if_icmp .eq 18, [38]) :: (23, .iload 4, []) :: (25, .i2l, []) :: (26, .lconst 0, []) :: (27, .lconst 1, []) :: (28, .invokestatic 57, [2, 15, 3, 0, 1010, 1011, 0, 74]) :: (31, .ifCond .eq 7, [38]) :: (34, .iconst 1, []) :: (35, .goto 4, [39]) :: zX8_pact_38
def zX3_meanAlone_110 : aC := (110, .lload 4, []) :: (112, .lreturn, []) :: []
def zX3_meanAlone_9 : aC := (9, .iload 8, []) :: (11, .ifCond .lt 99, [110]) :: (14, .aload_n 1, []) :: (15, .iload_n 2, []) :: (16, .iload 8, []) :: (18, .invokevirtual 89, [1, 99, 3, 1, 788, 636, 637, 67]) :: (21, .aload_n 0, []) :: (22, .getfield 12, [3, 0, 2, 276]) :: (25, .getfield 35, [2, 2, 2, 248]) :: (28, .iload_n 2, []) :: (29, .iaload, []) :: (30, .isub, []) :: (31, .istore 9, []) :: (33, .aload_n 1, []) :: (34, .getfield 94, [1, 0, 2, 101]) :: (37, .iload 8, []) :: (39, .iaload, []) :: (40, .istore 10, []) :: (42, .lconst 0, []) :: (43, .lload 4, []) :: (45, .lload 6, []) :: (47, .iload 9, []) :: (49, .iload 10, []) :: (51, .iconst 2, []) :: (52, .idiv, []) :: (53, .isub, []) :: (54, .i2l, []) :: (55, .lmul, []) :: (56, .ladd, []) :: (57, .invokestatic 97, [7, 2, 789, 790, 80, 791]) :: (60, .lstore 11, []) :: (62, .lconst 0, []) :: (63, .lload 4, []) :: (65, .lload 6, []) :: (67, .iload 9, []) :: (69, .iload 10, []) :: (71, .isub, []) :: (72, .i2l, []) :: (73, .lmul, []) :: (74, .ladd, []) :: (75, .invokestatic 97, [7, 2, 789, 790, 80, 791]) :: (78, .lstore 13, []) :: (80, .iload_n 3, []) :: (81, .i2l, []) :: (82, .lload 11, []) :: (84, .lmul, []) :: (85, .bipush 10, []) :: (87, .iload_n 3, []) :: (88, .isub, []) :: (89, .i2l, []) :: (90, .lload 13, []) :: (92, .lmul, []) :: (93, .ladd, []) :: (94, .lstore 4, []) :: (96, .lload 6, []) :: (98, .ldc2_w 103, [0, 10, 792]) :: (101, .lmul, []) :: (102, .lstore 6, []) :: (104, .iinc 8 (-1), []) :: (107, .goto (-98), [9]) :: zX3_meanAlone_110
def zX3_meanAlone_0 : aC := (0, .lconst 0, []) :: (1, .lstore 4, []) :: (3, .lconst 1, []) :: (4, .lstore 6, []) :: (6, .iconst 5, []) :: (7, .istore 8, []) :: zX3_meanAlone_9
def zX3_commonDivisor_44 : aC := (44, .lconst 1, []) :: (45, .lload 4, []) :: (47, .invokestatic 97, [7, 2, 789, 790, 80, 791]) :: (50, .lreturn, []) :: []
def zX3_commonDivisor_9 : aC := (9, .iload 8, []) :: (11, .bipush 100, []) :: (13, .if_icmp .ge 31, [44]) :: (16, .lload 6, []) :: (18, .lconst 0, []) :: (19, .lcmp, []) :: (20, .ifCond .eq 24, [44]) :: (23, .lload 4, []) :: (25, .lload 6, []) :: (27, .lrem, []) :: (28, .lstore 9, []) :: (30, .lload 6, []) :: (32, .lstore 4, []) :: (34, .lload 9, []) :: (36, .lstore 6, []) :: (38, .iinc 8 1, []) :: (41, .goto (-32), [9]) :: zX3_commonDivisor_44
def zX3_commonDivisor_0 : aC := (0, .lload_n 0, []) :: (1, .lstore 4, []) :: (3, .lload_n 2, []) :: (4, .lstore 6, []) :: (6, .iconst 0, []) :: (7, .istore 8, []) :: zX3_commonDivisor_9
def zX7_alone_93 : aC := (93, .lload 6, []) :: (95, .ldiv, []) :: (96, .l2i, []) :: (97, .ireturn, []) :: []
def zX7_alone_90 : aC := (90, .ldc2_w 265, [0, 1000000, 793]) :: zX7_alone_93
def zX7_alone_45 : aC := (45, .aload_n 0, []) :: (46, .getfield 54, [7, 7, 2, 335]) :: (49, .aload_n 0, []) :: (50, .getfield 22, [7, 2, 2, 330]) :: (53, .invokevirtual 198, [1, 100, 2, 2, 625, 626, 627, 71]) :: (56, .aload_n 0, []) :: (57, .getfield 46, [7, 6, 2, 334]) :: (60, .aload_n 0, []) :: (61, .getfield 22, [7, 2, 2, 330]) :: (64, .iload_n 1, []) :: (65, .iload_n 2, []) :: (66, .invokevirtual 261, [1, 159, 4, 3, 784, 785, 786, 70]) :: (69, .lstore 4, []) :: (71, .lload 4, []) :: (73, .ldc2_w 265, [0, 1000000, 793]) :: (76, .invokestatic 267, [2, 160, 2, 0, 794, 795, 0, 70]) :: (79, .lstore 6, []) :: (81, .iload_n 3, []) :: (82, .ifCond .ne 8, [90]) :: (85, .lload 4, []) :: (87, .goto 6, [93]) :: zX7_alone_90
def zX7_alone_42 : aC := (42, .ldc 67, [0, -1000001, 369]) :: (44, .ireturn, []) :: zX7_alone_45
def zX7_alone_13 : aC := (13, .aload_n 0, []) :: (14, .getfield 22, [7, 2, 2, 330]) :: (17, .iload_n 1, []) :: (18, .invokevirtual 160, [1, 87, 2, 1, 599, 600, 601, 67]) :: (21, .ifCond .eq 21, [42]) :: (24, .iload_n 2, []) :: (25, .ifCond .lt 17, [42]) :: (28, .iload_n 2, []) :: (29, .bipush 10, []) :: (31, .if_icmp .gt 11, [42]) :: (34, .iload_n 3, []) :: (35, .iconst 2, []) :: (36, .invokestatic 175, [2, 9, 2, 0, 366, 367, 0, 66]) :: (39, .ifCond .ne 6, [45]) :: zX7_alone_42
def zX7_alone_0 : aC := (0, .aload_n 0, []) :: (1, .getfield 22, [7, 2, 2, 330]) :: (4, .getfield 143, [1, 7, 3, 125]) :: (7, .ifCond .ne 6, [13]) :: (10, .ldc 147, [0, -1000002, 576]) :: (12, .ireturn, []) :: zX7_alone_13
def zX8_alone_261 : aC := (261, .l2i, []) :: (262, .ireturn, []) :: []
def zX8_alone_256 : aC := (256, .lload 6, []) :: (258, .lload 8, []) :: (260, .ldiv, []) :: zX8_alone_261
def zX8_alone_244 : aC := (244, .iload_n 3, []) :: (245, .ifCond .ne 11, [256]) :: (248, .lload 4, []) :: (250, .lload 8, []) :: (252, .ldiv, []) :: (253, .goto 8, [261]) :: zX8_alone_256
def zX8_alone_219 : aC := (219, .lload 10, []) :: (221, .lconst 0, []) :: (222, .lcmp, []) :: (223, .ifCond .eq 21, [244]) :: (226, .lload 8, []) :: (228, .lload 10, []) :: (230, .lrem, []) :: (231, .lstore 12, []) :: (233, .lload 10, []) :: (235, .lstore 8, []) :: (237, .lload 12, []) :: (239, .lstore 10, []) :: (241, .goto (-22), [219]) :: zX8_alone_244
def zX8_alone_211 : aC := (211, .lload 4, []) :: (213, .lstore 8, []) :: (215, .lload 6, []) :: (217, .lstore 10, []) :: zX8_alone_219
def zX8_alone_193 : aC := (193, .lmul, []) :: (194, .ladd, []) :: (195, .lstore 4, []) :: (197, .lload 6, []) :: (199, .ldc2_w 116, [0, 10, 1070]) :: (202, .lmul, []) :: (203, .lstore 6, []) :: (205, .iinc 8 (-1), []) :: (208, .goto (-133), [75]) :: zX8_alone_211
def zX8_alone_192 : aC := (192, .lconst 0, []) :: zX8_alone_193
def zX8_alone_174 : aC := (174, .lmul, []) :: (175, .bipush 10, []) :: (177, .iload_n 2, []) :: (178, .isub, []) :: (179, .i2l, []) :: (180, .lload 12, []) :: (182, .lconst 0, []) :: (183, .lcmp, []) :: (184, .ifCond .le 8, [192]) :: (187, .lload 12, []) :: (189, .goto 4, [193]) :: zX8_alone_192
def zX8_alone_173 : aC := (173, .lconst 0, []) :: zX8_alone_174
def zX8_alone_110 : aC := (110, .isub, []) :: (111, .istore 9, []) :: (113, .iload 9, []) :: (115, .aload_n 0, []) :: (116, .getfield 22, [8, 8, 2, 933]) :: (119, .bipush 6, []) :: (121, .iload 8, []) :: (123, .iadd, []) :: (124, .iaload, []) :: (125, .iconst 2, []) :: (126, .idiv, []) :: (127, .isub, []) :: (128, .i2l, []) :: (129, .lload 6, []) :: (131, .lmul, []) :: (132, .lload 4, []) :: (134, .ladd, []) :: (135, .lstore 10, []) :: (137, .iload 9, []) :: (139, .aload_n 0, []) :: (140, .getfield 22, [8, 8, 2, 933]) :: (143, .bipush 6, []) :: (145, .iload 8, []) :: (147, .iadd, []) :: (148, .iaload, []) :: (149, .isub, []) :: (150, .i2l, []) :: (151, .lload 6, []) :: (153, .lmul, []) :: (154, .lload 4, []) :: (156, .ladd, []) :: (157, .lstore 12, []) :: (159, .iload_n 2, []) :: (160, .i2l, []) :: (161, .lload 10, []) :: (163, .lconst 0, []) :: (164, .lcmp, []) :: (165, .ifCond .le 8, [173]) :: (168, .lload 10, []) :: (170, .goto 4, [174]) :: zX8_alone_173
def zX8_alone_109 : aC := (109, .iconst 0, []) :: zX8_alone_110
def zX8_alone_75 : aC := (75, .iload 8, []) :: (77, .ifCond .lt 134, [211]) :: (80, .aload_n 0, []) :: (81, .iload_n 1, []) :: (82, .iload 8, []) :: (84, .invokevirtual 204, [1, 134, 3, 8, 1202, 1204, 56, 74]) :: (87, .aload_n 0, []) :: (88, .getfield 22, [8, 8, 2, 933]) :: (91, .bipush 40, []) :: (93, .iload_n 1, []) :: (94, .iadd, []) :: (95, .iaload, []) :: (96, .iconst 1, []) :: (97, .if_icmp .ne 12, [109]) :: (100, .aload_n 0, []) :: (101, .getfield 22, [8, 8, 2, 933]) :: (104, .iconst 1, []) :: (105, .iaload, []) :: (106, .goto 4, [110]) :: zX8_alone_109
def zX8_alone_66 : aC := (66, .lconst 0, []) :: (67, .lstore 4, []) :: (69, .lconst 1, []) :: (70, .lstore 6, []) :: (72, .iconst 5, []) :: (73, .istore 8, []) :: zX8_alone_75
def zX8_alone_46 : aC := (46, .iload 4, []) :: (48, .iconst 4, []) :: (49, .if_icmp .ge 17, [66]) :: (52, .aload_n 0, []) :: (53, .getfield 41, [8, 21, 2, 946]) :: (56, .iload 4, []) :: (58, .iconst 0, []) :: (59, .iastore, []) :: (60, .iinc 4 1, []) :: (63, .goto (-17), [46]) :: zX8_alone_66
def zX8_alone_43 : aC := (43, .iconst 0, []) :: (44, .istore 4, []) :: zX8_alone_46
def zX8_alone_40 : aC := (40, .ldc 67, [0, -1000001, 1014]) :: (42, .ireturn, []) :: zX8_alone_43
def zX8_alone_10 : aC := (10, .aload_n 0, []) :: (11, .iload_n 1, []) :: (12, .invokevirtual 218, [1, 89, 2, 8, 1123, 1125, 46, 74]) :: (15, .ifCond .eq 25, [40]) :: (18, .iload_n 2, []) :: (19, .i2l, []) :: (20, .lconst 0, []) :: (21, .ldc2_w 116, [0, 10, 1070]) :: (24, .invokestatic 57, [2, 15, 3, 0, 1010, 1011, 0, 74]) :: (27, .ifCond .eq 13, [40]) :: (30, .iload_n 3, []) :: (31, .i2l, []) :: (32, .lconst 0, []) :: (33, .lconst 1, []) :: (34, .invokestatic 57, [2, 15, 3, 0, 1010, 1011, 0, 74]) :: (37, .ifCond .ne 6, [43]) :: zX8_alone_40
def zX8_alone_0 : aC := (0, .aload_n 0, []) :: (1, .getfield 167, [8, 7, 3, 932]) :: (4, .ifCond .ne 6, [10]) :: (7, .ldc 214, [0, -1000002, 1110]) :: (9, .ireturn, []) :: zX8_alone_10
def zX3_isPaid_35 : aC := (35, .iconst 1, []) :: (36, .ireturn, []) :: []
def zX3_isPaid_29 : aC := (29, .iinc 2 1, []) :: (32, .goto (-30), [2]) :: zX3_isPaid_35
def zX3_isPaid_2 : aC := (2, .iload_n 2, []) :: (3, .aload_n 0, []) :: (4, .getfield 12, [3, 0, 2, 276]) :: (7, .getfield 45, [2, 6, 0, 255]) :: (10, .if_icmp .ge 25, [35]) :: (13, .aload_n 0, []) :: (14, .getfield 12, [3, 0, 2, 276]) :: (17, .iload_n 2, []) :: (18, .invokevirtual 83, [1, 107, 2, 2, 810, 640, 641, 71]) :: (21, .aload_n 1, []) :: (22, .iload_n 2, []) :: (23, .iaload, []) :: (24, .if_icmp .eq 5, [29]) :: (27, .iconst 0, []) :: (28, .ireturn, []) :: zX3_isPaid_29
def zX3_isPaid_0 : aC := (0, .iconst 0, []) :: (1, .istore_n 2, []) :: zX3_isPaid_2
def zX3_meetCommon_67 : aC := (67, .return_, []) :: []
def zX3_meetCommon_61 : aC := (61, .iinc 2 1, []) :: (64, .goto (-62), [2]) :: zX3_meetCommon_67
def zX3_meetCommon_35 : aC := (35, .aload_n 0, []) :: (36, .getfield 25, [3, 3, 2, 280]) :: (39, .iload_n 2, []) :: (40, .iaload, []) :: (41, .aload_n 0, []) :: (42, .getfield 12, [3, 0, 2, 276]) :: (45, .getfield 28, [2, 5, 2, 252]) :: (48, .iload_n 2, []) :: (49, .iaload, []) :: (50, .if_icmp .eq 11, [61]) :: (53, .aload_n 0, []) :: (54, .getfield 25, [3, 3, 2, 280]) :: (57, .iload_n 2, []) :: (58, .ldc 53, [0, -1000000, 739]) :: (60, .iastore, []) :: zX3_meetCommon_61
def zX3_meetCommon_2 : aC := (2, .iload_n 2, []) :: (3, .aload_n 0, []) :: (4, .getfield 12, [3, 0, 2, 276]) :: (7, .getfield 45, [2, 6, 0, 255]) :: (10, .if_icmp .ge 57, [67]) :: (13, .iload_n 1, []) :: (14, .ifCond .eq 21, [35]) :: (17, .aload_n 0, []) :: (18, .getfield 25, [3, 3, 2, 280]) :: (21, .iload_n 2, []) :: (22, .aload_n 0, []) :: (23, .getfield 12, [3, 0, 2, 276]) :: (26, .getfield 28, [2, 5, 2, 252]) :: (29, .iload_n 2, []) :: (30, .iaload, []) :: (31, .iastore, []) :: (32, .goto 29, [61]) :: zX3_meetCommon_35
def zX3_meetCommon_0 : aC := (0, .iconst 0, []) :: (1, .istore_n 2, []) :: zX3_meetCommon_2
def zX3_explain_56 : aC := (56, .iload_n 2, []) :: (57, .ireturn, []) :: []
def zX3_explain_50 : aC := (50, .iinc 4 1, []) :: (53, .goto (-39), [14]) :: zX3_explain_56
def zX3_explain_44 : aC := (44, .invokevirtual 79, [1, 164, 2, 3, 811, 813, 28, 70]) :: (47, .iinc 2 1, []) :: zX3_explain_50
def zX3_explain_43 : aC := (43, .iconst 0, []) :: zX3_explain_44
def zX3_explain_14 : aC := (14, .iload 4, []) :: (16, .iload_n 3, []) :: (17, .if_icmp .ge 39, [56]) :: (20, .aload_n 0, []) :: (21, .iload 4, []) :: (23, .invokevirtual 61, [1, 147, 2, 3, 756, 758, 25, 70]) :: (26, .aload_n 0, []) :: (27, .aload_n 1, []) :: (28, .invokevirtual 75, [1, 163, 2, 3, 806, 808, 27, 70]) :: (31, .ifCond .eq 19, [50]) :: (34, .aload_n 0, []) :: (35, .iload_n 2, []) :: (36, .ifCond .ne 7, [43]) :: (39, .iconst 1, []) :: (40, .goto 4, [44]) :: zX3_explain_43
def zX3_explain_0 : aC := (0, .aload_n 0, []) :: (1, .invokevirtual 54, [1, 145, 1, 3, 748, 750, 23, 70]) :: (4, .iconst 0, []) :: (5, .istore_n 2, []) :: (6, .aload_n 0, []) :: (7, .invokevirtual 57, [1, 146, 1, 3, 752, 754, 24, 70]) :: (10, .istore_n 3, []) :: (11, .iconst 0, []) :: (12, .istore 4, []) :: zX3_explain_14
def zX7_explained_84 : aC := (84, .ireturn, []) :: []
def zX7_explained_75 : aC := (75, .aload_n 0, []) :: (76, .getfield 46, [7, 6, 2, 334]) :: (79, .getfield 251, [3, 3, 2, 281]) :: (82, .iload_n 2, []) :: (83, .iaload, []) :: zX7_explained_84
def zX7_explained_36 : aC := (36, .aload_n 0, []) :: (37, .getfield 54, [7, 7, 2, 335]) :: (40, .aload_n 0, []) :: (41, .getfield 22, [7, 2, 2, 330]) :: (44, .invokevirtual 198, [1, 100, 2, 2, 625, 626, 627, 71]) :: (47, .aload_n 0, []) :: (48, .getfield 46, [7, 6, 2, 334]) :: (51, .aload_n 0, []) :: (52, .getfield 11, [7, 0, 2, 328]) :: (55, .iload_n 1, []) :: (56, .aaload, []) :: (57, .getfield 95, [5, 0, 2, 316]) :: (60, .invokevirtual 276, [1, 165, 2, 3, 802, 803, 804, 70]) :: (63, .istore 4, []) :: (65, .iload_n 2, []) :: (66, .iconst (-1), []) :: (67, .if_icmp .ne 8, [75]) :: (70, .iload 4, []) :: (72, .goto 12, [84]) :: zX7_explained_75
def zX7_explained_23 : aC := (23, .ldc_w 271, [0, 2147483647, 801]) :: (26, .invokevirtual 272, [1, 128, 4, 7, 706, 708, 22, 66]) :: (29, .istore_n 3, []) :: (30, .iload_n 3, []) :: (31, .ifCond .eq 5, [36]) :: (34, .iload_n 3, []) :: (35, .ireturn, []) :: zX7_explained_36
def zX7_explained_22 : aC := (22, .iconst 0, []) :: zX7_explained_23
def zX7_explained_18 : aC := (18, .iconst 1, []) :: (19, .goto 4, [23]) :: zX7_explained_22
def zX7_explained_0 : aC := (0, .aload_n 0, []) :: (1, .iload_n 1, []) :: (2, .iload_n 2, []) :: (3, .iconst (-1), []) :: (4, .if_icmp .eq 14, [18]) :: (7, .aload_n 0, []) :: (8, .getfield 22, [7, 2, 2, 330]) :: (11, .iload_n 2, []) :: (12, .invokevirtual 160, [1, 87, 2, 1, 599, 600, 601, 67]) :: (15, .ifCond .eq 7, [22]) :: zX7_explained_18
def zX8_explained_187 : aC := (187, .ireturn, []) :: []
def zX8_explained_185 : aC := (185, .iload 5, []) :: zX8_explained_187
def zX8_explained_176 : aC := (176, .iload_n 2, []) :: (177, .ifCond .ge 8, [185]) :: (180, .iload 4, []) :: (182, .goto 5, [187]) :: zX8_explained_185
def zX8_explained_167 : aC := (167, .iadd, []) :: (168, .istore 4, []) :: (170, .iinc 6 1, []) :: (173, .goto (-131), [42]) :: zX8_explained_176
def zX8_explained_166 : aC := (166, .iconst 0, []) :: zX8_explained_167
def zX8_explained_155 : aC := (155, .iload 4, []) :: (157, .iload 7, []) :: (159, .ifCond .eq 7, [166]) :: (162, .iconst 1, []) :: (163, .goto 4, [167]) :: zX8_explained_166
def zX8_explained_153 : aC := (153, .istore 5, []) :: zX8_explained_155
def zX8_explained_151 : aC := (151, .ldc 197, [0, -1000000, 1169]) :: zX8_explained_153
def zX8_explained_142 : aC := (142, .aload_n 0, []) :: (143, .getfield 41, [8, 21, 2, 946]) :: (146, .iload_n 2, []) :: (147, .iaload, []) :: (148, .goto 5, [153]) :: zX8_explained_151
def zX8_explained_117 : aC := (117, .iload 7, []) :: (119, .ifCond .eq 36, [155]) :: (122, .iload_n 2, []) :: (123, .ifCond .lt 32, [155]) :: (126, .iload 4, []) :: (128, .ifCond .eq 14, [142]) :: (131, .iload 5, []) :: (133, .aload_n 0, []) :: (134, .getfield 41, [8, 21, 2, 946]) :: (137, .iload_n 2, []) :: (138, .iaload, []) :: (139, .if_icmp .ne 12, [151]) :: zX8_explained_142
def zX8_explained_109 : aC := (109, .istore 7, []) :: (111, .iinc 8 1, []) :: (114, .goto (-47), [67]) :: zX8_explained_117
def zX8_explained_108 : aC := (108, .iconst 0, []) :: zX8_explained_109
def zX8_explained_67 : aC := (67, .iload 8, []) :: (69, .aload_n 0, []) :: (70, .getfield 22, [8, 8, 2, 933]) :: (73, .iconst 2, []) :: (74, .iaload, []) :: (75, .if_icmp .ge 42, [117]) :: (78, .iload 7, []) :: (80, .ifCond .eq 28, [108]) :: (83, .aload_n 0, []) :: (84, .iload 8, []) :: (86, .invokevirtual 201, [1, 118, 2, 8, 1170, 1172, 53, 74]) :: (89, .aload_n 0, []) :: (90, .getfield 16, [8, 2, 2, 927]) :: (93, .bipush 40, []) :: (95, .iload_n 1, []) :: (96, .imul, []) :: (97, .iload 8, []) :: (99, .iadd, []) :: (100, .iaload, []) :: (101, .if_icmp .ne 7, [108]) :: (104, .iconst 1, []) :: (105, .goto 4, [109]) :: zX8_explained_108
def zX8_explained_42 : aC := (42, .iload 6, []) :: (44, .aload_n 0, []) :: (45, .invokevirtual 240, [1, 152, 1, 8, 1226, 1228, 59, 74]) :: (48, .if_icmp .ge 128, [176]) :: (51, .aload_n 0, []) :: (52, .iload 6, []) :: (54, .invokevirtual 243, [1, 153, 2, 8, 1230, 1232, 60, 74]) :: (57, .aload_n 0, []) :: (58, .invokevirtual 198, [1, 117, 1, 8, 1149, 1151, 48, 74]) :: (61, .iconst 1, []) :: (62, .istore 7, []) :: (64, .iconst 0, []) :: (65, .istore 8, []) :: zX8_explained_67
def zX8_explained_32 : aC := (32, .iconst 0, []) :: (33, .istore 4, []) :: (35, .ldc 197, [0, -1000000, 1169]) :: (37, .istore 5, []) :: (39, .iconst 0, []) :: (40, .istore 6, []) :: zX8_explained_42
def zX8_explained_20 : aC := (20, .ldc 250, [0, 2147483647, 1250]) :: (22, .invokevirtual 233, [1, 133, 4, 8, 1194, 1196, 54, 74]) :: (25, .istore_n 3, []) :: (26, .iload_n 3, []) :: (27, .ifCond .ge 5, [32]) :: (30, .iload_n 3, []) :: (31, .ireturn, []) :: zX8_explained_32
def zX8_explained_19 : aC := (19, .iconst 0, []) :: zX8_explained_20
def zX8_explained_15 : aC := (15, .iconst 1, []) :: (16, .goto 4, [20]) :: zX8_explained_19
def zX8_explained_0 : aC := (0, .aload_n 0, []) :: (1, .iload_n 1, []) :: (2, .iload_n 2, []) :: (3, .iconst (-1), []) :: (4, .if_icmp .eq 11, [15]) :: (7, .aload_n 0, []) :: (8, .iload_n 2, []) :: (9, .invokevirtual 218, [1, 89, 2, 8, 1123, 1125, 46, 74]) :: (12, .ifCond .eq 7, [19]) :: zX8_explained_15
def zX3_gapOfWorths_66 : aC := (66, .iload_n 2, []) :: (67, .iload_n 1, []) :: (68, .isub, []) :: (69, .ireturn, []) :: []
def zX3_gapOfWorths_25 : aC := (25, .iload_n 3, []) :: (26, .aload_n 0, []) :: (27, .getfield 12, [3, 0, 2, 276]) :: (30, .getfield 45, [2, 6, 0, 255]) :: (33, .if_icmp .ge 33, [66]) :: (36, .aload_n 0, []) :: (37, .getfield 12, [3, 0, 2, 276]) :: (40, .iload_n 3, []) :: (41, .invokevirtual 86, [1, 131, 2, 2, 777, 711, 712, 71]) :: (44, .istore 4, []) :: (46, .iload_n 1, []) :: (47, .iload 4, []) :: (49, .invokestatic 112, [7, 1, 828, 583, 80, 584]) :: (52, .istore_n 1, []) :: (53, .iload_n 2, []) :: (54, .iload 4, []) :: (56, .invokestatic 115, [7, 0, 829, 830, 80, 831]) :: (59, .istore_n 2, []) :: (60, .iinc 3 1, []) :: (63, .goto (-38), [25]) :: zX3_gapOfWorths_66
def zX3_gapOfWorths_12 : aC := (12, .aload_n 0, []) :: (13, .getfield 12, [3, 0, 2, 276]) :: (16, .iconst 0, []) :: (17, .invokevirtual 86, [1, 131, 2, 2, 777, 711, 712, 71]) :: (20, .istore_n 1, []) :: (21, .iload_n 1, []) :: (22, .istore_n 2, []) :: (23, .iconst 1, []) :: (24, .istore_n 3, []) :: zX3_gapOfWorths_25
def zX3_gapOfWorths_0 : aC := (0, .aload_n 0, []) :: (1, .getfield 12, [3, 0, 2, 276]) :: (4, .getfield 45, [2, 6, 0, 255]) :: (7, .ifCond .ne 5, [12]) :: (10, .iconst 0, []) :: (11, .ireturn, []) :: zX3_gapOfWorths_12
def zX3_fairestSplit_43 : aC := (43, .iload_n 1, []) :: (44, .ireturn, []) :: []
def zX3_fairestSplit_37 : aC := (37, .iinc 3 1, []) :: (40, .goto (-33), [7]) :: zX3_fairestSplit_43
def zX3_fairestSplit_7 : aC := (7, .iload_n 3, []) :: (8, .iconst 3, []) :: (9, .if_icmp .ge 34, [43]) :: (12, .aload_n 0, []) :: (13, .getfield 12, [3, 0, 2, 276]) :: (16, .iload_n 3, []) :: (17, .putfield 106, [2, 7, 0, 258]) :: (20, .aload_n 0, []) :: (21, .invokevirtual 109, [1, 168, 1, 3, 824, 826, 29, 70]) :: (24, .istore 4, []) :: (26, .iload 4, []) :: (28, .iload_n 2, []) :: (29, .if_icmp .ge 8, [37]) :: (32, .iload 4, []) :: (34, .istore_n 2, []) :: (35, .iload_n 3, []) :: (36, .istore_n 1, []) :: zX3_fairestSplit_37
def zX3_fairestSplit_0 : aC := (0, .iconst 0, []) :: (1, .istore_n 1, []) :: (2, .ldc 105, [0, 2147483647, 823]) :: (4, .istore_n 2, []) :: (5, .iconst 0, []) :: (6, .istore_n 3, []) :: zX3_fairestSplit_7
def zX3_restingSplits_36 : aC := (36, .iload_n 1, []) :: (37, .ireturn, []) :: []
def zX3_restingSplits_30 : aC := (30, .iinc 2 1, []) :: (33, .goto (-29), [4]) :: zX3_restingSplits_36
def zX3_restingSplits_4 : aC := (4, .iload_n 2, []) :: (5, .iconst 3, []) :: (6, .if_icmp .ge 30, [36]) :: (9, .aload_n 0, []) :: (10, .getfield 12, [3, 0, 2, 276]) :: (13, .iload_n 2, []) :: (14, .putfield 106, [2, 7, 0, 258]) :: (17, .aload_n 0, []) :: (18, .invokevirtual 65, [1, 149, 1, 3, 760, 762, 26, 70]) :: (21, .ifCond .eq 9, [30]) :: (24, .iload_n 1, []) :: (25, .iconst 1, []) :: (26, .iload_n 2, []) :: (27, .ishl, []) :: (28, .ior, []) :: (29, .istore_n 1, []) :: zX3_restingSplits_30
def zX3_restingSplits_0 : aC := (0, .iconst 0, []) :: (1, .istore_n 1, []) :: (2, .iconst 0, []) :: (3, .istore_n 2, []) :: zX3_restingSplits_4
def zX7_laws_38 : aC := (38, .ireturn, []) :: []
def zX7_laws_31 : aC := (31, .aload_n 0, []) :: (32, .getfield 46, [7, 6, 2, 334]) :: (35, .invokevirtual 283, [1, 170, 1, 3, 832, 833, 834, 70]) :: zX7_laws_38
def zX7_laws_17 : aC := (17, .iload_n 2, []) :: (18, .ifCond .ne 13, [31]) :: (21, .aload_n 0, []) :: (22, .getfield 46, [7, 6, 2, 334]) :: (25, .invokevirtual 280, [1, 169, 1, 3, 819, 820, 821, 70]) :: (28, .goto 10, [38]) :: zX7_laws_31
def zX7_laws_0 : aC := (0, .aload_n 0, []) :: (1, .iload_n 1, []) :: (2, .iload_n 2, []) :: (3, .iconst 2, []) :: (4, .invokestatic 175, [2, 9, 2, 0, 366, 367, 0, 66]) :: (7, .invokevirtual 231, [1, 129, 3, 7, 702, 704, 21, 66]) :: (10, .istore_n 3, []) :: (11, .iload_n 3, []) :: (12, .ifCond .eq 5, [17]) :: (15, .iload_n 3, []) :: (16, .ireturn, []) :: zX7_laws_17
def zX8_laws_184 : aC := (184, .ireturn, []) :: []
def zX8_laws_182 : aC := (182, .iload 6, []) :: zX8_laws_184
def zX8_laws_173 : aC := (173, .iload_n 2, []) :: (174, .ifCond .ne 8, [182]) :: (177, .iload 4, []) :: (179, .goto 5, [184]) :: zX8_laws_182
def zX8_laws_164 : aC := (164, .ior, []) :: (165, .istore 6, []) :: (167, .iinc 7 1, []) :: (170, .goto (-137), [33]) :: zX8_laws_173
def zX8_laws_163 : aC := (163, .iconst 0, []) :: zX8_laws_164
def zX8_laws_147 : aC := (147, .iload 6, []) :: (149, .aload_n 0, []) :: (150, .invokevirtual 247, [1, 154, 1, 8, 1234, 1236, 61, 74]) :: (153, .ifCond .eq 10, [163]) :: (156, .iconst 1, []) :: (157, .iload 7, []) :: (159, .ishl, []) :: (160, .goto 4, [164]) :: zX8_laws_163
def zX8_laws_136 : aC := (136, .iload 7, []) :: (138, .istore 4, []) :: (140, .iload 9, []) :: (142, .iload 8, []) :: (144, .isub, []) :: (145, .istore 5, []) :: zX8_laws_147
def zX8_laws_121 : aC := (121, .iload 7, []) :: (123, .ifCond .eq 13, [136]) :: (126, .iload 9, []) :: (128, .iload 8, []) :: (130, .isub, []) :: (131, .iload 5, []) :: (133, .if_icmp .ge 14, [147]) :: zX8_laws_136
def zX8_laws_113 : aC := (113, .istore 9, []) :: (115, .iinc 10 1, []) :: (118, .goto (-64), [54]) :: zX8_laws_121
def zX8_laws_111 : aC := (111, .iload 9, []) :: zX8_laws_113
def zX8_laws_106 : aC := (106, .iload 11, []) :: (108, .goto 5, [113]) :: zX8_laws_111
def zX8_laws_92 : aC := (92, .istore 8, []) :: (94, .iload 10, []) :: (96, .ifCond .eq 10, [106]) :: (99, .iload 11, []) :: (101, .iload 9, []) :: (103, .if_icmp .le 8, [111]) :: zX8_laws_106
def zX8_laws_90 : aC := (90, .iload 8, []) :: zX8_laws_92
def zX8_laws_85 : aC := (85, .iload 11, []) :: (87, .goto 5, [92]) :: zX8_laws_90
def zX8_laws_54 : aC := (54, .iload 10, []) :: (56, .aload_n 0, []) :: (57, .getfield 22, [8, 8, 2, 933]) :: (60, .iconst 2, []) :: (61, .iaload, []) :: (62, .if_icmp .ge 59, [121]) :: (65, .aload_n 0, []) :: (66, .iload 10, []) :: (68, .invokevirtual 208, [1, 135, 2, 8, 1198, 1200, 55, 74]) :: (71, .istore 11, []) :: (73, .iload 10, []) :: (75, .ifCond .eq 10, [85]) :: (78, .iload 11, []) :: (80, .iload 8, []) :: (82, .if_icmp .ge 8, [90]) :: zX8_laws_85
def zX8_laws_33 : aC := (33, .iload 7, []) :: (35, .iconst 3, []) :: (36, .if_icmp .ge 137, [173]) :: (39, .aload_n 0, []) :: (40, .iload 7, []) :: (42, .putfield 181, [8, 23, 0, 948]) :: (45, .iconst 0, []) :: (46, .istore 8, []) :: (48, .iconst 0, []) :: (49, .istore 9, []) :: (51, .iconst 0, []) :: (52, .istore 10, []) :: zX8_laws_54
def zX8_laws_21 : aC := (21, .iconst 0, []) :: (22, .istore 4, []) :: (24, .iconst 0, []) :: (25, .istore 5, []) :: (27, .iconst 0, []) :: (28, .istore 6, []) :: (30, .iconst 0, []) :: (31, .istore 7, []) :: zX8_laws_33
def zX8_laws_0 : aC := (0, .aload_n 0, []) :: (1, .iload_n 1, []) :: (2, .iload_n 2, []) :: (3, .i2l, []) :: (4, .lconst 0, []) :: (5, .lconst 1, []) :: (6, .invokestatic 57, [2, 15, 3, 0, 1010, 1011, 0, 74]) :: (9, .bipush 6, []) :: (11, .invokevirtual 233, [1, 133, 4, 8, 1194, 1196, 54, 74]) :: (14, .istore_n 3, []) :: (15, .iload_n 3, []) :: (16, .ifCond .ge 5, [21]) :: (19, .iload_n 3, []) :: (20, .ireturn, []) :: zX8_laws_21
def zX3_ownersPrice_107 : aC := (107, .iload_n 1, []) :: (108, .ireturn, []) :: []
def zX3_ownersPrice_101 : aC := (101, .iinc 2 1, []) :: (104, .goto (-78), [26]) :: zX3_ownersPrice_107
def zX3_ownersPrice_73 : aC := (73, .aload_n 0, []) :: (74, .invokevirtual 123, [1, 141, 1, 3, 844, 735, 736, 70]) :: (77, .pop, []) :: (78, .aload_n 0, []) :: (79, .getfield 12, [3, 0, 2, 276]) :: (82, .invokevirtual 126, [1, 110, 1, 2, 845, 678, 679, 71]) :: (85, .istore_n 3, []) :: (86, .iload_n 3, []) :: (87, .aload_n 0, []) :: (88, .getfield 117, [3, 4, 0, 282]) :: (91, .if_icmp .le 10, [101]) :: (94, .aload_n 0, []) :: (95, .iload_n 3, []) :: (96, .putfield 117, [3, 4, 0, 282]) :: (99, .iload_n 2, []) :: (100, .istore_n 1, []) :: zX3_ownersPrice_101
def zX3_ownersPrice_51 : aC := (51, .iload_n 3, []) :: (52, .bipush 6, []) :: (54, .if_icmp .ge 19, [73]) :: (57, .aload_n 0, []) :: (58, .getfield 12, [3, 0, 2, 276]) :: (61, .getfield 122, [2, 0, 2, 245]) :: (64, .iload_n 3, []) :: (65, .iload_n 2, []) :: (66, .iastore, []) :: (67, .iinc 3 1, []) :: (70, .goto (-19), [51]) :: zX3_ownersPrice_73
def zX3_ownersPrice_26 : aC := (26, .iload_n 2, []) :: (27, .bipush 30, []) :: (29, .if_icmp .gt 78, [107]) :: (32, .aload_n 0, []) :: (33, .getfield 22, [3, 2, 2, 279]) :: (36, .iconst 0, []) :: (37, .aload_n 0, []) :: (38, .getfield 12, [3, 0, 2, 276]) :: (41, .getfield 28, [2, 5, 2, 252]) :: (44, .iconst 0, []) :: (45, .iconst 4, []) :: (46, .invokestatic 69, [9, 768, 405, 404, 75]) :: (49, .iconst 0, []) :: (50, .istore_n 3, []) :: zX3_ownersPrice_51
def zX3_ownersPrice_0 : aC := (0, .aload_n 0, []) :: (1, .getfield 12, [3, 0, 2, 276]) :: (4, .getfield 28, [2, 5, 2, 252]) :: (7, .iconst 0, []) :: (8, .aload_n 0, []) :: (9, .getfield 22, [3, 2, 2, 279]) :: (12, .iconst 0, []) :: (13, .iconst 4, []) :: (14, .invokestatic 69, [9, 768, 405, 404, 75]) :: (17, .iconst 0, []) :: (18, .istore_n 1, []) :: (19, .aload_n 0, []) :: (20, .iconst 0, []) :: (21, .putfield 117, [3, 4, 0, 282]) :: (24, .iconst 0, []) :: (25, .istore_n 2, []) :: zX3_ownersPrice_26
def zX7_owner_42 : aC := (42, .ireturn, []) :: []
def zX7_owner_35 : aC := (35, .aload_n 0, []) :: (36, .getfield 46, [7, 6, 2, 334]) :: (39, .getfield 289, [3, 4, 0, 283]) :: zX7_owner_42
def zX7_owner_17 : aC := (17, .aload_n 0, []) :: (18, .getfield 46, [7, 6, 2, 334]) :: (21, .invokevirtual 286, [1, 173, 1, 3, 840, 841, 842, 70]) :: (24, .istore 4, []) :: (26, .iload_n 2, []) :: (27, .ifCond .ne 8, [35]) :: (30, .iload 4, []) :: (32, .goto 10, [42]) :: zX7_owner_35
def zX7_owner_0 : aC := (0, .aload_n 0, []) :: (1, .iload_n 1, []) :: (2, .iload_n 2, []) :: (3, .iconst 2, []) :: (4, .invokestatic 175, [2, 9, 2, 0, 366, 367, 0, 66]) :: (7, .invokevirtual 231, [1, 129, 3, 7, 702, 704, 21, 66]) :: (10, .istore_n 3, []) :: (11, .iload_n 3, []) :: (12, .ifCond .eq 5, [17]) :: (15, .iload_n 3, []) :: (16, .ireturn, []) :: zX7_owner_17
def zX8_owner_113 : aC := (113, .ireturn, []) :: []
def zX8_owner_111 : aC := (111, .iload 5, []) :: zX8_owner_113
def zX8_owner_102 : aC := (102, .iload_n 2, []) :: (103, .ifCond .ne 8, [111]) :: (106, .iload 4, []) :: (108, .goto 5, [113]) :: zX8_owner_111
def zX8_owner_96 : aC := (96, .iinc 6 1, []) :: (99, .goto (-69), [30]) :: zX8_owner_102
def zX8_owner_71 : aC := (71, .aload_n 0, []) :: (72, .invokevirtual 237, [1, 143, 1, 8, 1218, 1220, 58, 74]) :: (75, .istore 7, []) :: (77, .aload_n 0, []) :: (78, .invokevirtual 190, [1, 114, 1, 8, 1157, 1159, 50, 74]) :: (81, .iload 5, []) :: (83, .if_icmp .le 13, [96]) :: (86, .iload 6, []) :: (88, .istore 4, []) :: (90, .aload_n 0, []) :: (91, .invokevirtual 190, [1, 114, 1, 8, 1157, 1159, 50, 74]) :: (94, .istore 5, []) :: zX8_owner_96
def zX8_owner_49 : aC := (49, .iload 7, []) :: (51, .bipush 6, []) :: (53, .if_icmp .ge 18, [71]) :: (56, .aload_n 0, []) :: (57, .getfield 44, [8, 22, 2, 947]) :: (60, .iload 7, []) :: (62, .iload 6, []) :: (64, .iastore, []) :: (65, .iinc 7 1, []) :: (68, .goto (-19), [49]) :: zX8_owner_71
def zX8_owner_30 : aC := (30, .iload 6, []) :: (32, .bipush 30, []) :: (34, .if_icmp .gt 68, [102]) :: (37, .aload_n 0, []) :: (38, .iload_n 1, []) :: (39, .iconst 1, []) :: (40, .bipush 6, []) :: (42, .invokevirtual 233, [1, 133, 4, 8, 1194, 1196, 54, 74]) :: (45, .istore_n 3, []) :: (46, .iconst 0, []) :: (47, .istore 7, []) :: zX8_owner_49
def zX8_owner_21 : aC := (21, .iconst 0, []) :: (22, .istore 4, []) :: (24, .iconst (-1), []) :: (25, .istore 5, []) :: (27, .iconst 0, []) :: (28, .istore 6, []) :: zX8_owner_30
def zX8_owner_0 : aC := (0, .aload_n 0, []) :: (1, .iload_n 1, []) :: (2, .iload_n 2, []) :: (3, .i2l, []) :: (4, .lconst 0, []) :: (5, .lconst 1, []) :: (6, .invokestatic 57, [2, 15, 3, 0, 1010, 1011, 0, 74]) :: (9, .bipush 6, []) :: (11, .invokevirtual 233, [1, 133, 4, 8, 1194, 1196, 54, 74]) :: (14, .istore_n 3, []) :: (15, .iload_n 3, []) :: (16, .ifCond .ge 5, [21]) :: (19, .iload_n 3, []) :: (20, .ireturn, []) :: zX8_owner_21
def zX7_owes_54 : aC := (54, .iload_n 3, []) :: (55, .ireturn, []) :: []
def zX7_owes_37 : aC := (37, .iload 4, []) :: (39, .iload_n 2, []) :: (40, .if_icmp .ge 14, [54]) :: (43, .iload_n 3, []) :: (44, .invokestatic 292, [2, 108, 1, 0, 850, 674, 0, 67]) :: (47, .istore_n 3, []) :: (48, .iinc 4 1, []) :: (51, .goto (-14), [37]) :: zX7_owes_54
def zX7_owes_24 : aC := (24, .aload_n 0, []) :: (25, .getfield 22, [7, 2, 2, 330]) :: (28, .getfield 184, [1, 5, 2, 120]) :: (31, .iload_n 1, []) :: (32, .iaload, []) :: (33, .istore_n 3, []) :: (34, .iconst 0, []) :: (35, .istore 4, []) :: zX7_owes_37
def zX7_owes_21 : aC := (21, .ldc 67, [0, -1000001, 369]) :: (23, .ireturn, []) :: zX7_owes_24
def zX7_owes_0 : aC := (0, .aload_n 0, []) :: (1, .getfield 22, [7, 2, 2, 330]) :: (4, .iload_n 1, []) :: (5, .invokevirtual 160, [1, 87, 2, 1, 599, 600, 601, 67]) :: (8, .ifCond .eq 13, [21]) :: (11, .iload_n 2, []) :: (12, .ifCond .lt 9, [21]) :: (15, .iload_n 2, []) :: (16, .bipush 60, []) :: (18, .if_icmp .le 6, [24]) :: zX7_owes_21
def zX8_owes_58 : aC := (58, .iload_n 3, []) :: (59, .ireturn, []) :: []
def zX8_owes_36 : aC := (36, .iload 4, []) :: (38, .iload_n 2, []) :: (39, .if_icmp .ge 19, [58]) :: (42, .iload_n 3, []) :: (43, .iload_n 3, []) :: (44, .bipush 10, []) :: (46, .idiv, []) :: (47, .iadd, []) :: (48, .invokestatic 228, [2, 119, 1, 0, 1174, 1175, 0, 74]) :: (51, .istore_n 3, []) :: (52, .iinc 4 1, []) :: (55, .goto (-19), [36]) :: zX8_owes_58
def zX8_owes_23 : aC := (23, .aload_n 0, []) :: (24, .getfield 22, [8, 8, 2, 933]) :: (27, .bipush 28, []) :: (29, .iload_n 1, []) :: (30, .iadd, []) :: (31, .iaload, []) :: (32, .istore_n 3, []) :: (33, .iconst 0, []) :: (34, .istore 4, []) :: zX8_owes_36
def zX8_owes_20 : aC := (20, .ldc 67, [0, -1000001, 1014]) :: (22, .ireturn, []) :: zX8_owes_23
def zX8_owes_0 : aC := (0, .aload_n 0, []) :: (1, .iload_n 1, []) :: (2, .invokevirtual 218, [1, 89, 2, 8, 1123, 1125, 46, 74]) :: (5, .ifCond .eq 15, [20]) :: (8, .iload_n 2, []) :: (9, .i2l, []) :: (10, .lconst 0, []) :: (11, .ldc2_w 251, [0, 60, 1263]) :: (14, .invokestatic 57, [2, 15, 3, 0, 1010, 1011, 0, 74]) :: (17, .ifCond .ne 6, [23]) :: zX8_owes_20
def zX7_image_24 : aC := (24, .aload_n 0, []) :: (25, .getfield 17, [7, 1, 2, 329]) :: (28, .iload_n 1, []) :: (29, .aaload, []) :: (30, .aload_n 0, []) :: (31, .getfield 22, [7, 2, 2, 330]) :: (34, .invokevirtual 130, [1, 63, 2, 1, 559, 560, 561, 67]) :: (37, .iconst 1, []) :: (38, .ireturn, []) :: []
def zX7_image_11 : aC := (11, .aload_n 0, []) :: (12, .getfield 22, [7, 2, 2, 330]) :: (15, .getfield 143, [1, 7, 3, 125]) :: (18, .ifCond .ne 6, [24]) :: (21, .ldc 147, [0, -1000002, 576]) :: (23, .ireturn, []) :: zX7_image_24
def zX7_image_0 : aC := (0, .iload_n 1, []) :: (1, .iconst 2, []) :: (2, .invokestatic 175, [2, 9, 2, 0, 366, 367, 0, 66]) :: (5, .ifCond .ne 6, [11]) :: (8, .ldc 67, [0, -1000001, 369]) :: (10, .ireturn, []) :: zX7_image_11
def zX8_image_23 : aC := (23, .aload_n 0, []) :: (24, .getfield 22, [8, 8, 2, 933]) :: (27, .iconst 0, []) :: (28, .aload_n 0, []) :: (29, .getfield 28, [8, 11, 2, 936]) :: (32, .bipush 44, []) :: (34, .iload_n 1, []) :: (35, .imul, []) :: (36, .invokestatic 174, [2, 75, 4, 0, 1099, 1100, 0, 74]) :: (39, .aload_n 0, []) :: (40, .getfield 31, [8, 12, 2, 937]) :: (43, .iload_n 1, []) :: (44, .iconst 1, []) :: (45, .bastore, []) :: (46, .iconst 1, []) :: (47, .ireturn, []) :: []
def zX8_image_13 : aC := (13, .aload_n 0, []) :: (14, .getfield 167, [8, 7, 3, 932]) :: (17, .ifCond .ne 6, [23]) :: (20, .ldc 214, [0, -1000002, 1110]) :: (22, .ireturn, []) :: zX8_image_23
def zX8_image_0 : aC := (0, .iload_n 1, []) :: (1, .i2l, []) :: (2, .lconst 0, []) :: (3, .lconst 1, []) :: (4, .invokestatic 57, [2, 15, 3, 0, 1010, 1011, 0, 74]) :: (7, .ifCond .ne 6, [13]) :: (10, .ldc 67, [0, -1000001, 1014]) :: (12, .ireturn, []) :: zX8_image_13
def zX7_restore_26 : aC := (26, .aload_n 0, []) :: (27, .getfield 22, [7, 2, 2, 330]) :: (30, .aload_n 0, []) :: (31, .getfield 17, [7, 1, 2, 329]) :: (34, .iload_n 1, []) :: (35, .aaload, []) :: (36, .invokevirtual 130, [1, 63, 2, 1, 559, 560, 561, 67]) :: (39, .aload_n 0, []) :: (40, .getfield 39, [7, 5, 2, 333]) :: (43, .invokevirtual 134, [1, 64, 1, 4, 564, 565, 566, 69]) :: (46, .iconst 1, []) :: (47, .ireturn, []) :: []
def zX7_restore_11 : aC := (11, .aload_n 0, []) :: (12, .getfield 17, [7, 1, 2, 329]) :: (15, .iload_n 1, []) :: (16, .aaload, []) :: (17, .getfield 143, [1, 7, 3, 125]) :: (20, .ifCond .ne 6, [26]) :: (23, .ldc 147, [0, -1000002, 576]) :: (25, .ireturn, []) :: zX7_restore_26
def zX7_restore_0 : aC := (0, .iload_n 1, []) :: (1, .iconst 2, []) :: (2, .invokestatic 175, [2, 9, 2, 0, 366, 367, 0, 66]) :: (5, .ifCond .ne 6, [11]) :: (8, .ldc 67, [0, -1000001, 369]) :: (10, .ireturn, []) :: zX7_restore_11
def zX8_restore_25 : aC := (25, .aload_n 0, []) :: (26, .getfield 28, [8, 11, 2, 936]) :: (29, .bipush 44, []) :: (31, .iload_n 1, []) :: (32, .imul, []) :: (33, .aload_n 0, []) :: (34, .getfield 22, [8, 8, 2, 933]) :: (37, .iconst 0, []) :: (38, .invokestatic 174, [2, 75, 4, 0, 1099, 1100, 0, 74]) :: (41, .aload_n 0, []) :: (42, .iconst 0, []) :: (43, .putfield 171, [8, 9, 0, 934]) :: (46, .iconst 1, []) :: (47, .ireturn, []) :: []
def zX8_restore_13 : aC := (13, .aload_n 0, []) :: (14, .getfield 31, [8, 12, 2, 937]) :: (17, .iload_n 1, []) :: (18, .baload, []) :: (19, .ifCond .ne 6, [25]) :: (22, .ldc 214, [0, -1000002, 1110]) :: (24, .ireturn, []) :: zX8_restore_25
def zX8_restore_0 : aC := (0, .iload_n 1, []) :: (1, .i2l, []) :: (2, .lconst 0, []) :: (3, .lconst 1, []) :: (4, .invokestatic 57, [2, 15, 3, 0, 1010, 1011, 0, 74]) :: (7, .ifCond .ne 6, [13]) :: (10, .ldc 67, [0, -1000001, 1014]) :: (12, .ireturn, []) :: zX8_restore_13
def zX7_kind_25 : aC := (25, .ireturn, []) :: []
def zX7_kind_23 : aC := (23, .ldc 67, [0, -1000001, 369]) :: zX7_kind_25
def zX7_kind_0 : aC := (0, .aload_n 0, []) :: (1, .getfield 22, [7, 2, 2, 330]) :: (4, .iload_n 1, []) :: (5, .invokevirtual 160, [1, 87, 2, 1, 599, 600, 601, 67]) :: (8, .ifCond .eq 15, [23]) :: (11, .aload_n 0, []) :: (12, .getfield 22, [7, 2, 2, 330]) :: (15, .getfield 295, [1, 1, 2, 106]) :: (18, .iload_n 1, []) :: (19, .iaload, []) :: (20, .goto 5, [25]) :: zX7_kind_23
def zX8_kind_22 : aC := (22, .ireturn, []) :: []
def zX8_kind_20 : aC := (20, .ldc 67, [0, -1000001, 1014]) :: zX8_kind_22
def zX8_kind_0 : aC := (0, .aload_n 0, []) :: (1, .iload_n 1, []) :: (2, .invokevirtual 218, [1, 89, 2, 8, 1123, 1125, 46, 74]) :: (5, .ifCond .eq 15, [20]) :: (8, .aload_n 0, []) :: (9, .getfield 22, [8, 8, 2, 933]) :: (12, .bipush 12, []) :: (14, .iload_n 1, []) :: (15, .iadd, []) :: (16, .iaload, []) :: (17, .goto 5, [22]) :: zX8_kind_20
def zX0_isKindOf_37 : aC := (37, .iconst 0, []) :: (38, .ireturn, []) :: []
def zX0_isKindOf_25 : aC := (25, .getstatic 15, [0, 870]) :: (28, .iload_n 2, []) :: (29, .iaload, []) :: (30, .istore_n 2, []) :: (31, .iinc 3 1, []) :: (34, .goto (-30), [4]) :: zX0_isKindOf_37
def zX0_isKindOf_4 : aC := (4, .iload_n 3, []) :: (5, .getstatic 15, [0, 870]) :: (8, .arraylength, []) :: (9, .if_icmp .ge 28, [37]) :: (12, .iload_n 2, []) :: (13, .ldc 18, [0, -1000000, 872]) :: (15, .if_icmp .eq 22, [37]) :: (18, .iload_n 2, []) :: (19, .iload_n 1, []) :: (20, .if_icmp .ne 5, [25]) :: (23, .iconst 1, []) :: (24, .ireturn, []) :: zX0_isKindOf_25
def zX0_isKindOf_0 : aC := (0, .iload_n 0, []) :: (1, .istore_n 2, []) :: (2, .iconst 0, []) :: (3, .istore_n 3, []) :: zX0_isKindOf_4
def zX7_as_45 : aC := (45, .aload_n 0, []) :: (46, .iload_n 1, []) :: (47, .invokevirtual 76, [1, 13, 2, 7, 379, 381, 1, 66]) :: (50, .ireturn, []) :: []
def zX7_as_23 : aC := (23, .aload_n 0, []) :: (24, .getfield 22, [7, 2, 2, 330]) :: (27, .getfield 295, [1, 1, 2, 106]) :: (30, .iload_n 1, []) :: (31, .iaload, []) :: (32, .iload_n 2, []) :: (33, .invokestatic 298, [2, 184, 2, 0, 867, 868, 0, 72]) :: (36, .ifCond .ne 9, [45]) :: (39, .aload_n 0, []) :: (40, .iconst 3, []) :: (41, .invokevirtual 68, [1, 11, 2, 7, 370, 372, 0, 66]) :: (44, .ireturn, []) :: zX7_as_45
def zX7_as_20 : aC := (20, .ldc 67, [0, -1000001, 369]) :: (22, .ireturn, []) :: zX7_as_23
def zX7_as_0 : aC := (0, .aload_n 0, []) :: (1, .getfield 22, [7, 2, 2, 330]) :: (4, .iload_n 1, []) :: (5, .invokevirtual 160, [1, 87, 2, 1, 599, 600, 601, 67]) :: (8, .ifCond .eq 12, [20]) :: (11, .iload_n 2, []) :: (12, .ifCond .lt 8, [20]) :: (15, .iload_n 2, []) :: (16, .iconst 5, []) :: (17, .if_icmp .le 6, [23]) :: zX7_as_20
def zX8_isOf_39 : aC := (39, .ireturn, []) :: []
def zX8_isOf_38 : aC := (38, .iconst 0, []) :: zX8_isOf_39
def zX8_isOf_34 : aC := (34, .iconst 1, []) :: (35, .goto 4, [39]) :: zX8_isOf_38
def zX8_isOf_24 : aC := (24, .iload_n 1, []) :: (25, .iconst 4, []) :: (26, .if_icmp .ne 12, [38]) :: (29, .iload_n 0, []) :: (30, .iconst 5, []) :: (31, .if_icmp .ne 7, [38]) :: zX8_isOf_34
def zX8_isOf_0 : aC := (0, .iload_n 1, []) :: (1, .ifCond .eq 33, [34]) :: (4, .iload_n 0, []) :: (5, .iload_n 1, []) :: (6, .if_icmp .eq 28, [34]) :: (9, .iload_n 1, []) :: (10, .iconst 1, []) :: (11, .if_icmp .ne 13, [24]) :: (14, .iload_n 0, []) :: (15, .iconst 2, []) :: (16, .if_icmp .eq 18, [34]) :: (19, .iload_n 0, []) :: (20, .iconst 3, []) :: (21, .if_icmp .eq 13, [34]) :: zX8_isOf_24
def zX8_as_52 : aC := (52, .ireturn, []) :: []
def zX8_as_47 : aC := (47, .aload_n 0, []) :: (48, .iconst 3, []) :: (49, .invokevirtual 68, [1, 17, 2, 8, 1015, 1017, 34, 74]) :: zX8_as_52
def zX8_as_23 : aC := (23, .aload_n 0, []) :: (24, .getfield 22, [8, 8, 2, 933]) :: (27, .bipush 12, []) :: (29, .iload_n 1, []) :: (30, .iadd, []) :: (31, .iaload, []) :: (32, .iload_n 2, []) :: (33, .invokestatic 253, [2, 186, 2, 0, 1280, 1281, 0, 74]) :: (36, .ifCond .eq 11, [47]) :: (39, .aload_n 0, []) :: (40, .iload_n 1, []) :: (41, .invokevirtual 72, [1, 18, 2, 8, 1020, 1022, 35, 74]) :: (44, .goto 8, [52]) :: zX8_as_47
def zX8_as_20 : aC := (20, .ldc 67, [0, -1000001, 1014]) :: (22, .ireturn, []) :: zX8_as_23
def zX8_as_0 : aC := (0, .aload_n 0, []) :: (1, .iload_n 1, []) :: (2, .invokevirtual 218, [1, 89, 2, 8, 1123, 1125, 46, 74]) :: (5, .ifCond .eq 15, [20]) :: (8, .iload_n 2, []) :: (9, .i2l, []) :: (10, .lconst 0, []) :: (11, .ldc2_w 221, [0, 5, 1131]) :: (14, .invokestatic 57, [2, 15, 3, 0, 1010, 1011, 0, 74]) :: (17, .ifCond .ne 6, [23]) :: zX8_as_20
def zX0_note_29 : aC := (29, .return_, []) :: []
def zX0_note_0 : aC := (0, .aload_n 0, []) :: (1, .getfield 19, [0, 1, 0, 303]) :: (4, .bipush 16, []) :: (6, .if_icmp .ge 23, [29]) :: (9, .aload_n 0, []) :: (10, .getfield 11, [0, 0, 2, 301]) :: (13, .aload_n 0, []) :: (14, .getfield 19, [0, 1, 0, 303]) :: (17, .iload_n 1, []) :: (18, .iastore, []) :: (19, .aload_n 0, []) :: (20, .dup, []) :: (21, .getfield 19, [0, 1, 0, 303]) :: (24, .iconst 1, []) :: (25, .iadd, []) :: (26, .putfield 19, [0, 1, 0, 303]) :: zX0_note_29
def zX0_markAs0_162 : aC := (162, .aload_n 0, []) :: (163, .bipush 20, []) :: (165, .invokevirtual 35, [1, 188, 2, 0, 885, 887, 31, 72]) :: (168, .iload_n 2, []) :: (169, .ireturn, []) :: []
def zX0_markAs0_150 : aC := (150, .aload_n 0, []) :: (151, .aload_n 1, []) :: (152, .iload_n 2, []) :: (153, .iconst 4, []) :: (154, .iload 4, []) :: (156, .iconst 1, []) :: (157, .iadd, []) :: (158, .invokevirtual 32, []) :: (161, .ireturn, []) :: zX0_markAs0_162
def zX0_markAs0_111 : aC := (111, .aload_n 0, []) :: (112, .bipush 23, []) :: (114, .invokevirtual 35, [1, 188, 2, 0, 885, 887, 31, 72]) :: (117, .aload_n 0, []) :: (118, .aload_n 1, []) :: (119, .iload_n 2, []) :: (120, .iconst 0, []) :: (121, .iload 4, []) :: (123, .iconst 1, []) :: (124, .iadd, []) :: (125, .invokevirtual 32, []) :: (128, .istore 5, []) :: (130, .iload 5, []) :: (132, .aload_n 0, []) :: (133, .aload_n 1, []) :: (134, .iload_n 2, []) :: (135, .aload_n 1, []) :: (136, .getfield 23, [1, 1, 2, 104]) :: (139, .iload_n 2, []) :: (140, .iaload, []) :: (141, .iload 4, []) :: (143, .iconst 1, []) :: (144, .iadd, []) :: (145, .invokevirtual 28, []) :: (148, .isub, []) :: (149, .ireturn, []) :: zX0_markAs0_150
def zX0_markAs0_89 : aC := (89, .aload_n 0, []) :: (90, .bipush 22, []) :: (92, .invokevirtual 35, [1, 188, 2, 0, 885, 887, 31, 72]) :: (95, .aload_n 0, []) :: (96, .aload_n 1, []) :: (97, .iload_n 2, []) :: (98, .iconst 1, []) :: (99, .iload 4, []) :: (101, .iconst 1, []) :: (102, .iadd, []) :: (103, .invokevirtual 32, []) :: (106, .sipush 1000, []) :: (109, .isub, []) :: (110, .ireturn, []) :: zX0_markAs0_111
def zX0_markAs0_69 : aC := (69, .aload_n 0, []) :: (70, .bipush 24, []) :: (72, .invokevirtual 35, [1, 188, 2, 0, 885, 887, 31, 72]) :: (75, .iconst 2, []) :: (76, .aload_n 0, []) :: (77, .aload_n 1, []) :: (78, .iload_n 2, []) :: (79, .iconst 1, []) :: (80, .iload 4, []) :: (82, .iconst 1, []) :: (83, .iadd, []) :: (84, .invokevirtual 32, []) :: (87, .imul, []) :: (88, .ireturn, []) :: zX0_markAs0_89
def zX0_markAs0_44 : aC := (44, .aload_n 0, []) :: (45, .bipush 21, []) :: (47, .invokevirtual 35, [1, 188, 2, 0, 885, 887, 31, 72]) :: (50, .aload_n 0, []) :: (51, .aload_n 1, []) :: (52, .iload_n 2, []) :: (53, .iconst 0, []) :: (54, .iload 4, []) :: (56, .iconst 1, []) :: (57, .iadd, []) :: (58, .invokevirtual 32, []) :: (61, .aload_n 1, []) :: (62, .getfield 42, [1, 5, 2, 118]) :: (65, .iload_n 2, []) :: (66, .iaload, []) :: (67, .iadd, []) :: (68, .ireturn, []) :: zX0_markAs0_69
def zX0_markAs0_9 : aC := (9, .iload_n 3, []) :: (10, .tableswitch 152 1 5 #[34, 59, 79, 101, 140], [162, 44, 69, 89, 111, 150]) :: zX0_markAs0_44
def zX0_markAs0_0 : aC := (0, .iload 4, []) :: (2, .bipush 20, []) :: (4, .if_icmp .le 5, [9]) :: (7, .iconst 0, []) :: (8, .ireturn, []) :: zX0_markAs0_9
def zX0_sizeAs0_155 : aC := (155, .aload_n 0, []) :: (156, .bipush 10, []) :: (158, .invokevirtual 35, [1, 188, 2, 0, 885, 887, 31, 72]) :: (161, .aload_n 1, []) :: (162, .getfield 39, [1, 4, 2, 114]) :: (165, .iload_n 2, []) :: (166, .iaload, []) :: (167, .ireturn, []) :: []
def zX0_sizeAs0_143 : aC := (143, .aload_n 0, []) :: (144, .aload_n 1, []) :: (145, .iload_n 2, []) :: (146, .iconst 1, []) :: (147, .iload 4, []) :: (149, .iconst 1, []) :: (150, .iadd, []) :: (151, .invokevirtual 28, []) :: (154, .ireturn, []) :: zX0_sizeAs0_155
def zX0_sizeAs0_123 : aC := (123, .aload_n 0, []) :: (124, .bipush 14, []) :: (126, .invokevirtual 35, [1, 188, 2, 0, 885, 887, 31, 72]) :: (129, .iconst 2, []) :: (130, .aload_n 0, []) :: (131, .aload_n 1, []) :: (132, .iload_n 2, []) :: (133, .iconst 4, []) :: (134, .iload 4, []) :: (136, .iconst 1, []) :: (137, .iadd, []) :: (138, .invokevirtual 28, []) :: (141, .imul, []) :: (142, .ireturn, []) :: zX0_sizeAs0_143
def zX0_sizeAs0_102 : aC := (102, .aload_n 0, []) :: (103, .bipush 13, []) :: (105, .invokevirtual 35, [1, 188, 2, 0, 885, 887, 31, 72]) :: (108, .aload_n 0, []) :: (109, .aload_n 1, []) :: (110, .iload_n 2, []) :: (111, .iconst 0, []) :: (112, .iload 4, []) :: (114, .iconst 1, []) :: (115, .iadd, []) :: (116, .invokevirtual 28, []) :: (119, .bipush 100, []) :: (121, .isub, []) :: (122, .ireturn, []) :: zX0_sizeAs0_123
def zX0_sizeAs0_83 : aC := (83, .aload_n 0, []) :: (84, .bipush 12, []) :: (86, .invokevirtual 35, [1, 188, 2, 0, 885, 887, 31, 72]) :: (89, .aload_n 0, []) :: (90, .aload_n 1, []) :: (91, .iload_n 2, []) :: (92, .iconst 1, []) :: (93, .iload 4, []) :: (95, .iconst 1, []) :: (96, .iadd, []) :: (97, .invokevirtual 28, []) :: (100, .ineg, []) :: (101, .ireturn, []) :: zX0_sizeAs0_102
def zX0_sizeAs0_44 : aC := (44, .aload_n 0, []) :: (45, .bipush 11, []) :: (47, .invokevirtual 35, [1, 188, 2, 0, 885, 887, 31, 72]) :: (50, .aload_n 0, []) :: (51, .aload_n 1, []) :: (52, .iload_n 2, []) :: (53, .iconst 0, []) :: (54, .iload 4, []) :: (56, .iconst 1, []) :: (57, .iadd, []) :: (58, .invokevirtual 28, []) :: (61, .istore 5, []) :: (63, .iload 5, []) :: (65, .aload_n 0, []) :: (66, .aload_n 1, []) :: (67, .iload_n 2, []) :: (68, .aload_n 1, []) :: (69, .getfield 23, [1, 1, 2, 104]) :: (72, .iload_n 2, []) :: (73, .iaload, []) :: (74, .iload 4, []) :: (76, .iconst 1, []) :: (77, .iadd, []) :: (78, .invokevirtual 32, []) :: (81, .iadd, []) :: (82, .ireturn, []) :: zX0_sizeAs0_83
def zX0_sizeAs0_9 : aC := (9, .iload_n 3, []) :: (10, .tableswitch 145 1 5 #[34, 73, 133, 92, 113], [155, 44, 83, 143, 102, 123]) :: zX0_sizeAs0_44
def zX0_sizeAs0_0 : aC := (0, .iload 4, []) :: (2, .bipush 20, []) :: (4, .if_icmp .le 5, [9]) :: (7, .iconst 0, []) :: (8, .ireturn, []) :: zX0_sizeAs0_9
def zX0_markAs1_162 : aC := (162, .aload_n 0, []) :: (163, .bipush 20, []) :: (165, .invokevirtual 35, [1, 188, 2, 0, 885, 887, 31, 72]) :: (168, .iload_n 2, []) :: (169, .ireturn, []) :: []
def zX0_markAs1_150 : aC := (150, .aload_n 0, []) :: (151, .aload_n 1, []) :: (152, .iload_n 2, []) :: (153, .iconst 4, []) :: (154, .iload 4, []) :: (156, .iconst 1, []) :: (157, .iadd, []) :: (158, .invokevirtual 32, [1, 189, 5, 0, 889, 891, 32, 72]) :: (161, .ireturn, []) :: zX0_markAs1_162
def zX0_markAs1_111 : aC := (111, .aload_n 0, []) :: (112, .bipush 23, []) :: (114, .invokevirtual 35, [1, 188, 2, 0, 885, 887, 31, 72]) :: (117, .aload_n 0, []) :: (118, .aload_n 1, []) :: (119, .iload_n 2, []) :: (120, .iconst 0, []) :: (121, .iload 4, []) :: (123, .iconst 1, []) :: (124, .iadd, []) :: (125, .invokevirtual 32, [1, 189, 5, 0, 889, 891, 32, 72]) :: (128, .istore 5, []) :: (130, .iload 5, []) :: (132, .aload_n 0, []) :: (133, .aload_n 1, []) :: (134, .iload_n 2, []) :: (135, .aload_n 1, []) :: (136, .getfield 23, [1, 1, 2, 104]) :: (139, .iload_n 2, []) :: (140, .iaload, []) :: (141, .iload 4, []) :: (143, .iconst 1, []) :: (144, .iadd, []) :: (145, .invokevirtual 28, [1, 190, 5, 0, 881, 883, 30, 72]) :: (148, .isub, []) :: (149, .ireturn, []) :: zX0_markAs1_150
def zX0_markAs1_89 : aC := (89, .aload_n 0, []) :: (90, .bipush 22, []) :: (92, .invokevirtual 35, [1, 188, 2, 0, 885, 887, 31, 72]) :: (95, .aload_n 0, []) :: (96, .aload_n 1, []) :: (97, .iload_n 2, []) :: (98, .iconst 1, []) :: (99, .iload 4, []) :: (101, .iconst 1, []) :: (102, .iadd, []) :: (103, .invokevirtual 32, [1, 189, 5, 0, 889, 891, 32, 72]) :: (106, .sipush 1000, []) :: (109, .isub, []) :: (110, .ireturn, []) :: zX0_markAs1_111
def zX0_markAs1_69 : aC := (69, .aload_n 0, []) :: (70, .bipush 24, []) :: (72, .invokevirtual 35, [1, 188, 2, 0, 885, 887, 31, 72]) :: (75, .iconst 2, []) :: (76, .aload_n 0, []) :: (77, .aload_n 1, []) :: (78, .iload_n 2, []) :: (79, .iconst 1, []) :: (80, .iload 4, []) :: (82, .iconst 1, []) :: (83, .iadd, []) :: (84, .invokevirtual 32, [1, 189, 5, 0, 889, 891, 32, 72]) :: (87, .imul, []) :: (88, .ireturn, []) :: zX0_markAs1_89
def zX0_markAs1_44 : aC := (44, .aload_n 0, []) :: (45, .bipush 21, []) :: (47, .invokevirtual 35, [1, 188, 2, 0, 885, 887, 31, 72]) :: (50, .aload_n 0, []) :: (51, .aload_n 1, []) :: (52, .iload_n 2, []) :: (53, .iconst 0, []) :: (54, .iload 4, []) :: (56, .iconst 1, []) :: (57, .iadd, []) :: (58, .invokevirtual 32, [1, 189, 5, 0, 889, 891, 32, 72]) :: (61, .aload_n 1, []) :: (62, .getfield 42, [1, 5, 2, 118]) :: (65, .iload_n 2, []) :: (66, .iaload, []) :: (67, .iadd, []) :: (68, .ireturn, []) :: zX0_markAs1_69
def zX0_markAs1_9 : aC := (9, .iload_n 3, []) :: (10, .tableswitch 152 1 5 #[34, 59, 79, 101, 140], [162, 44, 69, 89, 111, 150]) :: zX0_markAs1_44
def zX0_markAs1_0 : aC := (0, .iload 4, []) :: (2, .bipush 20, []) :: (4, .if_icmp .le 5, [9]) :: (7, .iconst 0, []) :: (8, .ireturn, []) :: zX0_markAs1_9
def zX0_sizeAs1_155 : aC := (155, .aload_n 0, []) :: (156, .bipush 10, []) :: (158, .invokevirtual 35, [1, 188, 2, 0, 885, 887, 31, 72]) :: (161, .aload_n 1, []) :: (162, .getfield 39, [1, 4, 2, 114]) :: (165, .iload_n 2, []) :: (166, .iaload, []) :: (167, .ireturn, []) :: []
def zX0_sizeAs1_143 : aC := (143, .aload_n 0, []) :: (144, .aload_n 1, []) :: (145, .iload_n 2, []) :: (146, .iconst 1, []) :: (147, .iload 4, []) :: (149, .iconst 1, []) :: (150, .iadd, []) :: (151, .invokevirtual 28, [1, 190, 5, 0, 881, 883, 30, 72]) :: (154, .ireturn, []) :: zX0_sizeAs1_155
def zX0_sizeAs1_123 : aC := (123, .aload_n 0, []) :: (124, .bipush 14, []) :: (126, .invokevirtual 35, [1, 188, 2, 0, 885, 887, 31, 72]) :: (129, .iconst 2, []) :: (130, .aload_n 0, []) :: (131, .aload_n 1, []) :: (132, .iload_n 2, []) :: (133, .iconst 4, []) :: (134, .iload 4, []) :: (136, .iconst 1, []) :: (137, .iadd, []) :: (138, .invokevirtual 28, [1, 190, 5, 0, 881, 883, 30, 72]) :: (141, .imul, []) :: (142, .ireturn, []) :: zX0_sizeAs1_143
def zX0_sizeAs1_102 : aC := (102, .aload_n 0, []) :: (103, .bipush 13, []) :: (105, .invokevirtual 35, [1, 188, 2, 0, 885, 887, 31, 72]) :: (108, .aload_n 0, []) :: (109, .aload_n 1, []) :: (110, .iload_n 2, []) :: (111, .iconst 0, []) :: (112, .iload 4, []) :: (114, .iconst 1, []) :: (115, .iadd, []) :: (116, .invokevirtual 28, [1, 190, 5, 0, 881, 883, 30, 72]) :: (119, .bipush 100, []) :: (121, .isub, []) :: (122, .ireturn, []) :: zX0_sizeAs1_123
def zX0_sizeAs1_83 : aC := (83, .aload_n 0, []) :: (84, .bipush 12, []) :: (86, .invokevirtual 35, [1, 188, 2, 0, 885, 887, 31, 72]) :: (89, .aload_n 0, []) :: (90, .aload_n 1, []) :: (91, .iload_n 2, []) :: (92, .iconst 1, []) :: (93, .iload 4, []) :: (95, .iconst 1, []) :: (96, .iadd, []) :: (97, .invokevirtual 28, [1, 190, 5, 0, 881, 883, 30, 72]) :: (100, .ineg, []) :: (101, .ireturn, []) :: zX0_sizeAs1_102
def zX0_sizeAs1_44 : aC := (44, .aload_n 0, []) :: (45, .bipush 11, []) :: (47, .invokevirtual 35, [1, 188, 2, 0, 885, 887, 31, 72]) :: (50, .aload_n 0, []) :: (51, .aload_n 1, []) :: (52, .iload_n 2, []) :: (53, .iconst 0, []) :: (54, .iload 4, []) :: (56, .iconst 1, []) :: (57, .iadd, []) :: (58, .invokevirtual 28, [1, 190, 5, 0, 881, 883, 30, 72]) :: (61, .istore 5, []) :: (63, .iload 5, []) :: (65, .aload_n 0, []) :: (66, .aload_n 1, []) :: (67, .iload_n 2, []) :: (68, .aload_n 1, []) :: (69, .getfield 23, [1, 1, 2, 104]) :: (72, .iload_n 2, []) :: (73, .iaload, []) :: (74, .iload 4, []) :: (76, .iconst 1, []) :: (77, .iadd, []) :: (78, .invokevirtual 32, [1, 189, 5, 0, 889, 891, 32, 72]) :: (81, .iadd, []) :: (82, .ireturn, []) :: zX0_sizeAs1_83
def zX0_sizeAs1_9 : aC := (9, .iload_n 3, []) :: (10, .tableswitch 145 1 5 #[34, 73, 133, 92, 113], [155, 44, 83, 143, 102, 123]) :: zX0_sizeAs1_44
def zX0_sizeAs1_0 : aC := (0, .iload 4, []) :: (2, .bipush 20, []) :: (4, .if_icmp .le 5, [9]) :: (7, .iconst 0, []) :: (8, .ireturn, []) :: zX0_sizeAs1_9
def zX0_markAs2_162 : aC := (162, .aload_n 0, []) :: (163, .bipush 20, []) :: (165, .invokevirtual 35, [1, 188, 2, 0, 885, 887, 31, 72]) :: (168, .iload_n 2, []) :: (169, .ireturn, []) :: []
def zX0_markAs2_150 : aC := (150, .aload_n 0, []) :: (151, .aload_n 1, []) :: (152, .iload_n 2, []) :: (153, .iconst 4, []) :: (154, .iload 4, []) :: (156, .iconst 1, []) :: (157, .iadd, []) :: (158, .invokevirtual 32, [1, 191, 5, 0, 889, 891, 32, 72]) :: (161, .ireturn, []) :: zX0_markAs2_162
def zX0_markAs2_111 : aC := (111, .aload_n 0, []) :: (112, .bipush 23, []) :: (114, .invokevirtual 35, [1, 188, 2, 0, 885, 887, 31, 72]) :: (117, .aload_n 0, []) :: (118, .aload_n 1, []) :: (119, .iload_n 2, []) :: (120, .iconst 0, []) :: (121, .iload 4, []) :: (123, .iconst 1, []) :: (124, .iadd, []) :: (125, .invokevirtual 32, [1, 191, 5, 0, 889, 891, 32, 72]) :: (128, .istore 5, []) :: (130, .iload 5, []) :: (132, .aload_n 0, []) :: (133, .aload_n 1, []) :: (134, .iload_n 2, []) :: (135, .aload_n 1, []) :: (136, .getfield 23, [1, 1, 2, 104]) :: (139, .iload_n 2, []) :: (140, .iaload, []) :: (141, .iload 4, []) :: (143, .iconst 1, []) :: (144, .iadd, []) :: (145, .invokevirtual 28, [1, 192, 5, 0, 881, 883, 30, 72]) :: (148, .isub, []) :: (149, .ireturn, []) :: zX0_markAs2_150
def zX0_markAs2_89 : aC := (89, .aload_n 0, []) :: (90, .bipush 22, []) :: (92, .invokevirtual 35, [1, 188, 2, 0, 885, 887, 31, 72]) :: (95, .aload_n 0, []) :: (96, .aload_n 1, []) :: (97, .iload_n 2, []) :: (98, .iconst 1, []) :: (99, .iload 4, []) :: (101, .iconst 1, []) :: (102, .iadd, []) :: (103, .invokevirtual 32, [1, 191, 5, 0, 889, 891, 32, 72]) :: (106, .sipush 1000, []) :: (109, .isub, []) :: (110, .ireturn, []) :: zX0_markAs2_111
def zX0_markAs2_69 : aC := (69, .aload_n 0, []) :: (70, .bipush 24, []) :: (72, .invokevirtual 35, [1, 188, 2, 0, 885, 887, 31, 72]) :: (75, .iconst 2, []) :: (76, .aload_n 0, []) :: (77, .aload_n 1, []) :: (78, .iload_n 2, []) :: (79, .iconst 1, []) :: (80, .iload 4, []) :: (82, .iconst 1, []) :: (83, .iadd, []) :: (84, .invokevirtual 32, [1, 191, 5, 0, 889, 891, 32, 72]) :: (87, .imul, []) :: (88, .ireturn, []) :: zX0_markAs2_89
def zX0_markAs2_44 : aC := (44, .aload_n 0, []) :: (45, .bipush 21, []) :: (47, .invokevirtual 35, [1, 188, 2, 0, 885, 887, 31, 72]) :: (50, .aload_n 0, []) :: (51, .aload_n 1, []) :: (52, .iload_n 2, []) :: (53, .iconst 0, []) :: (54, .iload 4, []) :: (56, .iconst 1, []) :: (57, .iadd, []) :: (58, .invokevirtual 32, [1, 191, 5, 0, 889, 891, 32, 72]) :: (61, .aload_n 1, []) :: (62, .getfield 42, [1, 5, 2, 118]) :: (65, .iload_n 2, []) :: (66, .iaload, []) :: (67, .iadd, []) :: (68, .ireturn, []) :: zX0_markAs2_69
def zX0_markAs2_9 : aC := (9, .iload_n 3, []) :: (10, .tableswitch 152 1 5 #[34, 59, 79, 101, 140], [162, 44, 69, 89, 111, 150]) :: zX0_markAs2_44
def zX0_markAs2_0 : aC := (0, .iload 4, []) :: (2, .bipush 20, []) :: (4, .if_icmp .le 5, [9]) :: (7, .iconst 0, []) :: (8, .ireturn, []) :: zX0_markAs2_9
def zX0_sizeAs2_155 : aC := (155, .aload_n 0, []) :: (156, .bipush 10, []) :: (158, .invokevirtual 35, [1, 188, 2, 0, 885, 887, 31, 72]) :: (161, .aload_n 1, []) :: (162, .getfield 39, [1, 4, 2, 114]) :: (165, .iload_n 2, []) :: (166, .iaload, []) :: (167, .ireturn, []) :: []
def zX0_sizeAs2_143 : aC := (143, .aload_n 0, []) :: (144, .aload_n 1, []) :: (145, .iload_n 2, []) :: (146, .iconst 1, []) :: (147, .iload 4, []) :: (149, .iconst 1, []) :: (150, .iadd, []) :: (151, .invokevirtual 28, [1, 192, 5, 0, 881, 883, 30, 72]) :: (154, .ireturn, []) :: zX0_sizeAs2_155
def zX0_sizeAs2_123 : aC := (123, .aload_n 0, []) :: (124, .bipush 14, []) :: (126, .invokevirtual 35, [1, 188, 2, 0, 885, 887, 31, 72]) :: (129, .iconst 2, []) :: (130, .aload_n 0, []) :: (131, .aload_n 1, []) :: (132, .iload_n 2, []) :: (133, .iconst 4, []) :: (134, .iload 4, []) :: (136, .iconst 1, []) :: (137, .iadd, []) :: (138, .invokevirtual 28, [1, 192, 5, 0, 881, 883, 30, 72]) :: (141, .imul, []) :: (142, .ireturn, []) :: zX0_sizeAs2_143
def zX0_sizeAs2_102 : aC := (102, .aload_n 0, []) :: (103, .bipush 13, []) :: (105, .invokevirtual 35, [1, 188, 2, 0, 885, 887, 31, 72]) :: (108, .aload_n 0, []) :: (109, .aload_n 1, []) :: (110, .iload_n 2, []) :: (111, .iconst 0, []) :: (112, .iload 4, []) :: (114, .iconst 1, []) :: (115, .iadd, []) :: (116, .invokevirtual 28, [1, 192, 5, 0, 881, 883, 30, 72]) :: (119, .bipush 100, []) :: (121, .isub, []) :: (122, .ireturn, []) :: zX0_sizeAs2_123
def zX0_sizeAs2_83 : aC := (83, .aload_n 0, []) :: (84, .bipush 12, []) :: (86, .invokevirtual 35, [1, 188, 2, 0, 885, 887, 31, 72]) :: (89, .aload_n 0, []) :: (90, .aload_n 1, []) :: (91, .iload_n 2, []) :: (92, .iconst 1, []) :: (93, .iload 4, []) :: (95, .iconst 1, []) :: (96, .iadd, []) :: (97, .invokevirtual 28, [1, 192, 5, 0, 881, 883, 30, 72]) :: (100, .ineg, []) :: (101, .ireturn, []) :: zX0_sizeAs2_102
def zX0_sizeAs2_44 : aC := (44, .aload_n 0, []) :: (45, .bipush 11, []) :: (47, .invokevirtual 35, [1, 188, 2, 0, 885, 887, 31, 72]) :: (50, .aload_n 0, []) :: (51, .aload_n 1, []) :: (52, .iload_n 2, []) :: (53, .iconst 0, []) :: (54, .iload 4, []) :: (56, .iconst 1, []) :: (57, .iadd, []) :: (58, .invokevirtual 28, [1, 192, 5, 0, 881, 883, 30, 72]) :: (61, .istore 5, []) :: (63, .iload 5, []) :: (65, .aload_n 0, []) :: (66, .aload_n 1, []) :: (67, .iload_n 2, []) :: (68, .aload_n 1, []) :: (69, .getfield 23, [1, 1, 2, 104]) :: (72, .iload_n 2, []) :: (73, .iaload, []) :: (74, .iload 4, []) :: (76, .iconst 1, []) :: (77, .iadd, []) :: (78, .invokevirtual 32, [1, 191, 5, 0, 889, 891, 32, 72]) :: (81, .iadd, []) :: (82, .ireturn, []) :: zX0_sizeAs2_83
def zX0_sizeAs2_9 : aC := (9, .iload_n 3, []) :: (10, .tableswitch 145 1 5 #[34, 73, 133, 92, 113], [155, 44, 83, 143, 102, 123]) :: zX0_sizeAs2_44
def zX0_sizeAs2_0 : aC := (0, .iload 4, []) :: (2, .bipush 20, []) :: (4, .if_icmp .le 5, [9]) :: (7, .iconst 0, []) :: (8, .ireturn, []) :: zX0_sizeAs2_9
def zX0_markAs3_162 : aC := (162, .aload_n 0, []) :: (163, .bipush 20, []) :: (165, .invokevirtual 35, [1, 188, 2, 0, 885, 887, 31, 72]) :: (168, .iload_n 2, []) :: (169, .ireturn, []) :: []
def zX0_markAs3_150 : aC := (150, .aload_n 0, []) :: (151, .aload_n 1, []) :: (152, .iload_n 2, []) :: (153, .iconst 4, []) :: (154, .iload 4, []) :: (156, .iconst 1, []) :: (157, .iadd, []) :: (158, .invokevirtual 32, [1, 193, 5, 0, 889, 891, 32, 72]) :: (161, .ireturn, []) :: zX0_markAs3_162
def zX0_markAs3_111 : aC := (111, .aload_n 0, []) :: (112, .bipush 23, []) :: (114, .invokevirtual 35, [1, 188, 2, 0, 885, 887, 31, 72]) :: (117, .aload_n 0, []) :: (118, .aload_n 1, []) :: (119, .iload_n 2, []) :: (120, .iconst 0, []) :: (121, .iload 4, []) :: (123, .iconst 1, []) :: (124, .iadd, []) :: (125, .invokevirtual 32, [1, 193, 5, 0, 889, 891, 32, 72]) :: (128, .istore 5, []) :: (130, .iload 5, []) :: (132, .aload_n 0, []) :: (133, .aload_n 1, []) :: (134, .iload_n 2, []) :: (135, .aload_n 1, []) :: (136, .getfield 23, [1, 1, 2, 104]) :: (139, .iload_n 2, []) :: (140, .iaload, []) :: (141, .iload 4, []) :: (143, .iconst 1, []) :: (144, .iadd, []) :: (145, .invokevirtual 28, [1, 194, 5, 0, 881, 883, 30, 72]) :: (148, .isub, []) :: (149, .ireturn, []) :: zX0_markAs3_150
def zX0_markAs3_89 : aC := (89, .aload_n 0, []) :: (90, .bipush 22, []) :: (92, .invokevirtual 35, [1, 188, 2, 0, 885, 887, 31, 72]) :: (95, .aload_n 0, []) :: (96, .aload_n 1, []) :: (97, .iload_n 2, []) :: (98, .iconst 1, []) :: (99, .iload 4, []) :: (101, .iconst 1, []) :: (102, .iadd, []) :: (103, .invokevirtual 32, [1, 193, 5, 0, 889, 891, 32, 72]) :: (106, .sipush 1000, []) :: (109, .isub, []) :: (110, .ireturn, []) :: zX0_markAs3_111
def zX0_markAs3_69 : aC := (69, .aload_n 0, []) :: (70, .bipush 24, []) :: (72, .invokevirtual 35, [1, 188, 2, 0, 885, 887, 31, 72]) :: (75, .iconst 2, []) :: (76, .aload_n 0, []) :: (77, .aload_n 1, []) :: (78, .iload_n 2, []) :: (79, .iconst 1, []) :: (80, .iload 4, []) :: (82, .iconst 1, []) :: (83, .iadd, []) :: (84, .invokevirtual 32, [1, 193, 5, 0, 889, 891, 32, 72]) :: (87, .imul, []) :: (88, .ireturn, []) :: zX0_markAs3_89
def zX0_markAs3_44 : aC := (44, .aload_n 0, []) :: (45, .bipush 21, []) :: (47, .invokevirtual 35, [1, 188, 2, 0, 885, 887, 31, 72]) :: (50, .aload_n 0, []) :: (51, .aload_n 1, []) :: (52, .iload_n 2, []) :: (53, .iconst 0, []) :: (54, .iload 4, []) :: (56, .iconst 1, []) :: (57, .iadd, []) :: (58, .invokevirtual 32, [1, 193, 5, 0, 889, 891, 32, 72]) :: (61, .aload_n 1, []) :: (62, .getfield 42, [1, 5, 2, 118]) :: (65, .iload_n 2, []) :: (66, .iaload, []) :: (67, .iadd, []) :: (68, .ireturn, []) :: zX0_markAs3_69
def zX0_markAs3_9 : aC := (9, .iload_n 3, []) :: (10, .tableswitch 152 1 5 #[34, 59, 79, 101, 140], [162, 44, 69, 89, 111, 150]) :: zX0_markAs3_44
def zX0_markAs3_0 : aC := (0, .iload 4, []) :: (2, .bipush 20, []) :: (4, .if_icmp .le 5, [9]) :: (7, .iconst 0, []) :: (8, .ireturn, []) :: zX0_markAs3_9
def zX0_sizeAs3_155 : aC := (155, .aload_n 0, []) :: (156, .bipush 10, []) :: (158, .invokevirtual 35, [1, 188, 2, 0, 885, 887, 31, 72]) :: (161, .aload_n 1, []) :: (162, .getfield 39, [1, 4, 2, 114]) :: (165, .iload_n 2, []) :: (166, .iaload, []) :: (167, .ireturn, []) :: []
def zX0_sizeAs3_143 : aC := (143, .aload_n 0, []) :: (144, .aload_n 1, []) :: (145, .iload_n 2, []) :: (146, .iconst 1, []) :: (147, .iload 4, []) :: (149, .iconst 1, []) :: (150, .iadd, []) :: (151, .invokevirtual 28, [1, 194, 5, 0, 881, 883, 30, 72]) :: (154, .ireturn, []) :: zX0_sizeAs3_155
def zX0_sizeAs3_123 : aC := (123, .aload_n 0, []) :: (124, .bipush 14, []) :: (126, .invokevirtual 35, [1, 188, 2, 0, 885, 887, 31, 72]) :: (129, .iconst 2, []) :: (130, .aload_n 0, []) :: (131, .aload_n 1, []) :: (132, .iload_n 2, []) :: (133, .iconst 4, []) :: (134, .iload 4, []) :: (136, .iconst 1, []) :: (137, .iadd, []) :: (138, .invokevirtual 28, [1, 194, 5, 0, 881, 883, 30, 72]) :: (141, .imul, []) :: (142, .ireturn, []) :: zX0_sizeAs3_143
def zX0_sizeAs3_102 : aC := (102, .aload_n 0, []) :: (103, .bipush 13, []) :: (105, .invokevirtual 35, [1, 188, 2, 0, 885, 887, 31, 72]) :: (108, .aload_n 0, []) :: (109, .aload_n 1, []) :: (110, .iload_n 2, []) :: (111, .iconst 0, []) :: (112, .iload 4, []) :: (114, .iconst 1, []) :: (115, .iadd, []) :: (116, .invokevirtual 28, [1, 194, 5, 0, 881, 883, 30, 72]) :: (119, .bipush 100, []) :: (121, .isub, []) :: (122, .ireturn, []) :: zX0_sizeAs3_123
def zX0_sizeAs3_83 : aC := (83, .aload_n 0, []) :: (84, .bipush 12, []) :: (86, .invokevirtual 35, [1, 188, 2, 0, 885, 887, 31, 72]) :: (89, .aload_n 0, []) :: (90, .aload_n 1, []) :: (91, .iload_n 2, []) :: (92, .iconst 1, []) :: (93, .iload 4, []) :: (95, .iconst 1, []) :: (96, .iadd, []) :: (97, .invokevirtual 28, [1, 194, 5, 0, 881, 883, 30, 72]) :: (100, .ineg, []) :: (101, .ireturn, []) :: zX0_sizeAs3_102
def zX0_sizeAs3_44 : aC := (44, .aload_n 0, []) :: (45, .bipush 11, []) :: (47, .invokevirtual 35, [1, 188, 2, 0, 885, 887, 31, 72]) :: (50, .aload_n 0, []) :: (51, .aload_n 1, []) :: (52, .iload_n 2, []) :: (53, .iconst 0, []) :: (54, .iload 4, []) :: (56, .iconst 1, []) :: (57, .iadd, []) :: (58, .invokevirtual 28, [1, 194, 5, 0, 881, 883, 30, 72]) :: (61, .istore 5, []) :: (63, .iload 5, []) :: (65, .aload_n 0, []) :: (66, .aload_n 1, []) :: (67, .iload_n 2, []) :: (68, .aload_n 1, []) :: (69, .getfield 23, [1, 1, 2, 104]) :: (72, .iload_n 2, []) :: (73, .iaload, []) :: (74, .iload 4, []) :: (76, .iconst 1, []) :: (77, .iadd, []) :: (78, .invokevirtual 32, [1, 193, 5, 0, 889, 891, 32, 72]) :: (81, .iadd, []) :: (82, .ireturn, []) :: zX0_sizeAs3_83
def zX0_sizeAs3_9 : aC := (9, .iload_n 3, []) :: (10, .tableswitch 145 1 5 #[34, 73, 133, 92, 113], [155, 44, 83, 143, 102, 123]) :: zX0_sizeAs3_44
def zX0_sizeAs3_0 : aC := (0, .iload 4, []) :: (2, .bipush 20, []) :: (4, .if_icmp .le 5, [9]) :: (7, .iconst 0, []) :: (8, .ireturn, []) :: zX0_sizeAs3_9
def zX0_markAs4_162 : aC := (162, .aload_n 0, []) :: (163, .bipush 20, []) :: (165, .invokevirtual 35, [1, 188, 2, 0, 885, 887, 31, 72]) :: (168, .iload_n 2, []) :: (169, .ireturn, []) :: []
def zX0_markAs4_150 : aC := (150, .aload_n 0, []) :: (151, .aload_n 1, []) :: (152, .iload_n 2, []) :: (153, .iconst 4, []) :: (154, .iload 4, []) :: (156, .iconst 1, []) :: (157, .iadd, []) :: (158, .invokevirtual 32, [1, 195, 5, 0, 889, 891, 32, 72]) :: (161, .ireturn, []) :: zX0_markAs4_162
def zX0_markAs4_111 : aC := (111, .aload_n 0, []) :: (112, .bipush 23, []) :: (114, .invokevirtual 35, [1, 188, 2, 0, 885, 887, 31, 72]) :: (117, .aload_n 0, []) :: (118, .aload_n 1, []) :: (119, .iload_n 2, []) :: (120, .iconst 0, []) :: (121, .iload 4, []) :: (123, .iconst 1, []) :: (124, .iadd, []) :: (125, .invokevirtual 32, [1, 195, 5, 0, 889, 891, 32, 72]) :: (128, .istore 5, []) :: (130, .iload 5, []) :: (132, .aload_n 0, []) :: (133, .aload_n 1, []) :: (134, .iload_n 2, []) :: (135, .aload_n 1, []) :: (136, .getfield 23, [1, 1, 2, 104]) :: (139, .iload_n 2, []) :: (140, .iaload, []) :: (141, .iload 4, []) :: (143, .iconst 1, []) :: (144, .iadd, []) :: (145, .invokevirtual 28, [1, 196, 5, 0, 881, 883, 30, 72]) :: (148, .isub, []) :: (149, .ireturn, []) :: zX0_markAs4_150
def zX0_markAs4_89 : aC := (89, .aload_n 0, []) :: (90, .bipush 22, []) :: (92, .invokevirtual 35, [1, 188, 2, 0, 885, 887, 31, 72]) :: (95, .aload_n 0, []) :: (96, .aload_n 1, []) :: (97, .iload_n 2, []) :: (98, .iconst 1, []) :: (99, .iload 4, []) :: (101, .iconst 1, []) :: (102, .iadd, []) :: (103, .invokevirtual 32, [1, 195, 5, 0, 889, 891, 32, 72]) :: (106, .sipush 1000, []) :: (109, .isub, []) :: (110, .ireturn, []) :: zX0_markAs4_111
def zX0_markAs4_69 : aC := (69, .aload_n 0, []) :: (70, .bipush 24, []) :: (72, .invokevirtual 35, [1, 188, 2, 0, 885, 887, 31, 72]) :: (75, .iconst 2, []) :: (76, .aload_n 0, []) :: (77, .aload_n 1, []) :: (78, .iload_n 2, []) :: (79, .iconst 1, []) :: (80, .iload 4, []) :: (82, .iconst 1, []) :: (83, .iadd, []) :: (84, .invokevirtual 32, [1, 195, 5, 0, 889, 891, 32, 72]) :: (87, .imul, []) :: (88, .ireturn, []) :: zX0_markAs4_89
def zX0_markAs4_44 : aC := (44, .aload_n 0, []) :: (45, .bipush 21, []) :: (47, .invokevirtual 35, [1, 188, 2, 0, 885, 887, 31, 72]) :: (50, .aload_n 0, []) :: (51, .aload_n 1, []) :: (52, .iload_n 2, []) :: (53, .iconst 0, []) :: (54, .iload 4, []) :: (56, .iconst 1, []) :: (57, .iadd, []) :: (58, .invokevirtual 32, [1, 195, 5, 0, 889, 891, 32, 72]) :: (61, .aload_n 1, []) :: (62, .getfield 42, [1, 5, 2, 118]) :: (65, .iload_n 2, []) :: (66, .iaload, []) :: (67, .iadd, []) :: (68, .ireturn, []) :: zX0_markAs4_69
def zX0_markAs4_9 : aC := (9, .iload_n 3, []) :: (10, .tableswitch 152 1 5 #[34, 59, 79, 101, 140], [162, 44, 69, 89, 111, 150]) :: zX0_markAs4_44
def zX0_markAs4_0 : aC := (0, .iload 4, []) :: (2, .bipush 20, []) :: (4, .if_icmp .le 5, [9]) :: (7, .iconst 0, []) :: (8, .ireturn, []) :: zX0_markAs4_9
def zX0_sizeAs4_155 : aC := (155, .aload_n 0, []) :: (156, .bipush 10, []) :: (158, .invokevirtual 35, [1, 188, 2, 0, 885, 887, 31, 72]) :: (161, .aload_n 1, []) :: (162, .getfield 39, [1, 4, 2, 114]) :: (165, .iload_n 2, []) :: (166, .iaload, []) :: (167, .ireturn, []) :: []
def zX0_sizeAs4_143 : aC := (143, .aload_n 0, []) :: (144, .aload_n 1, []) :: (145, .iload_n 2, []) :: (146, .iconst 1, []) :: (147, .iload 4, []) :: (149, .iconst 1, []) :: (150, .iadd, []) :: (151, .invokevirtual 28, [1, 196, 5, 0, 881, 883, 30, 72]) :: (154, .ireturn, []) :: zX0_sizeAs4_155
def zX0_sizeAs4_123 : aC := (123, .aload_n 0, []) :: (124, .bipush 14, []) :: (126, .invokevirtual 35, [1, 188, 2, 0, 885, 887, 31, 72]) :: (129, .iconst 2, []) :: (130, .aload_n 0, []) :: (131, .aload_n 1, []) :: (132, .iload_n 2, []) :: (133, .iconst 4, []) :: (134, .iload 4, []) :: (136, .iconst 1, []) :: (137, .iadd, []) :: (138, .invokevirtual 28, [1, 196, 5, 0, 881, 883, 30, 72]) :: (141, .imul, []) :: (142, .ireturn, []) :: zX0_sizeAs4_143
def zX0_sizeAs4_102 : aC := (102, .aload_n 0, []) :: (103, .bipush 13, []) :: (105, .invokevirtual 35, [1, 188, 2, 0, 885, 887, 31, 72]) :: (108, .aload_n 0, []) :: (109, .aload_n 1, []) :: (110, .iload_n 2, []) :: (111, .iconst 0, []) :: (112, .iload 4, []) :: (114, .iconst 1, []) :: (115, .iadd, []) :: (116, .invokevirtual 28, [1, 196, 5, 0, 881, 883, 30, 72]) :: (119, .bipush 100, []) :: (121, .isub, []) :: (122, .ireturn, []) :: zX0_sizeAs4_123
def zX0_sizeAs4_83 : aC := (83, .aload_n 0, []) :: (84, .bipush 12, []) :: (86, .invokevirtual 35, [1, 188, 2, 0, 885, 887, 31, 72]) :: (89, .aload_n 0, []) :: (90, .aload_n 1, []) :: (91, .iload_n 2, []) :: (92, .iconst 1, []) :: (93, .iload 4, []) :: (95, .iconst 1, []) :: (96, .iadd, []) :: (97, .invokevirtual 28, [1, 196, 5, 0, 881, 883, 30, 72]) :: (100, .ineg, []) :: (101, .ireturn, []) :: zX0_sizeAs4_102
def zX0_sizeAs4_44 : aC := (44, .aload_n 0, []) :: (45, .bipush 11, []) :: (47, .invokevirtual 35, [1, 188, 2, 0, 885, 887, 31, 72]) :: (50, .aload_n 0, []) :: (51, .aload_n 1, []) :: (52, .iload_n 2, []) :: (53, .iconst 0, []) :: (54, .iload 4, []) :: (56, .iconst 1, []) :: (57, .iadd, []) :: (58, .invokevirtual 28, [1, 196, 5, 0, 881, 883, 30, 72]) :: (61, .istore 5, []) :: (63, .iload 5, []) :: (65, .aload_n 0, []) :: (66, .aload_n 1, []) :: (67, .iload_n 2, []) :: (68, .aload_n 1, []) :: (69, .getfield 23, [1, 1, 2, 104]) :: (72, .iload_n 2, []) :: (73, .iaload, []) :: (74, .iload 4, []) :: (76, .iconst 1, []) :: (77, .iadd, []) :: (78, .invokevirtual 32, [1, 195, 5, 0, 889, 891, 32, 72]) :: (81, .iadd, []) :: (82, .ireturn, []) :: zX0_sizeAs4_83
def zX0_sizeAs4_9 : aC := (9, .iload_n 3, []) :: (10, .tableswitch 145 1 5 #[34, 73, 133, 92, 113], [155, 44, 83, 143, 102, 123]) :: zX0_sizeAs4_44
def zX0_sizeAs4_0 : aC := (0, .iload 4, []) :: (2, .bipush 20, []) :: (4, .if_icmp .le 5, [9]) :: (7, .iconst 0, []) :: (8, .ireturn, []) :: zX0_sizeAs4_9
def zX0_markAs5_162 : aC := (162, .aload_n 0, []) :: (163, .bipush 20, []) :: (165, .invokevirtual 35, [1, 188, 2, 0, 885, 887, 31, 72]) :: (168, .iload_n 2, []) :: (169, .ireturn, []) :: []
def zX0_markAs5_150 : aC := (150, .aload_n 0, []) :: (151, .aload_n 1, []) :: (152, .iload_n 2, []) :: (153, .iconst 4, []) :: (154, .iload 4, []) :: (156, .iconst 1, []) :: (157, .iadd, []) :: (158, .invokevirtual 32, [1, 197, 5, 0, 889, 891, 32, 72]) :: (161, .ireturn, []) :: zX0_markAs5_162
def zX0_markAs5_111 : aC := (111, .aload_n 0, []) :: (112, .bipush 23, []) :: (114, .invokevirtual 35, [1, 188, 2, 0, 885, 887, 31, 72]) :: (117, .aload_n 0, []) :: (118, .aload_n 1, []) :: (119, .iload_n 2, []) :: (120, .iconst 0, []) :: (121, .iload 4, []) :: (123, .iconst 1, []) :: (124, .iadd, []) :: (125, .invokevirtual 32, [1, 197, 5, 0, 889, 891, 32, 72]) :: (128, .istore 5, []) :: (130, .iload 5, []) :: (132, .aload_n 0, []) :: (133, .aload_n 1, []) :: (134, .iload_n 2, []) :: (135, .aload_n 1, []) :: (136, .getfield 23, [1, 1, 2, 104]) :: (139, .iload_n 2, []) :: (140, .iaload, []) :: (141, .iload 4, []) :: (143, .iconst 1, []) :: (144, .iadd, []) :: (145, .invokevirtual 28, [1, 198, 5, 0, 881, 883, 30, 72]) :: (148, .isub, []) :: (149, .ireturn, []) :: zX0_markAs5_150
def zX0_markAs5_89 : aC := (89, .aload_n 0, []) :: (90, .bipush 22, []) :: (92, .invokevirtual 35, [1, 188, 2, 0, 885, 887, 31, 72]) :: (95, .aload_n 0, []) :: (96, .aload_n 1, []) :: (97, .iload_n 2, []) :: (98, .iconst 1, []) :: (99, .iload 4, []) :: (101, .iconst 1, []) :: (102, .iadd, []) :: (103, .invokevirtual 32, [1, 197, 5, 0, 889, 891, 32, 72]) :: (106, .sipush 1000, []) :: (109, .isub, []) :: (110, .ireturn, []) :: zX0_markAs5_111
def zX0_markAs5_69 : aC := (69, .aload_n 0, []) :: (70, .bipush 24, []) :: (72, .invokevirtual 35, [1, 188, 2, 0, 885, 887, 31, 72]) :: (75, .iconst 2, []) :: (76, .aload_n 0, []) :: (77, .aload_n 1, []) :: (78, .iload_n 2, []) :: (79, .iconst 1, []) :: (80, .iload 4, []) :: (82, .iconst 1, []) :: (83, .iadd, []) :: (84, .invokevirtual 32, [1, 197, 5, 0, 889, 891, 32, 72]) :: (87, .imul, []) :: (88, .ireturn, []) :: zX0_markAs5_89
def zX0_markAs5_44 : aC := (44, .aload_n 0, []) :: (45, .bipush 21, []) :: (47, .invokevirtual 35, [1, 188, 2, 0, 885, 887, 31, 72]) :: (50, .aload_n 0, []) :: (51, .aload_n 1, []) :: (52, .iload_n 2, []) :: (53, .iconst 0, []) :: (54, .iload 4, []) :: (56, .iconst 1, []) :: (57, .iadd, []) :: (58, .invokevirtual 32, [1, 197, 5, 0, 889, 891, 32, 72]) :: (61, .aload_n 1, []) :: (62, .getfield 42, [1, 5, 2, 118]) :: (65, .iload_n 2, []) :: (66, .iaload, []) :: (67, .iadd, []) :: (68, .ireturn, []) :: zX0_markAs5_69
def zX0_markAs5_9 : aC := (9, .iload_n 3, []) :: (10, .tableswitch 152 1 5 #[34, 59, 79, 101, 140], [162, 44, 69, 89, 111, 150]) :: zX0_markAs5_44
def zX0_markAs5_0 : aC := (0, .iload 4, []) :: (2, .bipush 20, []) :: (4, .if_icmp .le 5, [9]) :: (7, .iconst 0, []) :: (8, .ireturn, []) :: zX0_markAs5_9
def zX0_sizeAs5_155 : aC := (155, .aload_n 0, []) :: (156, .bipush 10, []) :: (158, .invokevirtual 35, [1, 188, 2, 0, 885, 887, 31, 72]) :: (161, .aload_n 1, []) :: (162, .getfield 39, [1, 4, 2, 114]) :: (165, .iload_n 2, []) :: (166, .iaload, []) :: (167, .ireturn, []) :: []
def zX0_sizeAs5_143 : aC := (143, .aload_n 0, []) :: (144, .aload_n 1, []) :: (145, .iload_n 2, []) :: (146, .iconst 1, []) :: (147, .iload 4, []) :: (149, .iconst 1, []) :: (150, .iadd, []) :: (151, .invokevirtual 28, [1, 198, 5, 0, 881, 883, 30, 72]) :: (154, .ireturn, []) :: zX0_sizeAs5_155
def zX0_sizeAs5_123 : aC := (123, .aload_n 0, []) :: (124, .bipush 14, []) :: (126, .invokevirtual 35, [1, 188, 2, 0, 885, 887, 31, 72]) :: (129, .iconst 2, []) :: (130, .aload_n 0, []) :: (131, .aload_n 1, []) :: (132, .iload_n 2, []) :: (133, .iconst 4, []) :: (134, .iload 4, []) :: (136, .iconst 1, []) :: (137, .iadd, []) :: (138, .invokevirtual 28, [1, 198, 5, 0, 881, 883, 30, 72]) :: (141, .imul, []) :: (142, .ireturn, []) :: zX0_sizeAs5_143
def zX0_sizeAs5_102 : aC := (102, .aload_n 0, []) :: (103, .bipush 13, []) :: (105, .invokevirtual 35, [1, 188, 2, 0, 885, 887, 31, 72]) :: (108, .aload_n 0, []) :: (109, .aload_n 1, []) :: (110, .iload_n 2, []) :: (111, .iconst 0, []) :: (112, .iload 4, []) :: (114, .iconst 1, []) :: (115, .iadd, []) :: (116, .invokevirtual 28, [1, 198, 5, 0, 881, 883, 30, 72]) :: (119, .bipush 100, []) :: (121, .isub, []) :: (122, .ireturn, []) :: zX0_sizeAs5_123
def zX0_sizeAs5_83 : aC := (83, .aload_n 0, []) :: (84, .bipush 12, []) :: (86, .invokevirtual 35, [1, 188, 2, 0, 885, 887, 31, 72]) :: (89, .aload_n 0, []) :: (90, .aload_n 1, []) :: (91, .iload_n 2, []) :: (92, .iconst 1, []) :: (93, .iload 4, []) :: (95, .iconst 1, []) :: (96, .iadd, []) :: (97, .invokevirtual 28, [1, 198, 5, 0, 881, 883, 30, 72]) :: (100, .ineg, []) :: (101, .ireturn, []) :: zX0_sizeAs5_102
def zX0_sizeAs5_44 : aC := (44, .aload_n 0, []) :: (45, .bipush 11, []) :: (47, .invokevirtual 35, [1, 188, 2, 0, 885, 887, 31, 72]) :: (50, .aload_n 0, []) :: (51, .aload_n 1, []) :: (52, .iload_n 2, []) :: (53, .iconst 0, []) :: (54, .iload 4, []) :: (56, .iconst 1, []) :: (57, .iadd, []) :: (58, .invokevirtual 28, [1, 198, 5, 0, 881, 883, 30, 72]) :: (61, .istore 5, []) :: (63, .iload 5, []) :: (65, .aload_n 0, []) :: (66, .aload_n 1, []) :: (67, .iload_n 2, []) :: (68, .aload_n 1, []) :: (69, .getfield 23, [1, 1, 2, 104]) :: (72, .iload_n 2, []) :: (73, .iaload, []) :: (74, .iload 4, []) :: (76, .iconst 1, []) :: (77, .iadd, []) :: (78, .invokevirtual 32, [1, 197, 5, 0, 889, 891, 32, 72]) :: (81, .iadd, []) :: (82, .ireturn, []) :: zX0_sizeAs5_83
def zX0_sizeAs5_9 : aC := (9, .iload_n 3, []) :: (10, .tableswitch 145 1 5 #[34, 73, 133, 92, 113], [155, 44, 83, 143, 102, 123]) :: zX0_sizeAs5_44
def zX0_sizeAs5_0 : aC := (0, .iload 4, []) :: (2, .bipush 20, []) :: (4, .if_icmp .le 5, [9]) :: (7, .iconst 0, []) :: (8, .ireturn, []) :: zX0_sizeAs5_9
def zX0_markAs6_162 : aC := (162, .aload_n 0, []) :: (163, .bipush 20, []) :: (165, .invokevirtual 35, [1, 188, 2, 0, 885, 887, 31, 72]) :: (168, .iload_n 2, []) :: (169, .ireturn, []) :: []
def zX0_markAs6_150 : aC := (150, .aload_n 0, []) :: (151, .aload_n 1, []) :: (152, .iload_n 2, []) :: (153, .iconst 4, []) :: (154, .iload 4, []) :: (156, .iconst 1, []) :: (157, .iadd, []) :: (158, .invokevirtual 32, [1, 199, 5, 0, 889, 891, 32, 72]) :: (161, .ireturn, []) :: zX0_markAs6_162
def zX0_markAs6_111 : aC := (111, .aload_n 0, []) :: (112, .bipush 23, []) :: (114, .invokevirtual 35, [1, 188, 2, 0, 885, 887, 31, 72]) :: (117, .aload_n 0, []) :: (118, .aload_n 1, []) :: (119, .iload_n 2, []) :: (120, .iconst 0, []) :: (121, .iload 4, []) :: (123, .iconst 1, []) :: (124, .iadd, []) :: (125, .invokevirtual 32, [1, 199, 5, 0, 889, 891, 32, 72]) :: (128, .istore 5, []) :: (130, .iload 5, []) :: (132, .aload_n 0, []) :: (133, .aload_n 1, []) :: (134, .iload_n 2, []) :: (135, .aload_n 1, []) :: (136, .getfield 23, [1, 1, 2, 104]) :: (139, .iload_n 2, []) :: (140, .iaload, []) :: (141, .iload 4, []) :: (143, .iconst 1, []) :: (144, .iadd, []) :: (145, .invokevirtual 28, [1, 200, 5, 0, 881, 883, 30, 72]) :: (148, .isub, []) :: (149, .ireturn, []) :: zX0_markAs6_150
def zX0_markAs6_89 : aC := (89, .aload_n 0, []) :: (90, .bipush 22, []) :: (92, .invokevirtual 35, [1, 188, 2, 0, 885, 887, 31, 72]) :: (95, .aload_n 0, []) :: (96, .aload_n 1, []) :: (97, .iload_n 2, []) :: (98, .iconst 1, []) :: (99, .iload 4, []) :: (101, .iconst 1, []) :: (102, .iadd, []) :: (103, .invokevirtual 32, [1, 199, 5, 0, 889, 891, 32, 72]) :: (106, .sipush 1000, []) :: (109, .isub, []) :: (110, .ireturn, []) :: zX0_markAs6_111
def zX0_markAs6_69 : aC := (69, .aload_n 0, []) :: (70, .bipush 24, []) :: (72, .invokevirtual 35, [1, 188, 2, 0, 885, 887, 31, 72]) :: (75, .iconst 2, []) :: (76, .aload_n 0, []) :: (77, .aload_n 1, []) :: (78, .iload_n 2, []) :: (79, .iconst 1, []) :: (80, .iload 4, []) :: (82, .iconst 1, []) :: (83, .iadd, []) :: (84, .invokevirtual 32, [1, 199, 5, 0, 889, 891, 32, 72]) :: (87, .imul, []) :: (88, .ireturn, []) :: zX0_markAs6_89
def zX0_markAs6_44 : aC := (44, .aload_n 0, []) :: (45, .bipush 21, []) :: (47, .invokevirtual 35, [1, 188, 2, 0, 885, 887, 31, 72]) :: (50, .aload_n 0, []) :: (51, .aload_n 1, []) :: (52, .iload_n 2, []) :: (53, .iconst 0, []) :: (54, .iload 4, []) :: (56, .iconst 1, []) :: (57, .iadd, []) :: (58, .invokevirtual 32, [1, 199, 5, 0, 889, 891, 32, 72]) :: (61, .aload_n 1, []) :: (62, .getfield 42, [1, 5, 2, 118]) :: (65, .iload_n 2, []) :: (66, .iaload, []) :: (67, .iadd, []) :: (68, .ireturn, []) :: zX0_markAs6_69
def zX0_markAs6_9 : aC := (9, .iload_n 3, []) :: (10, .tableswitch 152 1 5 #[34, 59, 79, 101, 140], [162, 44, 69, 89, 111, 150]) :: zX0_markAs6_44
def zX0_markAs6_0 : aC := (0, .iload 4, []) :: (2, .bipush 20, []) :: (4, .if_icmp .le 5, [9]) :: (7, .iconst 0, []) :: (8, .ireturn, []) :: zX0_markAs6_9
def zX0_sizeAs6_155 : aC := (155, .aload_n 0, []) :: (156, .bipush 10, []) :: (158, .invokevirtual 35, [1, 188, 2, 0, 885, 887, 31, 72]) :: (161, .aload_n 1, []) :: (162, .getfield 39, [1, 4, 2, 114]) :: (165, .iload_n 2, []) :: (166, .iaload, []) :: (167, .ireturn, []) :: []
def zX0_sizeAs6_143 : aC := (143, .aload_n 0, []) :: (144, .aload_n 1, []) :: (145, .iload_n 2, []) :: (146, .iconst 1, []) :: (147, .iload 4, []) :: (149, .iconst 1, []) :: (150, .iadd, []) :: (151, .invokevirtual 28, [1, 200, 5, 0, 881, 883, 30, 72]) :: (154, .ireturn, []) :: zX0_sizeAs6_155
def zX0_sizeAs6_123 : aC := (123, .aload_n 0, []) :: (124, .bipush 14, []) :: (126, .invokevirtual 35, [1, 188, 2, 0, 885, 887, 31, 72]) :: (129, .iconst 2, []) :: (130, .aload_n 0, []) :: (131, .aload_n 1, []) :: (132, .iload_n 2, []) :: (133, .iconst 4, []) :: (134, .iload 4, []) :: (136, .iconst 1, []) :: (137, .iadd, []) :: (138, .invokevirtual 28, [1, 200, 5, 0, 881, 883, 30, 72]) :: (141, .imul, []) :: (142, .ireturn, []) :: zX0_sizeAs6_143
def zX0_sizeAs6_102 : aC := (102, .aload_n 0, []) :: (103, .bipush 13, []) :: (105, .invokevirtual 35, [1, 188, 2, 0, 885, 887, 31, 72]) :: (108, .aload_n 0, []) :: (109, .aload_n 1, []) :: (110, .iload_n 2, []) :: (111, .iconst 0, []) :: (112, .iload 4, []) :: (114, .iconst 1, []) :: (115, .iadd, []) :: (116, .invokevirtual 28, [1, 200, 5, 0, 881, 883, 30, 72]) :: (119, .bipush 100, []) :: (121, .isub, []) :: (122, .ireturn, []) :: zX0_sizeAs6_123
def zX0_sizeAs6_83 : aC := (83, .aload_n 0, []) :: (84, .bipush 12, []) :: (86, .invokevirtual 35, [1, 188, 2, 0, 885, 887, 31, 72]) :: (89, .aload_n 0, []) :: (90, .aload_n 1, []) :: (91, .iload_n 2, []) :: (92, .iconst 1, []) :: (93, .iload 4, []) :: (95, .iconst 1, []) :: (96, .iadd, []) :: (97, .invokevirtual 28, [1, 200, 5, 0, 881, 883, 30, 72]) :: (100, .ineg, []) :: (101, .ireturn, []) :: zX0_sizeAs6_102
def zX0_sizeAs6_44 : aC := (44, .aload_n 0, []) :: (45, .bipush 11, []) :: (47, .invokevirtual 35, [1, 188, 2, 0, 885, 887, 31, 72]) :: (50, .aload_n 0, []) :: (51, .aload_n 1, []) :: (52, .iload_n 2, []) :: (53, .iconst 0, []) :: (54, .iload 4, []) :: (56, .iconst 1, []) :: (57, .iadd, []) :: (58, .invokevirtual 28, [1, 200, 5, 0, 881, 883, 30, 72]) :: (61, .istore 5, []) :: (63, .iload 5, []) :: (65, .aload_n 0, []) :: (66, .aload_n 1, []) :: (67, .iload_n 2, []) :: (68, .aload_n 1, []) :: (69, .getfield 23, [1, 1, 2, 104]) :: (72, .iload_n 2, []) :: (73, .iaload, []) :: (74, .iload 4, []) :: (76, .iconst 1, []) :: (77, .iadd, []) :: (78, .invokevirtual 32, [1, 199, 5, 0, 889, 891, 32, 72]) :: (81, .iadd, []) :: (82, .ireturn, []) :: zX0_sizeAs6_83
def zX0_sizeAs6_9 : aC := (9, .iload_n 3, []) :: (10, .tableswitch 145 1 5 #[34, 73, 133, 92, 113], [155, 44, 83, 143, 102, 123]) :: zX0_sizeAs6_44
def zX0_sizeAs6_0 : aC := (0, .iload 4, []) :: (2, .bipush 20, []) :: (4, .if_icmp .le 5, [9]) :: (7, .iconst 0, []) :: (8, .ireturn, []) :: zX0_sizeAs6_9
def zX0_begin_38 : aC := (38, .ireturn, []) :: []
def zX0_begin_29 : aC := (29, .aload_n 0, []) :: (30, .aload_n 1, []) :: (31, .iload_n 2, []) :: (32, .iload 4, []) :: (34, .iconst 0, []) :: (35, .invokevirtual 32, [1, 201, 5, 0, 889, 891, 32, 72]) :: zX0_begin_38
def zX0_begin_0 : aC := (0, .aload_n 0, []) :: (1, .iconst 0, []) :: (2, .putfield 19, [0, 1, 0, 303]) :: (5, .aload_n 1, []) :: (6, .getfield 23, [1, 1, 2, 104]) :: (9, .iload_n 2, []) :: (10, .iaload, []) :: (11, .istore 4, []) :: (13, .iload_n 3, []) :: (14, .ifCond .ne 15, [29]) :: (17, .aload_n 0, []) :: (18, .aload_n 1, []) :: (19, .iload_n 2, []) :: (20, .iload 4, []) :: (22, .iconst 0, []) :: (23, .invokevirtual 28, [1, 202, 5, 0, 881, 883, 30, 72]) :: (26, .goto 12, [38]) :: zX0_begin_29
def zX7_ask_22 : aC := (22, .aload_n 0, []) :: (23, .getfield 58, [7, 8, 2, 336]) :: (26, .aload_n 0, []) :: (27, .getfield 22, [7, 2, 2, 330]) :: (30, .iload_n 1, []) :: (31, .iload_n 2, []) :: (32, .invokevirtual 301, [1, 203, 4, 0, 877, 878, 879, 72]) :: (35, .ireturn, []) :: []
def zX7_ask_19 : aC := (19, .ldc 67, [0, -1000001, 369]) :: (21, .ireturn, []) :: zX7_ask_22
def zX7_ask_0 : aC := (0, .aload_n 0, []) :: (1, .getfield 22, [7, 2, 2, 330]) :: (4, .iload_n 1, []) :: (5, .invokevirtual 160, [1, 87, 2, 1, 599, 600, 601, 67]) :: (8, .ifCond .eq 11, [19]) :: (11, .iload_n 2, []) :: (12, .iconst 2, []) :: (13, .invokestatic 175, [2, 9, 2, 0, 366, 367, 0, 66]) :: (16, .ifCond .ne 6, [22]) :: zX7_ask_19
def zX8_leave__69 : aC := (69, .return_, []) :: []
def zX8_leave__24 : aC := (24, .lload_n 3, []) :: (25, .lconst 0, []) :: (26, .lcmp, []) :: (27, .ifCond .le 42, [69]) :: (30, .aload_n 0, []) :: (31, .getfield 35, [8, 14, 2, 939]) :: (34, .aload_n 0, []) :: (35, .getfield 259, [8, 13, 0, 938]) :: (38, .lload 5, []) :: (40, .lload_n 3, []) :: (41, .ldiv, []) :: (42, .l2i, []) :: (43, .iastore, []) :: (44, .lload 5, []) :: (46, .lload_n 3, []) :: (47, .lrem, []) :: (48, .lstore 5, []) :: (50, .aload_n 0, []) :: (51, .dup, []) :: (52, .getfield 259, [8, 13, 0, 938]) :: (55, .iconst 1, []) :: (56, .iadd, []) :: (57, .putfield 259, [8, 13, 0, 938]) :: (60, .lload_n 3, []) :: (61, .ldc2_w 257, [0, 100, 1298]) :: (64, .ldiv, []) :: (65, .lstore_n 3, []) :: (66, .goto (-42), [24]) :: zX8_leave__69
def zX8_leave__21 : aC := (21, .lload_n 1, []) :: (22, .lstore 5, []) :: zX8_leave__24
def zX8_leave__2 : aC := (2, .lload_n 3, []) :: (3, .ldc2_w 257, [0, 100, 1298]) :: (6, .lmul, []) :: (7, .lload_n 1, []) :: (8, .lcmp, []) :: (9, .ifCond .gt 12, [21]) :: (12, .lload_n 3, []) :: (13, .ldc2_w 257, [0, 100, 1298]) :: (16, .lmul, []) :: (17, .lstore_n 3, []) :: (18, .goto (-16), [2]) :: zX8_leave__21
def zX8_leave__0 : aC := (0, .lconst 1, []) :: (1, .lstore_n 3, []) :: zX8_leave__2
def zX8_mark_76 : aC := (76, .ireturn, []) :: []
def zX8_mark_75 : aC := (75, .iload_n 3, []) :: zX8_mark_76
def zX8_mark_62 : aC := (62, .iload_n 2, []) :: (63, .iconst 3, []) :: (64, .if_icmp .ne 11, [75]) :: (67, .iload_n 3, []) :: (68, .sipush 1000, []) :: (71, .isub, []) :: (72, .goto 4, [76]) :: zX8_mark_75
def zX8_mark_48 : aC := (48, .invokevirtual 268, [1, 205, 2, 8, 1294, 1296, 63, 74]) :: (51, .iload_n 2, []) :: (52, .iconst 2, []) :: (53, .if_icmp .ne 9, [62]) :: (56, .iconst 2, []) :: (57, .iload_n 3, []) :: (58, .imul, []) :: (59, .goto 17, [76]) :: zX8_mark_62
def zX8_mark_45 : aC := (45, .ldc2_w 266, [0, 2120, 1293]) :: zX8_mark_48
def zX8_mark_34 : aC := (34, .iload_n 2, []) :: (35, .iconst 3, []) :: (36, .if_icmp .ne 9, [45]) :: (39, .ldc2_w 264, [0, 222120, 1292]) :: (42, .goto 6, [48]) :: zX8_mark_45
def zX8_mark_0 : aC := (0, .aload_n 0, []) :: (1, .getfield 22, [8, 8, 2, 933]) :: (4, .bipush 12, []) :: (6, .iload_n 1, []) :: (7, .iadd, []) :: (8, .iaload, []) :: (9, .istore_n 2, []) :: (10, .iload_n 1, []) :: (11, .aload_n 0, []) :: (12, .getfield 22, [8, 8, 2, 933]) :: (15, .bipush 28, []) :: (17, .iload_n 1, []) :: (18, .iadd, []) :: (19, .iaload, []) :: (20, .iadd, []) :: (21, .istore_n 3, []) :: (22, .aload_n 0, []) :: (23, .iload_n 2, []) :: (24, .iconst 2, []) :: (25, .if_icmp .ne 9, [34]) :: (28, .ldc2_w 262, [0, 242120, 1291]) :: (31, .goto 17, [48]) :: zX8_mark_34
def zX8_sizeOf_60 : aC := (60, .ireturn, []) :: []
def zX8_sizeOf_59 : aC := (59, .iload_n 2, []) :: zX8_sizeOf_60
def zX8_sizeOf_46 : aC := (46, .invokevirtual 268, [1, 205, 2, 8, 1294, 1296, 63, 74]) :: (49, .iload_n 3, []) :: (50, .ifCond .eq 9, [59]) :: (53, .iconst 2, []) :: (54, .iload_n 2, []) :: (55, .imul, []) :: (56, .goto 4, [60]) :: zX8_sizeOf_59
def zX8_sizeOf_43 : aC := (43, .ldc2_w 274, [0, 1310, 1306]) :: zX8_sizeOf_46
def zX8_sizeOf_31 : aC := (31, .istore_n 3, []) :: (32, .aload_n 0, []) :: (33, .iload_n 3, []) :: (34, .ifCond .eq 9, [43]) :: (37, .ldc2_w 272, [0, 141310, 1305]) :: (40, .goto 6, [46]) :: zX8_sizeOf_43
def zX8_sizeOf_30 : aC := (30, .iconst 0, []) :: zX8_sizeOf_31
def zX8_sizeOf_0 : aC := (0, .aload_n 0, []) :: (1, .getfield 22, [8, 8, 2, 933]) :: (4, .bipush 24, []) :: (6, .iload_n 1, []) :: (7, .iadd, []) :: (8, .iaload, []) :: (9, .bipush 100, []) :: (11, .isub, []) :: (12, .istore_n 2, []) :: (13, .aload_n 0, []) :: (14, .getfield 22, [8, 8, 2, 933]) :: (17, .bipush 12, []) :: (19, .iload_n 1, []) :: (20, .iadd, []) :: (21, .iaload, []) :: (22, .iconst 5, []) :: (23, .if_icmp .ne 7, [30]) :: (26, .iconst 1, []) :: (27, .goto 4, [31]) :: zX8_sizeOf_30
def zX8_ask_111 : aC := (111, .aload_n 0, []) :: (112, .ldc2_w 286, [0, 2320, 1307]) :: (115, .invokevirtual 268, [1, 205, 2, 8, 1294, 1296, 63, 74]) :: (118, .iload_n 1, []) :: (119, .aload_n 0, []) :: (120, .iload_n 1, []) :: (121, .invokevirtual 283, [1, 207, 2, 8, 1301, 1303, 64, 74]) :: (124, .isub, []) :: (125, .ireturn, []) :: []
def zX8_ask_101 : aC := (101, .iload_n 2, []) :: (102, .ifCond .ne 9, [111]) :: (105, .aload_n 0, []) :: (106, .iload_n 1, []) :: (107, .invokevirtual 283, [1, 207, 2, 8, 1301, 1303, 64, 74]) :: (110, .ireturn, []) :: zX8_ask_111
def zX8_ask_100 : aC := (100, .ireturn, []) :: zX8_ask_101
def zX8_ask_98 : aC := (98, .iload 4, []) :: zX8_ask_100
def zX8_ask_67 : aC := (67, .invokevirtual 268, [1, 205, 2, 8, 1294, 1296, 63, 74]) :: (70, .aload_n 0, []) :: (71, .getfield 22, [8, 8, 2, 933]) :: (74, .bipush 24, []) :: (76, .iload_n 1, []) :: (77, .iadd, []) :: (78, .iaload, []) :: (79, .aload_n 0, []) :: (80, .iload_n 1, []) :: (81, .invokevirtual 276, [1, 206, 2, 8, 1287, 1289, 62, 74]) :: (84, .iadd, []) :: (85, .istore 4, []) :: (87, .iload_n 3, []) :: (88, .iconst 2, []) :: (89, .if_icmp .ne 9, [98]) :: (92, .iload 4, []) :: (94, .ineg, []) :: (95, .goto 5, [100]) :: zX8_ask_98
def zX8_ask_64 : aC := (64, .ldc2_w 281, [0, 1110, 1300]) :: zX8_ask_67
def zX8_ask_52 : aC := (52, .aload_n 0, []) :: (53, .iload_n 3, []) :: (54, .iconst 2, []) :: (55, .if_icmp .ne 9, [64]) :: (58, .ldc2_w 279, [0, 121110, 1299]) :: (61, .goto 6, [67]) :: zX8_ask_64
def zX8_ask_21 : aC := (21, .aload_n 0, []) :: (22, .iconst 0, []) :: (23, .putfield 259, [8, 13, 0, 938]) :: (26, .aload_n 0, []) :: (27, .getfield 22, [8, 8, 2, 933]) :: (30, .bipush 12, []) :: (32, .iload_n 1, []) :: (33, .iadd, []) :: (34, .iaload, []) :: (35, .istore_n 3, []) :: (36, .iload_n 3, []) :: (37, .iconst 4, []) :: (38, .if_icmp .ge 63, [101]) :: (41, .iload_n 2, []) :: (42, .iconst 1, []) :: (43, .if_icmp .ne 9, [52]) :: (46, .aload_n 0, []) :: (47, .iload_n 1, []) :: (48, .invokevirtual 276, [1, 206, 2, 8, 1287, 1289, 62, 74]) :: (51, .ireturn, []) :: zX8_ask_52
def zX8_ask_18 : aC := (18, .ldc 67, [0, -1000001, 1014]) :: (20, .ireturn, []) :: zX8_ask_21
def zX8_ask_0 : aC := (0, .aload_n 0, []) :: (1, .iload_n 1, []) :: (2, .invokevirtual 218, [1, 89, 2, 8, 1123, 1125, 46, 74]) :: (5, .ifCond .eq 13, [18]) :: (8, .iload_n 2, []) :: (9, .i2l, []) :: (10, .lconst 0, []) :: (11, .lconst 1, []) :: (12, .invokestatic 57, [2, 15, 3, 0, 1010, 1011, 0, 74]) :: (15, .ifCond .ne 6, [21]) :: zX8_ask_18
def zX7_trace_29 : aC := (29, .ireturn, []) :: []
def zX7_trace_26 : aC := (26, .ldc_w 257, [0, -1000000, 778]) :: zX7_trace_29
def zX7_trace_0 : aC := (0, .iload_n 1, []) :: (1, .aload_n 0, []) :: (2, .getfield 58, [7, 8, 2, 336]) :: (5, .getfield 305, [0, 1, 0, 304]) :: (8, .invokestatic 175, [2, 9, 2, 0, 366, 367, 0, 66]) :: (11, .ifCond .eq 15, [26]) :: (14, .aload_n 0, []) :: (15, .getfield 58, [7, 8, 2, 336]) :: (18, .getfield 306, [0, 0, 2, 302]) :: (21, .iload_n 1, []) :: (22, .iaload, []) :: (23, .goto 6, [29]) :: zX7_trace_26
def zX8_trace_27 : aC := (27, .ireturn, []) :: []
def zX8_trace_25 : aC := (25, .ldc 197, [0, -1000000, 1169]) :: zX8_trace_27
def zX8_trace_0 : aC := (0, .iload_n 1, []) :: (1, .i2l, []) :: (2, .lconst 0, []) :: (3, .aload_n 0, []) :: (4, .getfield 259, [8, 13, 0, 938]) :: (7, .iconst 1, []) :: (8, .isub, []) :: (9, .i2l, []) :: (10, .invokestatic 57, [2, 15, 3, 0, 1010, 1011, 0, 74]) :: (13, .ifCond .eq 12, [25]) :: (16, .aload_n 0, []) :: (17, .getfield 35, [8, 14, 2, 939]) :: (20, .iload_n 1, []) :: (21, .iaload, []) :: (22, .goto 5, [27]) :: zX8_trace_25
def zX7_countRows_31 : aC := (31, .iload_n 1, []) :: (32, .ireturn, []) :: []
def zX7_countRows_25 : aC := (25, .iinc 2 1, []) :: (28, .goto (-24), [4]) :: zX7_countRows_31
def zX7_countRows_4 : aC := (4, .iload_n 2, []) :: (5, .bipush 8, []) :: (7, .if_icmp .ge 24, [31]) :: (10, .aload_n 0, []) :: (11, .getfield 11, [7, 0, 2, 328]) :: (14, .iload_n 2, []) :: (15, .aaload, []) :: (16, .invokevirtual 79, [1, 20, 1, 5, 387, 388, 389, 73]) :: (19, .ifCond .ne 6, [25]) :: (22, .iinc 1 1, []) :: zX7_countRows_25
def zX7_countRows_0 : aC := (0, .iconst 0, []) :: (1, .istore_n 1, []) :: (2, .iconst 0, []) :: (3, .istore_n 2, []) :: zX7_countRows_4
def zJ6_bitCount_0f7a4_0 : aC := (0, .iload_n 0, []) :: (1, .iload_n 0, []) :: (2, .iconst 1, []) :: (3, .iushr, []) :: (4, .ldc_w 265, [0, 1431655765, 908]) :: (7, .iand, []) :: (8, .isub, []) :: (9, .istore_n 0, []) :: (10, .iload_n 0, []) :: (11, .ldc_w 266, [0, 858993459, 909]) :: (14, .iand, []) :: (15, .iload_n 0, []) :: (16, .iconst 2, []) :: (17, .iushr, []) :: (18, .ldc_w 266, [0, 858993459, 909]) :: (21, .iand, []) :: (22, .iadd, []) :: (23, .istore_n 0, []) :: (24, .iload_n 0, []) :: (25, .iload_n 0, []) :: (26, .iconst 4, []) :: (27, .iushr, []) :: (28, .iadd, []) :: (29, .ldc_w 267, [0, 252645135, 910]) :: (32, .iand, []) :: (33, .istore_n 0, []) :: (34, .iload_n 0, []) :: (35, .iload_n 0, []) :: (36, .bipush 8, []) :: (38, .iushr, []) :: (39, .iadd, []) :: (40, .istore_n 0, []) :: (41, .iload_n 0, []) :: (42, .iload_n 0, []) :: (43, .bipush 16, []) :: (45, .iushr, []) :: (46, .iadd, []) :: (47, .istore_n 0, []) :: (48, .iload_n 0, []) :: (49, .bipush 63, []) :: (51, .iand, []) :: (52, .ireturn, []) :: []
def zX1_debtOfAll_27 : aC := (27, .iload_n 1, []) :: (28, .ireturn, []) :: []
def zX1_debtOfAll_4 : aC := (4, .iload_n 2, []) :: (5, .aload_n 0, []) :: (6, .getfield 50, [1, 10, 0, 133]) :: (9, .if_icmp .ge 18, [27]) :: (12, .iload_n 1, []) :: (13, .aload_n 0, []) :: (14, .getfield 27, [1, 5, 2, 117]) :: (17, .iload_n 2, []) :: (18, .iaload, []) :: (19, .iadd, []) :: (20, .istore_n 1, []) :: (21, .iinc 2 1, []) :: (24, .goto (-20), [4]) :: zX1_debtOfAll_27
def zX1_debtOfAll_0 : aC := (0, .iconst 0, []) :: (1, .istore_n 1, []) :: (2, .iconst 0, []) :: (3, .istore_n 2, []) :: zX1_debtOfAll_4
def zX7_count_112 : aC := (112, .ldc 67, [0, -1000001, 369]) :: (114, .ireturn, []) :: []
def zX7_count_104 : aC := (104, .aload_n 0, []) :: (105, .getfield 32, [7, 4, 2, 332]) :: (108, .getfield 119, [6, 1, 0, 189]) :: (111, .ireturn, []) :: zX7_count_112
def zX7_count_96 : aC := (96, .aload_n 0, []) :: (97, .getfield 22, [7, 2, 2, 330]) :: (100, .invokevirtual 317, [1, 213, 1, 1, 911, 912, 913, 67]) :: (103, .ireturn, []) :: zX7_count_104
def zX7_count_85 : aC := (85, .aload_n 0, []) :: (86, .getfield 22, [7, 2, 2, 330]) :: (89, .getfield 154, [1, 13, 0, 141]) :: (92, .invokestatic 312, [2, 212, 1, 0, 905, 906, 0, 81]) :: (95, .ireturn, []) :: zX7_count_96
def zX7_count_77 : aC := (77, .aload_n 0, []) :: (78, .getfield 39, [7, 5, 2, 333]) :: (81, .getfield 216, [4, 2, 0, 224]) :: (84, .ireturn, []) :: zX7_count_85
def zX7_count_69 : aC := (69, .aload_n 0, []) :: (70, .getfield 22, [7, 2, 2, 330]) :: (73, .getfield 195, [1, 12, 0, 139]) :: (76, .ireturn, []) :: zX7_count_77
def zX7_count_61 : aC := (61, .aload_n 0, []) :: (62, .getfield 22, [7, 2, 2, 330]) :: (65, .getfield 148, [1, 11, 0, 137]) :: (68, .ireturn, []) :: zX7_count_69
def zX7_count_53 : aC := (53, .aload_n 0, []) :: (54, .getfield 22, [7, 2, 2, 330]) :: (57, .getfield 137, [1, 10, 0, 135]) :: (60, .ireturn, []) :: zX7_count_61
def zX7_count_48 : aC := (48, .aload_n 0, []) :: (49, .invokevirtual 309, [1, 211, 1, 7, 901, 903, 33, 66]) :: (52, .ireturn, []) :: zX7_count_53
def zX7_count_0 : aC := (0, .iload_n 1, []) :: (1, .tableswitch 111 0 7 #[47, 52, 60, 68, 76, 84, 95, 103], [112, 48, 53, 61, 69, 77, 85, 96, 104]) :: zX7_count_48
def zX8_count_178 : aC := (178, .ldc 67, [0, -1000001, 1014]) :: (180, .ireturn, []) :: []
def zX8_count_173 : aC := (173, .aload_n 0, []) :: (174, .getfield 77, [8, 5, 0, 930]) :: (177, .ireturn, []) :: zX8_count_178
def zX8_count_170 : aC := (170, .iload 4, []) :: (172, .ireturn, []) :: zX8_count_173
def zX8_count_168 : aC := (168, .iload_n 3, []) :: (169, .ireturn, []) :: zX8_count_170
def zX8_count_163 : aC := (163, .aload_n 0, []) :: (164, .getfield 171, [8, 9, 0, 934]) :: (167, .ireturn, []) :: zX8_count_168
def zX8_count_156 : aC := (156, .aload_n 0, []) :: (157, .getfield 22, [8, 8, 2, 933]) :: (160, .iconst 3, []) :: (161, .iaload, []) :: (162, .ireturn, []) :: zX8_count_163
def zX8_count_149 : aC := (149, .aload_n 0, []) :: (150, .getfield 22, [8, 8, 2, 933]) :: (153, .iconst 4, []) :: (154, .iaload, []) :: (155, .ireturn, []) :: zX8_count_156
def zX8_count_142 : aC := (142, .aload_n 0, []) :: (143, .getfield 22, [8, 8, 2, 933]) :: (146, .iconst 2, []) :: (147, .iaload, []) :: (148, .ireturn, []) :: zX8_count_149
def zX8_count_140 : aC := (140, .iload_n 2, []) :: (141, .ireturn, []) :: zX8_count_142
def zX8_count_91 : aC := (91, .iload_n 1, []) :: (92, .tableswitch 86 0 7 #[48, 50, 57, 64, 71, 76, 78, 81], [178, 140, 142, 149, 156, 163, 168, 170, 173]) :: zX8_count_140
def zX8_count_44 : aC := (44, .iload 5, []) :: (46, .aload_n 0, []) :: (47, .getfield 22, [8, 8, 2, 933]) :: (50, .iconst 2, []) :: (51, .iaload, []) :: (52, .if_icmp .ge 39, [91]) :: (55, .iload_n 3, []) :: (56, .iconst 1, []) :: (57, .aload_n 0, []) :: (58, .getfield 22, [8, 8, 2, 933]) :: (61, .bipush 32, []) :: (63, .iload 5, []) :: (65, .iadd, []) :: (66, .iaload, []) :: (67, .isub, []) :: (68, .iadd, []) :: (69, .istore_n 3, []) :: (70, .iload 4, []) :: (72, .aload_n 0, []) :: (73, .getfield 22, [8, 8, 2, 933]) :: (76, .bipush 28, []) :: (78, .iload 5, []) :: (80, .iadd, []) :: (81, .iaload, []) :: (82, .iadd, []) :: (83, .istore 4, []) :: (85, .iinc 5 1, []) :: (88, .goto (-44), [44]) :: zX8_count_91
def zX8_count_41 : aC := (41, .iconst 0, []) :: (42, .istore 5, []) :: zX8_count_44
def zX8_count_33 : aC := (33, .iadd, []) :: (34, .istore_n 2, []) :: (35, .iinc 5 1, []) :: (38, .goto (-28), [10]) :: zX8_count_41
def zX8_count_32 : aC := (32, .iconst 1, []) :: zX8_count_33
def zX8_count_10 : aC := (10, .iload 5, []) :: (12, .bipush 8, []) :: (14, .if_icmp .ge 27, [41]) :: (17, .iload_n 2, []) :: (18, .aload_n 0, []) :: (19, .getfield 13, [8, 1, 2, 926]) :: (22, .iload 5, []) :: (24, .iaload, []) :: (25, .ifCond .ge 7, [32]) :: (28, .iconst 0, []) :: (29, .goto 4, [33]) :: zX8_count_32
def zX8_count_0 : aC := (0, .iconst 0, []) :: (1, .istore_n 2, []) :: (2, .iconst 0, []) :: (3, .istore_n 3, []) :: (4, .iconst 0, []) :: (5, .istore 4, []) :: (7, .iconst 0, []) :: (8, .istore 5, []) :: zX8_count_10
def zX7_status_0 : aC := (0, .aload_n 0, []) :: (1, .getfield 320, [7, 9, 0, 337]) :: (4, .ireturn, []) :: []
def zX8_status_0 : aC := (0, .aload_n 0, []) :: (1, .getfield 50, [8, 3, 0, 928]) :: (4, .ireturn, []) :: []
def zL_law_1212 : aC := (1212, .iconst 1, []) :: (1213, .ireturn, []) :: []
def zL_law_1206 : aC := (1206, .iinc 3 6, []) :: (1209, .goto (-1191), [18]) :: zL_law_1212
def zL_law_1193 : aC := (1193, .aload_n 1, []) :: (1194, .invokevirtual 154, [1, 216, 1, 7, 915, 916, 917, 66]) :: (1197, .aload_n 2, []) :: (1198, .invokevirtual 157, [1, 217, 1, 8, 1316, 1317, 1318, 74]) :: (1201, .if_icmp .eq 5, [1206]) :: (1204, .iconst 0, []) :: (1205, .ireturn, []) :: zL_law_1206
def zL_law_1170 : aC := (1170, .aload_n 1, []) :: (1171, .aload_n 0, []) :: (1172, .iload_n 3, []) :: (1173, .iconst 1, []) :: (1174, .iadd, []) :: (1175, .iaload, []) :: (1176, .invokevirtual 150, [1, 214, 2, 7, 897, 898, 899, 66]) :: (1179, .aload_n 2, []) :: (1180, .aload_n 0, []) :: (1181, .iload_n 3, []) :: (1182, .iconst 1, []) :: (1183, .iadd, []) :: (1184, .iaload, []) :: (1185, .invokevirtual 153, [1, 215, 2, 8, 1312, 1313, 1314, 74]) :: (1188, .if_icmp .eq 18, [1206]) :: (1191, .iconst 0, []) :: (1192, .ireturn, []) :: zL_law_1193
def zL_law_1147 : aC := (1147, .aload_n 1, []) :: (1148, .aload_n 0, []) :: (1149, .iload_n 3, []) :: (1150, .iconst 1, []) :: (1151, .iadd, []) :: (1152, .iaload, []) :: (1153, .invokevirtual 146, [1, 209, 2, 7, 893, 894, 895, 66]) :: (1156, .aload_n 2, []) :: (1157, .aload_n 0, []) :: (1158, .iload_n 3, []) :: (1159, .iconst 1, []) :: (1160, .iadd, []) :: (1161, .iaload, []) :: (1162, .invokevirtual 149, [1, 210, 2, 8, 1308, 1309, 1310, 74]) :: (1165, .if_icmp .eq 41, [1206]) :: (1168, .iconst 0, []) :: (1169, .ireturn, []) :: zL_law_1170
def zL_law_1114 : aC := (1114, .aload_n 1, []) :: (1115, .aload_n 0, []) :: (1116, .iload_n 3, []) :: (1117, .iconst 1, []) :: (1118, .iadd, []) :: (1119, .iaload, []) :: (1120, .aload_n 0, []) :: (1121, .iload_n 3, []) :: (1122, .iconst 2, []) :: (1123, .iadd, []) :: (1124, .iaload, []) :: (1125, .invokevirtual 142, [1, 204, 3, 7, 873, 874, 875, 66]) :: (1128, .aload_n 2, []) :: (1129, .aload_n 0, []) :: (1130, .iload_n 3, []) :: (1131, .iconst 1, []) :: (1132, .iadd, []) :: (1133, .iaload, []) :: (1134, .aload_n 0, []) :: (1135, .iload_n 3, []) :: (1136, .iconst 2, []) :: (1137, .iadd, []) :: (1138, .iaload, []) :: (1139, .invokevirtual 145, [1, 208, 3, 8, 1283, 1284, 1285, 74]) :: (1142, .if_icmp .eq 64, [1206]) :: (1145, .iconst 0, []) :: (1146, .ireturn, []) :: zL_law_1147
def zL_law_1081 : aC := (1081, .aload_n 1, []) :: (1082, .aload_n 0, []) :: (1083, .iload_n 3, []) :: (1084, .iconst 1, []) :: (1085, .iadd, []) :: (1086, .iaload, []) :: (1087, .aload_n 0, []) :: (1088, .iload_n 3, []) :: (1089, .iconst 2, []) :: (1090, .iadd, []) :: (1091, .iaload, []) :: (1092, .invokevirtual 138, [1, 185, 3, 7, 863, 864, 865, 66]) :: (1095, .aload_n 2, []) :: (1096, .aload_n 0, []) :: (1097, .iload_n 3, []) :: (1098, .iconst 1, []) :: (1099, .iadd, []) :: (1100, .iaload, []) :: (1101, .aload_n 0, []) :: (1102, .iload_n 3, []) :: (1103, .iconst 2, []) :: (1104, .iadd, []) :: (1105, .iaload, []) :: (1106, .invokevirtual 141, [1, 187, 3, 8, 1276, 1277, 1278, 74]) :: (1109, .if_icmp .eq 97, [1206]) :: (1112, .iconst 0, []) :: (1113, .ireturn, []) :: zL_law_1114
def zL_law_1058 : aC := (1058, .aload_n 1, []) :: (1059, .aload_n 0, []) :: (1060, .iload_n 3, []) :: (1061, .iconst 1, []) :: (1062, .iadd, []) :: (1063, .iaload, []) :: (1064, .invokevirtual 134, [1, 182, 2, 7, 859, 860, 861, 66]) :: (1067, .aload_n 2, []) :: (1068, .aload_n 0, []) :: (1069, .iload_n 3, []) :: (1070, .iconst 1, []) :: (1071, .iadd, []) :: (1072, .iaload, []) :: (1073, .invokevirtual 137, [1, 183, 2, 8, 1272, 1273, 1274, 74]) :: (1076, .if_icmp .eq 130, [1206]) :: (1079, .iconst 0, []) :: (1080, .ireturn, []) :: zL_law_1081
def zL_law_1035 : aC := (1035, .aload_n 1, []) :: (1036, .aload_n 0, []) :: (1037, .iload_n 3, []) :: (1038, .iconst 1, []) :: (1039, .iadd, []) :: (1040, .iaload, []) :: (1041, .invokevirtual 130, [1, 180, 2, 7, 855, 856, 857, 66]) :: (1044, .aload_n 2, []) :: (1045, .aload_n 0, []) :: (1046, .iload_n 3, []) :: (1047, .iconst 1, []) :: (1048, .iadd, []) :: (1049, .iaload, []) :: (1050, .invokevirtual 133, [1, 181, 2, 8, 1268, 1269, 1270, 74]) :: (1053, .if_icmp .eq 153, [1206]) :: (1056, .iconst 0, []) :: (1057, .ireturn, []) :: zL_law_1058
def zL_law_1012 : aC := (1012, .aload_n 1, []) :: (1013, .aload_n 0, []) :: (1014, .iload_n 3, []) :: (1015, .iconst 1, []) :: (1016, .iadd, []) :: (1017, .iaload, []) :: (1018, .invokevirtual 126, [1, 178, 2, 7, 851, 852, 853, 66]) :: (1021, .aload_n 2, []) :: (1022, .aload_n 0, []) :: (1023, .iload_n 3, []) :: (1024, .iconst 1, []) :: (1025, .iadd, []) :: (1026, .iaload, []) :: (1027, .invokevirtual 129, [1, 179, 2, 8, 1264, 1265, 1266, 74]) :: (1030, .if_icmp .eq 176, [1206]) :: (1033, .iconst 0, []) :: (1034, .ireturn, []) :: zL_law_1035
def zL_law_979 : aC := (979, .aload_n 1, []) :: (980, .aload_n 0, []) :: (981, .iload_n 3, []) :: (982, .iconst 1, []) :: (983, .iadd, []) :: (984, .iaload, []) :: (985, .aload_n 0, []) :: (986, .iload_n 3, []) :: (987, .iconst 2, []) :: (988, .iadd, []) :: (989, .iaload, []) :: (990, .invokevirtual 122, [1, 176, 3, 7, 846, 847, 848, 66]) :: (993, .aload_n 2, []) :: (994, .aload_n 0, []) :: (995, .iload_n 3, []) :: (996, .iconst 1, []) :: (997, .iadd, []) :: (998, .iaload, []) :: (999, .aload_n 0, []) :: (1000, .iload_n 3, []) :: (1001, .iconst 2, []) :: (1002, .iadd, []) :: (1003, .iaload, []) :: (1004, .invokevirtual 125, [1, 177, 3, 8, 1259, 1260, 1261, 74]) :: (1007, .if_icmp .eq 199, [1206]) :: (1010, .iconst 0, []) :: (1011, .ireturn, []) :: zL_law_1012
def zL_law_946 : aC := (946, .aload_n 1, []) :: (947, .aload_n 0, []) :: (948, .iload_n 3, []) :: (949, .iconst 1, []) :: (950, .iadd, []) :: (951, .iaload, []) :: (952, .aload_n 0, []) :: (953, .iload_n 3, []) :: (954, .iconst 2, []) :: (955, .iadd, []) :: (956, .iaload, []) :: (957, .invokevirtual 118, [1, 174, 3, 7, 836, 837, 838, 66]) :: (960, .aload_n 2, []) :: (961, .aload_n 0, []) :: (962, .iload_n 3, []) :: (963, .iconst 1, []) :: (964, .iadd, []) :: (965, .iaload, []) :: (966, .aload_n 0, []) :: (967, .iload_n 3, []) :: (968, .iconst 2, []) :: (969, .iadd, []) :: (970, .iaload, []) :: (971, .invokevirtual 121, [1, 175, 3, 8, 1255, 1256, 1257, 74]) :: (974, .if_icmp .eq 232, [1206]) :: (977, .iconst 0, []) :: (978, .ireturn, []) :: zL_law_979
def zL_law_913 : aC := (913, .aload_n 1, []) :: (914, .aload_n 0, []) :: (915, .iload_n 3, []) :: (916, .iconst 1, []) :: (917, .iadd, []) :: (918, .iaload, []) :: (919, .aload_n 0, []) :: (920, .iload_n 3, []) :: (921, .iconst 2, []) :: (922, .iadd, []) :: (923, .iaload, []) :: (924, .invokevirtual 114, [1, 171, 3, 7, 815, 816, 817, 66]) :: (927, .aload_n 2, []) :: (928, .aload_n 0, []) :: (929, .iload_n 3, []) :: (930, .iconst 1, []) :: (931, .iadd, []) :: (932, .iaload, []) :: (933, .aload_n 0, []) :: (934, .iload_n 3, []) :: (935, .iconst 2, []) :: (936, .iadd, []) :: (937, .iaload, []) :: (938, .invokevirtual 117, [1, 172, 3, 8, 1251, 1252, 1253, 74]) :: (941, .if_icmp .eq 265, [1206]) :: (944, .iconst 0, []) :: (945, .ireturn, []) :: zL_law_946
def zL_law_880 : aC := (880, .aload_n 1, []) :: (881, .aload_n 0, []) :: (882, .iload_n 3, []) :: (883, .iconst 1, []) :: (884, .iadd, []) :: (885, .iaload, []) :: (886, .aload_n 0, []) :: (887, .iload_n 3, []) :: (888, .iconst 2, []) :: (889, .iadd, []) :: (890, .iaload, []) :: (891, .invokevirtual 110, [1, 166, 3, 7, 797, 798, 799, 66]) :: (894, .aload_n 2, []) :: (895, .aload_n 0, []) :: (896, .iload_n 3, []) :: (897, .iconst 1, []) :: (898, .iadd, []) :: (899, .iaload, []) :: (900, .aload_n 0, []) :: (901, .iload_n 3, []) :: (902, .iconst 2, []) :: (903, .iadd, []) :: (904, .iaload, []) :: (905, .invokevirtual 113, [1, 167, 3, 8, 1246, 1247, 1248, 74]) :: (908, .if_icmp .eq 298, [1206]) :: (911, .iconst 0, []) :: (912, .ireturn, []) :: zL_law_913
def zL_law_837 : aC := (837, .aload_n 1, []) :: (838, .aload_n 0, []) :: (839, .iload_n 3, []) :: (840, .iconst 1, []) :: (841, .iadd, []) :: (842, .iaload, []) :: (843, .aload_n 0, []) :: (844, .iload_n 3, []) :: (845, .iconst 2, []) :: (846, .iadd, []) :: (847, .iaload, []) :: (848, .aload_n 0, []) :: (849, .iload_n 3, []) :: (850, .iconst 3, []) :: (851, .iadd, []) :: (852, .iaload, []) :: (853, .invokevirtual 106, [1, 161, 4, 7, 780, 781, 782, 66]) :: (856, .aload_n 2, []) :: (857, .aload_n 0, []) :: (858, .iload_n 3, []) :: (859, .iconst 1, []) :: (860, .iadd, []) :: (861, .iaload, []) :: (862, .aload_n 0, []) :: (863, .iload_n 3, []) :: (864, .iconst 2, []) :: (865, .iadd, []) :: (866, .iaload, []) :: (867, .aload_n 0, []) :: (868, .iload_n 3, []) :: (869, .iconst 3, []) :: (870, .iadd, []) :: (871, .iaload, []) :: (872, .invokevirtual 109, [1, 162, 4, 8, 1242, 1243, 1244, 74]) :: (875, .if_icmp .eq 331, [1206]) :: (878, .iconst 0, []) :: (879, .ireturn, []) :: zL_law_880
def zL_law_784 : aC := (784, .aload_n 1, []) :: (785, .aload_n 0, []) :: (786, .iload_n 3, []) :: (787, .iconst 1, []) :: (788, .iadd, []) :: (789, .iaload, []) :: (790, .aload_n 0, []) :: (791, .iload_n 3, []) :: (792, .iconst 2, []) :: (793, .iadd, []) :: (794, .iaload, []) :: (795, .aload_n 0, []) :: (796, .iload_n 3, []) :: (797, .iconst 3, []) :: (798, .iadd, []) :: (799, .iaload, []) :: (800, .aload_n 0, []) :: (801, .iload_n 3, []) :: (802, .iconst 4, []) :: (803, .iadd, []) :: (804, .iaload, []) :: (805, .invokevirtual 101, [1, 157, 5, 7, 769, 770, 771, 66]) :: (808, .aload_n 2, []) :: (809, .aload_n 0, []) :: (810, .iload_n 3, []) :: (811, .iconst 1, []) :: (812, .iadd, []) :: (813, .iaload, []) :: (814, .aload_n 0, []) :: (815, .iload_n 3, []) :: (816, .iconst 2, []) :: (817, .iadd, []) :: (818, .iaload, []) :: (819, .aload_n 0, []) :: (820, .iload_n 3, []) :: (821, .iconst 3, []) :: (822, .iadd, []) :: (823, .iaload, []) :: (824, .aload_n 0, []) :: (825, .iload_n 3, []) :: (826, .iconst 4, []) :: (827, .iadd, []) :: (828, .iaload, []) :: (829, .invokevirtual 105, [1, 158, 5, 8, 1238, 1239, 1240, 74]) :: (832, .if_icmp .eq 374, [1206]) :: (835, .iconst 0, []) :: (836, .ireturn, []) :: zL_law_837
def zL_law_761 : aC := (761, .aload_n 1, []) :: (762, .aload_n 0, []) :: (763, .iload_n 3, []) :: (764, .iconst 1, []) :: (765, .iadd, []) :: (766, .iaload, []) :: (767, .invokevirtual 97, [1, 151, 2, 7, 740, 741, 742, 66]) :: (770, .aload_n 2, []) :: (771, .aload_n 0, []) :: (772, .iload_n 3, []) :: (773, .iconst 1, []) :: (774, .iadd, []) :: (775, .iaload, []) :: (776, .invokevirtual 100, [1, 155, 2, 8, 1222, 1223, 1224, 74]) :: (779, .if_icmp .eq 427, [1206]) :: (782, .iconst 0, []) :: (783, .ireturn, []) :: zL_law_784
def zL_law_728 : aC := (728, .aload_n 1, []) :: (729, .aload_n 0, []) :: (730, .iload_n 3, []) :: (731, .iconst 1, []) :: (732, .iadd, []) :: (733, .iaload, []) :: (734, .aload_n 0, []) :: (735, .iload_n 3, []) :: (736, .iconst 2, []) :: (737, .iadd, []) :: (738, .iaload, []) :: (739, .invokevirtual 93, [1, 142, 3, 7, 730, 731, 732, 66]) :: (742, .aload_n 2, []) :: (743, .aload_n 0, []) :: (744, .iload_n 3, []) :: (745, .iconst 1, []) :: (746, .iadd, []) :: (747, .iaload, []) :: (748, .aload_n 0, []) :: (749, .iload_n 3, []) :: (750, .iconst 2, []) :: (751, .iadd, []) :: (752, .iaload, []) :: (753, .invokevirtual 96, [1, 144, 3, 8, 1214, 1215, 1216, 74]) :: (756, .if_icmp .eq 450, [1206]) :: (759, .iconst 0, []) :: (760, .ireturn, []) :: zL_law_761
def zL_law_695 : aC := (695, .aload_n 1, []) :: (696, .aload_n 0, []) :: (697, .iload_n 3, []) :: (698, .iconst 1, []) :: (699, .iadd, []) :: (700, .iaload, []) :: (701, .aload_n 0, []) :: (702, .iload_n 3, []) :: (703, .iconst 2, []) :: (704, .iadd, []) :: (705, .iaload, []) :: (706, .invokevirtual 89, [1, 138, 3, 7, 720, 721, 722, 66]) :: (709, .aload_n 2, []) :: (710, .aload_n 0, []) :: (711, .iload_n 3, []) :: (712, .iconst 1, []) :: (713, .iadd, []) :: (714, .iaload, []) :: (715, .aload_n 0, []) :: (716, .iload_n 3, []) :: (717, .iconst 2, []) :: (718, .iadd, []) :: (719, .iaload, []) :: (720, .invokevirtual 92, [1, 140, 3, 8, 1206, 1207, 1208, 74]) :: (723, .if_icmp .eq 483, [1206]) :: (726, .iconst 0, []) :: (727, .ireturn, []) :: zL_law_728
def zL_law_652 : aC := (652, .aload_n 1, []) :: (653, .aload_n 0, []) :: (654, .iload_n 3, []) :: (655, .iconst 1, []) :: (656, .iadd, []) :: (657, .iaload, []) :: (658, .aload_n 0, []) :: (659, .iload_n 3, []) :: (660, .iconst 2, []) :: (661, .iadd, []) :: (662, .iaload, []) :: (663, .aload_n 0, []) :: (664, .iload_n 3, []) :: (665, .iconst 3, []) :: (666, .iadd, []) :: (667, .iaload, []) :: (668, .invokevirtual 85, [1, 132, 4, 7, 698, 699, 700, 66]) :: (671, .aload_n 2, []) :: (672, .aload_n 0, []) :: (673, .iload_n 3, []) :: (674, .iconst 1, []) :: (675, .iadd, []) :: (676, .iaload, []) :: (677, .aload_n 0, []) :: (678, .iload_n 3, []) :: (679, .iconst 2, []) :: (680, .iadd, []) :: (681, .iaload, []) :: (682, .aload_n 0, []) :: (683, .iload_n 3, []) :: (684, .iconst 3, []) :: (685, .iadd, []) :: (686, .iaload, []) :: (687, .invokevirtual 88, [1, 136, 4, 8, 1190, 1191, 1192, 74]) :: (690, .if_icmp .eq 516, [1206]) :: (693, .iconst 0, []) :: (694, .ireturn, []) :: zL_law_695
def zL_law_629 : aC := (629, .aload_n 1, []) :: (630, .aload_n 0, []) :: (631, .iload_n 3, []) :: (632, .iconst 1, []) :: (633, .iadd, []) :: (634, .iaload, []) :: (635, .invokevirtual 81, [1, 126, 2, 7, 694, 695, 696, 66]) :: (638, .aload_n 2, []) :: (639, .aload_n 0, []) :: (640, .iload_n 3, []) :: (641, .iconst 1, []) :: (642, .iadd, []) :: (643, .iaload, []) :: (644, .invokevirtual 84, [1, 127, 2, 8, 1186, 1187, 1188, 74]) :: (647, .if_icmp .eq 559, [1206]) :: (650, .iconst 0, []) :: (651, .ireturn, []) :: zL_law_652
def zL_law_596 : aC := (596, .aload_n 1, []) :: (597, .aload_n 0, []) :: (598, .iload_n 3, []) :: (599, .iconst 1, []) :: (600, .iadd, []) :: (601, .iaload, []) :: (602, .aload_n 0, []) :: (603, .iload_n 3, []) :: (604, .iconst 2, []) :: (605, .iadd, []) :: (606, .iaload, []) :: (607, .invokevirtual 77, [1, 124, 3, 7, 689, 690, 691, 66]) :: (610, .aload_n 2, []) :: (611, .aload_n 0, []) :: (612, .iload_n 3, []) :: (613, .iconst 1, []) :: (614, .iadd, []) :: (615, .iaload, []) :: (616, .aload_n 0, []) :: (617, .iload_n 3, []) :: (618, .iconst 2, []) :: (619, .iadd, []) :: (620, .iaload, []) :: (621, .invokevirtual 80, [1, 125, 3, 8, 1181, 1182, 1183, 74]) :: (624, .if_icmp .eq 582, [1206]) :: (627, .iconst 0, []) :: (628, .ireturn, []) :: zL_law_629
def zL_law_583 : aC := (583, .aload_n 1, []) :: (584, .invokevirtual 73, [1, 122, 1, 7, 681, 682, 683, 66]) :: (587, .aload_n 2, []) :: (588, .invokevirtual 76, [1, 123, 1, 8, 1177, 1178, 1179, 74]) :: (591, .if_icmp .eq 615, [1206]) :: (594, .iconst 0, []) :: (595, .ireturn, []) :: zL_law_596
def zL_law_570 : aC := (570, .aload_n 1, []) :: (571, .invokevirtual 69, [1, 111, 1, 7, 621, 622, 623, 66]) :: (574, .aload_n 2, []) :: (575, .invokevirtual 72, [1, 120, 1, 8, 1141, 1142, 1143, 74]) :: (578, .if_icmp .eq 628, [1206]) :: (581, .iconst 0, []) :: (582, .ireturn, []) :: zL_law_583
def zL_law_537 : aC := (537, .aload_n 1, []) :: (538, .aload_n 0, []) :: (539, .iload_n 3, []) :: (540, .iconst 1, []) :: (541, .iadd, []) :: (542, .iaload, []) :: (543, .aload_n 0, []) :: (544, .iload_n 3, []) :: (545, .iconst 2, []) :: (546, .iadd, []) :: (547, .iaload, []) :: (548, .invokevirtual 65, [1, 96, 3, 7, 616, 617, 618, 66]) :: (551, .aload_n 2, []) :: (552, .aload_n 0, []) :: (553, .iload_n 3, []) :: (554, .iconst 1, []) :: (555, .iadd, []) :: (556, .iaload, []) :: (557, .aload_n 0, []) :: (558, .iload_n 3, []) :: (559, .iconst 2, []) :: (560, .iadd, []) :: (561, .iaload, []) :: (562, .invokevirtual 68, [1, 97, 3, 8, 1136, 1137, 1138, 74]) :: (565, .if_icmp .eq 641, [1206]) :: (568, .iconst 0, []) :: (569, .ireturn, []) :: zL_law_570
def zL_law_504 : aC := (504, .aload_n 1, []) :: (505, .aload_n 0, []) :: (506, .iload_n 3, []) :: (507, .iconst 1, []) :: (508, .iadd, []) :: (509, .iaload, []) :: (510, .aload_n 0, []) :: (511, .iload_n 3, []) :: (512, .iconst 2, []) :: (513, .iadd, []) :: (514, .iaload, []) :: (515, .invokevirtual 60, [1, 94, 3, 7, 612, 613, 614, 66]) :: (518, .aload_n 2, []) :: (519, .aload_n 0, []) :: (520, .iload_n 3, []) :: (521, .iconst 1, []) :: (522, .iadd, []) :: (523, .iaload, []) :: (524, .aload_n 0, []) :: (525, .iload_n 3, []) :: (526, .iconst 2, []) :: (527, .iadd, []) :: (528, .iaload, []) :: (529, .invokevirtual 64, [1, 95, 3, 8, 1132, 1133, 1134, 74]) :: (532, .if_icmp .eq 674, [1206]) :: (535, .iconst 0, []) :: (536, .ireturn, []) :: zL_law_537
def zL_law_481 : aC := (481, .aload_n 1, []) :: (482, .aload_n 0, []) :: (483, .iload_n 3, []) :: (484, .iconst 1, []) :: (485, .iadd, []) :: (486, .iaload, []) :: (487, .invokevirtual 56, [1, 92, 2, 7, 605, 606, 607, 66]) :: (490, .aload_n 2, []) :: (491, .aload_n 0, []) :: (492, .iload_n 3, []) :: (493, .iconst 1, []) :: (494, .iadd, []) :: (495, .iaload, []) :: (496, .invokevirtual 59, [1, 93, 2, 8, 1127, 1128, 1129, 74]) :: (499, .if_icmp .eq 707, [1206]) :: (502, .iconst 0, []) :: (503, .ireturn, []) :: zL_law_504
def zL_law_458 : aC := (458, .aload_n 1, []) :: (459, .aload_n 0, []) :: (460, .iload_n 3, []) :: (461, .iconst 1, []) :: (462, .iadd, []) :: (463, .iaload, []) :: (464, .invokevirtual 52, [1, 88, 2, 7, 595, 596, 597, 66]) :: (467, .aload_n 2, []) :: (468, .aload_n 0, []) :: (469, .iload_n 3, []) :: (470, .iconst 1, []) :: (471, .iadd, []) :: (472, .iaload, []) :: (473, .invokevirtual 55, [1, 90, 2, 8, 1119, 1120, 1121, 74]) :: (476, .if_icmp .eq 730, [1206]) :: (479, .iconst 0, []) :: (480, .ireturn, []) :: zL_law_481
def zL_law_445 : aC := (445, .aload_n 1, []) :: (446, .invokevirtual 48, [1, 83, 1, 7, 572, 573, 574, 66]) :: (449, .aload_n 2, []) :: (450, .invokevirtual 51, [1, 86, 1, 8, 1106, 1107, 1108, 74]) :: (453, .if_icmp .eq 753, [1206]) :: (456, .iconst 0, []) :: (457, .ireturn, []) :: zL_law_458
def zL_law_432 : aC := (432, .aload_n 1, []) :: (433, .invokevirtual 44, [1, 77, 1, 7, 568, 569, 570, 66]) :: (436, .aload_n 2, []) :: (437, .invokevirtual 47, [1, 78, 1, 8, 1102, 1103, 1104, 74]) :: (440, .if_icmp .eq 766, [1206]) :: (443, .iconst 0, []) :: (444, .ireturn, []) :: zL_law_445
def zL_law_419 : aC := (419, .aload_n 1, []) :: (420, .invokevirtual 39, [1, 65, 1, 7, 427, 428, 429, 66]) :: (423, .aload_n 2, []) :: (424, .invokevirtual 43, [1, 76, 1, 8, 1043, 1044, 1045, 74]) :: (427, .if_icmp .eq 779, [1206]) :: (430, .iconst 0, []) :: (431, .ireturn, []) :: zL_law_432
def zL_law_356 : aC := (356, .aload_n 1, []) :: (357, .aload_n 0, []) :: (358, .iload_n 3, []) :: (359, .iconst 1, []) :: (360, .iadd, []) :: (361, .iaload, []) :: (362, .i2l, []) :: (363, .bipush 32, []) :: (365, .lshl, []) :: (366, .aload_n 0, []) :: (367, .iload_n 3, []) :: (368, .iconst 2, []) :: (369, .iadd, []) :: (370, .iaload, []) :: (371, .i2l, []) :: (372, .ldc2_w 32, [0, 4294967295, 1320]) :: (375, .land, []) :: (376, .lor, []) :: (377, .aload_n 0, []) :: (378, .iload_n 3, []) :: (379, .iconst 3, []) :: (380, .iadd, []) :: (381, .iaload, []) :: (382, .invokevirtual 34, [1, 32, 3, 7, 414, 415, 416, 66]) :: (385, .aload_n 2, []) :: (386, .aload_n 0, []) :: (387, .iload_n 3, []) :: (388, .iconst 1, []) :: (389, .iadd, []) :: (390, .iaload, []) :: (391, .i2l, []) :: (392, .bipush 32, []) :: (394, .lshl, []) :: (395, .aload_n 0, []) :: (396, .iload_n 3, []) :: (397, .iconst 2, []) :: (398, .iadd, []) :: (399, .iaload, []) :: (400, .i2l, []) :: (401, .ldc2_w 32, [0, 4294967295, 1320]) :: (404, .land, []) :: (405, .lor, []) :: (406, .aload_n 0, []) :: (407, .iload_n 3, []) :: (408, .iconst 3, []) :: (409, .iadd, []) :: (410, .iaload, []) :: (411, .invokevirtual 38, [1, 33, 3, 8, 1036, 1037, 1038, 74]) :: (414, .if_icmp .eq 792, [1206]) :: (417, .iconst 0, []) :: (418, .ireturn, []) :: zL_law_419
def zL_law_333 : aC := (333, .aload_n 1, []) :: (334, .aload_n 0, []) :: (335, .iload_n 3, []) :: (336, .iconst 1, []) :: (337, .iadd, []) :: (338, .iaload, []) :: (339, .invokevirtual 27, [1, 28, 2, 7, 406, 407, 408, 66]) :: (342, .aload_n 2, []) :: (343, .aload_n 0, []) :: (344, .iload_n 3, []) :: (345, .iconst 1, []) :: (346, .iadd, []) :: (347, .iaload, []) :: (348, .invokevirtual 31, [1, 29, 2, 8, 1032, 1033, 1034, 74]) :: (351, .if_icmp .eq 855, [1206]) :: (354, .iconst 0, []) :: (355, .ireturn, []) :: zL_law_356
def zL_law_270 : aC := (270, .aload_n 1, []) :: (271, .aload_n 0, []) :: (272, .iload_n 3, []) :: (273, .iconst 1, []) :: (274, .iadd, []) :: (275, .iaload, []) :: (276, .aload_n 0, []) :: (277, .iload_n 3, []) :: (278, .iconst 2, []) :: (279, .iadd, []) :: (280, .iaload, []) :: (281, .aload_n 0, []) :: (282, .iload_n 3, []) :: (283, .iconst 3, []) :: (284, .iadd, []) :: (285, .iaload, []) :: (286, .aload_n 0, []) :: (287, .iload_n 3, []) :: (288, .iconst 4, []) :: (289, .iadd, []) :: (290, .iaload, []) :: (291, .aload_n 0, []) :: (292, .iload_n 3, []) :: (293, .iconst 5, []) :: (294, .iadd, []) :: (295, .iaload, []) :: (296, .invokevirtual 22, [1, 25, 6, 7, 399, 400, 401, 66]) :: (299, .aload_n 2, []) :: (300, .aload_n 0, []) :: (301, .iload_n 3, []) :: (302, .iconst 1, []) :: (303, .iadd, []) :: (304, .iaload, []) :: (305, .aload_n 0, []) :: (306, .iload_n 3, []) :: (307, .iconst 2, []) :: (308, .iadd, []) :: (309, .iaload, []) :: (310, .aload_n 0, []) :: (311, .iload_n 3, []) :: (312, .iconst 3, []) :: (313, .iadd, []) :: (314, .iaload, []) :: (315, .aload_n 0, []) :: (316, .iload_n 3, []) :: (317, .iconst 4, []) :: (318, .iadd, []) :: (319, .iaload, []) :: (320, .aload_n 0, []) :: (321, .iload_n 3, []) :: (322, .iconst 5, []) :: (323, .iadd, []) :: (324, .iaload, []) :: (325, .invokevirtual 26, [1, 26, 6, 8, 1028, 1029, 1030, 74]) :: (328, .if_icmp .eq 878, [1206]) :: (331, .iconst 0, []) :: (332, .ireturn, []) :: zL_law_333
def zL_law_227 : aC := (227, .aload_n 1, []) :: (228, .aload_n 0, []) :: (229, .iload_n 3, []) :: (230, .iconst 1, []) :: (231, .iadd, []) :: (232, .iaload, []) :: (233, .aload_n 0, []) :: (234, .iload_n 3, []) :: (235, .iconst 2, []) :: (236, .iadd, []) :: (237, .iaload, []) :: (238, .aload_n 0, []) :: (239, .iload_n 3, []) :: (240, .iconst 3, []) :: (241, .iadd, []) :: (242, .iaload, []) :: (243, .invokevirtual 18, [1, 23, 4, 7, 383, 384, 385, 66]) :: (246, .aload_n 2, []) :: (247, .aload_n 0, []) :: (248, .iload_n 3, []) :: (249, .iconst 1, []) :: (250, .iadd, []) :: (251, .iaload, []) :: (252, .aload_n 0, []) :: (253, .iload_n 3, []) :: (254, .iconst 2, []) :: (255, .iadd, []) :: (256, .iaload, []) :: (257, .aload_n 0, []) :: (258, .iload_n 3, []) :: (259, .iconst 3, []) :: (260, .iadd, []) :: (261, .iaload, []) :: (262, .invokevirtual 21, [1, 24, 4, 8, 1024, 1025, 1026, 74]) :: (265, .if_icmp .eq 941, [1206]) :: (268, .iconst 0, []) :: (269, .ireturn, []) :: zL_law_270
def zL_law_184 : aC := (184, .aload_n 1, []) :: (185, .aload_n 0, []) :: (186, .iload_n 3, []) :: (187, .iconst 1, []) :: (188, .iadd, []) :: (189, .iaload, []) :: (190, .aload_n 0, []) :: (191, .iload_n 3, []) :: (192, .iconst 2, []) :: (193, .iadd, []) :: (194, .iaload, []) :: (195, .aload_n 0, []) :: (196, .iload_n 3, []) :: (197, .iconst 3, []) :: (198, .iadd, []) :: (199, .iaload, []) :: (200, .invokevirtual 13, [1, 14, 4, 7, 359, 360, 361, 66]) :: (203, .aload_n 2, []) :: (204, .aload_n 0, []) :: (205, .iload_n 3, []) :: (206, .iconst 1, []) :: (207, .iadd, []) :: (208, .iaload, []) :: (209, .aload_n 0, []) :: (210, .iload_n 3, []) :: (211, .iconst 2, []) :: (212, .iadd, []) :: (213, .iaload, []) :: (214, .aload_n 0, []) :: (215, .iload_n 3, []) :: (216, .iconst 3, []) :: (217, .iadd, []) :: (218, .iaload, []) :: (219, .invokevirtual 17, [1, 19, 4, 8, 1002, 1003, 1004, 74]) :: (222, .if_icmp .eq 984, [1206]) :: (225, .iconst 0, []) :: (226, .ireturn, []) :: zL_law_227
def zL_law_18 : aC := (18, .iload_n 3, []) :: (19, .aload_n 0, []) :: (20, .arraylength, []) :: (21, .bipush 6, []) :: (23, .isub, []) :: (24, .if_icmp .gt 1188, [1212]) :: (27, .aload_n 0, []) :: (28, .iload_n 3, []) :: (29, .iaload, []) :: (30, .bipush 63, []) :: (32, .iand, []) :: (33, .tableswitch 1173 0 33 #[151, 194, 237, 300, 323, 386, 399, 412, 425, 448, 471, 504, 537, 550, 563, 596, 619, 662, 695, 728, 751, 804, 847, 880, 913, 946, 979, 1002, 1025, 1048, 1081, 1114, 1137, 1160], [1206, 184, 227, 270, 333, 356, 419, 432, 445, 458, 481, 504, 537, 570, 583, 596, 629, 652, 695, 728, 761, 784, 837, 880, 913, 946, 979, 1012, 1035, 1058, 1081, 1114, 1147, 1170, 1193]) :: zL_law_184
def zL_law_0 : aC := (0, .new 7, [7, 10, 82, 83, 66]) :: (3, .dup, []) :: (4, .invokespecial 9, [3, 7, 1, 7, 84, 85, 0, 66]) :: (7, .astore_n 1, []) :: (8, .new 10, [8, 25, 919, 920, 74]) :: (11, .dup, []) :: (12, .invokespecial 12, [3, 8, 1, 8, 921, 922, 0, 74]) :: (15, .astore_n 2, []) :: (16, .iconst 0, []) :: (17, .istore_n 3, []) :: zL_law_18
def az_cds : List aC := [zX1_init_0, zX6_init_0, zX4_init_0, zX2_init_0, zX3_init_0, zX0_init_0, zX5_init_0, zX7_init_0, zX8_init_0, zX7_isOneOf_0, zX7_isRow_0, zX7_find_0, zX5_make_0, zX7_answer_0, zX7_row_0, zX8_in_0, zX8_isRow_0, zX8_found_0, zX8_well_0, zX8_row_0, zX5_isMissing_0, zX5_hasPlaces_0, zX5_put_0, zX7_set_0, zX8_set_0, zX7_copy_0, zX8_copy_0, zX5_lose_0, zX7_drop_0, zX8_drop_0, zX6_hasRoomFor_0, zX6_append_0, zX7_feed_0, zX8_feed_0, zX6_isBetween_0, zX6_pass_0, zX6_advance_0, zX1_clear_0, zJ0_coder_7d493_0, zJ0_length_8abf5_0, zJ0_isLatin1_aae02_0, zJ3_checkIndex_8e157_0, zJ0_checkIndex_df160_0, zJ1_charAt_3b067_0, zJ2_length_9d52b_0, zJ2_checkIndex_2214a_0, zJ2_getChar_3b067_0, zJ2_charAt_3b067_0, zJ0_charAt_5068e_0, zX6_isWord_0, zX6_fail_0, zX6_takeWord_0, zX6_figuresRead_0, zX6_takeNumber_0, zX6_takeSign_0, zX6_readLaw_0, zX6_readSun_0, zX6_sortOf_0, zX6_takeSort_0, zX6_readGuest_0, zX6_readGuests_0, zX1_dawn_0, zX6_readBeach_0, zX1_become_0, zX4_forget_0, zX7_beach_0, zX8_sort_0, zX8_next_0, zX8_mustBe_0, zX8_isWord_0, zX8_number_0, zX8_ends_0, zX8_kindHere_0, zX8_readsGuest_0, zX8_reads_0, zX8_copies_0, zX8_beach_0, zX7_fault_0, zX8_fault_0, zX4_keep_0, zX7_bit_0, zX7_isIn_0, zX1_priceOf_0, zX7_hour_0, zX8_remember_0, zX8_priceOf_0, zX8_hour_0, zX1_has_0, zX7_leave_0, zX8_isGuest_0, zX8_leave_0, zX7_isHour_0, zX7_cloud_0, zX8_cloud_0, zX7_shade_0, zX8_shade_0, zX7_gift_0, zX8_gift_0, zX1_hoursOf_0, zX1_joyAlone_0, zX2_open_0, zX2_longest_0, zX2_bill_0, zX2_alike_0, zX2_byWeight_0, zX2_byHours_0, zX2_share_0, zX2_pay_0, zX1_grown_0, zX1_charge_0, zX2_sum_0, zX7_sunset_0, zX8_layNow_0, zX8_longest_0, zX8_sum_0, zX8_heads_0, zX8_parts_0, zX8_share_0, zX8_payOf_0, zX8_least_0, zX8_sunset_0, zX4_undoInto_0, zX7_undo_0, zX8_undo_0, zX7_guest_0, zX8_guest_0, zX7_price_0, zX8_price_0, zX7_look_0, zX7_hear_0, zX2_joyIn_0, zX2_worthOf_0, zX7_worth_0, zX8_tells_0, zX8_joyOf_0, zX8_worthOf_0, zX8_worth_0, zX3_bestOf_0, zX7_best_0, zX8_bestOf_0, zX8_best_0, zX3_turns_0, zX7_rounds_0, zX8_turns_0, zX8_rounds_0, zX3_forgetCommon_0, zX3_countChoices_0, zX3_choose_0, zX3_isContent_0, zX3_isRest_0, zX3_countRests_0, zX7_rests_0, zX8_rows_0, zX8_tellBy_0, zX8_isRest_0, zX8_rests_0, zX3_agree_0, zX7_pact_0, zX8_pact_0, zX3_meanAlone_0, zX3_commonDivisor_0, zX7_alone_0, zX8_alone_0, zX3_isPaid_0, zX3_meetCommon_0, zX3_explain_0, zX7_explained_0, zX8_explained_0, zX3_gapOfWorths_0, zX3_fairestSplit_0, zX3_restingSplits_0, zX7_laws_0, zX8_laws_0, zX3_ownersPrice_0, zX7_owner_0, zX8_owner_0, zX7_owes_0, zX8_owes_0, zX7_image_0, zX8_image_0, zX7_restore_0, zX8_restore_0, zX7_kind_0, zX8_kind_0, zX0_isKindOf_0, zX7_as_0, zX8_isOf_0, zX8_as_0, zX0_note_0, zX0_markAs0_0, zX0_sizeAs0_0, zX0_markAs1_0, zX0_sizeAs1_0, zX0_markAs2_0, zX0_sizeAs2_0, zX0_markAs3_0, zX0_sizeAs3_0, zX0_markAs4_0, zX0_sizeAs4_0, zX0_markAs5_0, zX0_sizeAs5_0, zX0_markAs6_0, zX0_sizeAs6_0, zX0_begin_0, zX7_ask_0, zX8_leave__0, zX8_mark_0, zX8_sizeOf_0, zX8_ask_0, zX7_trace_0, zX8_trace_0, zX7_countRows_0, zJ6_bitCount_0f7a4_0, zX1_debtOfAll_0, zX7_count_0, zX8_count_0, zX7_status_0, zX8_status_0, zL_law_0]
def az_mls : List Nat := [1, 1, 2, 1, 1, 1, 1, 2, 2, 2, 1, 2, 4, 2, 4, 6, 1, 2, 2, 5, 1, 3, 3, 5, 4, 8, 8, 1, 3, 3, 2, 5, 4, 5, 4, 3, 1, 1, 1, 1, 1, 3, 2, 2, 1, 2, 2, 2, 2, 3, 2, 2, 3, 4, 1, 2, 3, 1, 2, 3, 3, 1, 3, 2, 1, 1, 1, 2, 2, 3, 4, 1, 1, 2, 2, 5, 2, 1, 1, 2, 2, 2, 2, 2, 2, 2, 3, 2, 2, 2, 2, 1, 2, 2, 4, 4, 5, 5, 2, 4, 5, 3, 4, 9, 8, 4, 3, 2, 1, 4, 1, 2, 2, 3, 3, 2, 7, 7, 2, 1, 5, 2, 1, 1, 3, 3, 2, 2, 6, 4, 5, 4, 5, 5, 8, 4, 6, 6, 4, 7, 4, 5, 5, 5, 5, 2, 3, 4, 3, 2, 4, 3, 3, 4, 6, 5, 6, 7, 12, 15, 11, 8, 14, 3, 3, 5, 5, 9, 5, 5, 3, 4, 12, 4, 5, 8, 5, 5, 2, 2, 2, 2, 2, 2, 4, 3, 2, 3, 2, 6, 6, 6, 6, 6, 6, 6, 6, 6, 6, 6, 6, 6, 6, 5, 3, 7, 4, 4, 5, 2, 2, 3, 1, 3, 2, 6, 1, 1, 4]
def az_rts : List Nat := [0, 0, 0, 0, 0, 0, 0, 0, 0, 2, 2, 1, 0, 1, 1, 2, 2, 1, 1, 1, 2, 2, 1, 1, 1, 1, 1, 0, 1, 1, 2, 0, 1, 1, 2, 0, 0, 0, 6, 1, 2, 1, 0, 5, 1, 0, 5, 5, 5, 2, 2, 2, 1, 2, 2, 2, 2, 4, 2, 2, 2, 0, 2, 0, 0, 1, 1, 0, 2, 2, 2, 2, 1, 2, 2, 0, 1, 1, 1, 0, 1, 2, 1, 1, 0, 1, 1, 2, 1, 2, 1, 2, 1, 1, 1, 1, 1, 1, 1, 1, 0, 1, 1, 1, 1, 1, 1, 1, 1, 0, 1, 1, 0, 1, 1, 1, 0, 0, 1, 1, 1, 0, 1, 1, 1, 1, 1, 1, 1, 1, 1, 1, 1, 1, 1, 1, 1, 1, 1, 1, 1, 1, 1, 1, 1, 0, 1, 0, 2, 2, 1, 1, 1, 0, 2, 1, 1, 1, 1, 3, 3, 1, 1, 2, 0, 1, 1, 1, 1, 1, 1, 1, 1, 1, 1, 1, 1, 1, 1, 1, 1, 1, 1, 1, 2, 1, 2, 1, 0, 1, 1, 1, 1, 1, 1, 1, 1, 1, 1, 1, 1, 1, 1, 1, 1, 0, 1, 1, 1, 1, 1, 1, 1, 1, 1, 1, 1, 1, 2]
def az_cd (M : Nat) : aC := az_cds.getD M []
def az_ml (M : Nat) : Nat := az_mls.getD M 0
def az_rt (M : Nat) : Nat := az_rts.getD M 0
end
section
/-! THE INTERPRETER: a small machine over mathematical ints. A value: an int, a long, a reference (0: null; k + 1: cell k). A cell's shape: its kind, how long, which references it holds. Ints live in the memory: cell, place. -/
abbrev aV : Type := Int ⊕ Int ⊕ Nat
abbrev aL : Type := List (Option aV)
abbrev aS : Type := List aV
abbrev aG : Type := List (Nat × Nat × List Nat)
abbrev aM : Type := Nat → Int → Int
abbrev aX : Type := Option (Nat × (Int → Int))
/-- next (locals, stack, shapes, memory); jump (target, stack); the method ends; a call (method, number of arguments) -/
abbrev aO : Type := (aL × aS × aG × aM) ⊕ (Nat × aS) ⊕ (Option aV) ⊕ (Nat × Nat)
def az_w (x : Int) : Int := x.bmod 4294967296
def az_wl (x : Int) : Int := x.bmod 18446744073709551616
def az_and (x y : Int) : Int := (Int32.ofInt x &&& Int32.ofInt y).toInt
def az_or (x y : Int) : Int := (Int32.ofInt x ||| Int32.ofInt y).toInt
def az_xor (x y : Int) : Int := (Int32.ofInt x ^^^ Int32.ofInt y).toInt
def az_shl (x y : Int) : Int := (Int32.ofInt x <<< (Int32.ofInt y &&& 31)).toInt
def az_shr (x y : Int) : Int := (Int32.ofInt x >>> (Int32.ofInt y &&& 31)).toInt
def az_ush (x y : Int) : Int := ((Int32.ofInt x).toUInt32 >>> ((Int32.ofInt y).toUInt32 &&& Int32.toUInt32 31)).toInt32.toInt
def az_land (x y : Int) : Int := (Int64.ofInt x &&& Int64.ofInt y).toInt
def az_lor (x y : Int) : Int := (Int64.ofInt x ||| Int64.ofInt y).toInt
def az_lshl (x y : Int) : Int := (Int64.ofInt x <<< ((Int32.ofInt y).toInt64 &&& 63)).toInt
def az_lshr (x y : Int) : Int := (Int64.ofInt x >>> ((Int32.ofInt y).toInt64 &&& 63)).toInt
def az_i2b (x : Int) : Int := (Int32.ofInt x).toInt8.toInt32.toInt
def az_i2s (x : Int) : Int := (Int32.ofInt x).toInt16.toInt32.toInt
def az_i2c (x : Int) : Int := ((Int32.ofInt x).toUInt32 % 65536).toInt32.toInt
def az_cmp (x y : Int) : Int := if x < y then -1 else if x = y then 0 else 1
def az_up (m : aM) (a : Nat) (i v : Int) : aM := fun b j => if b = a ∧ j = i then v else m b j
/-- a cell blank -/
def az_bl (m : aM) (a : Nat) : aM := fun b j => if b = a then 0 else m b j
def az_cp (m : aM) (s : Nat) (sp : Int) (d : Nat) (dp n : Int) : aM := fun b j => if b = d ∧ dp ≤ j ∧ j < dp + n then m s (sp + (j - dp)) else m b j
def az_st1 : aL → Nat → aV → aL
  | [], _, _ => []
  | _ :: l, 0, v => some v :: l
  | some (.inr (.inl _)) :: l, 1, v => none :: az_st1 l 0 v
  | o :: l, i + 1, v => o :: az_st1 l i v
def az_st2 : aL → Nat → aV → aL
  | [], _, _ => []
  | [_], _, _ => []
  | _ :: _ :: l, 0, v => some v :: none :: l
  | some (.inr (.inl _)) :: l, 1, v => none :: az_st2 l 0 v
  | o :: l, i + 1, v => o :: az_st2 l i v
def az_nx (l : aL) (s : aS) (g : aG) (m : aM) : Option aO := some (.inl (l, s, g, m))
def az_ldI (l : aL) (s : aS) (g : aG) (m : aM) (k : Nat) : Option aO := match l[k]? with
  | some (some (.inl x)) => az_nx l (.inl x :: s) g m
  | _ => none
def az_ldL (l : aL) (s : aS) (g : aG) (m : aM) (k : Nat) : Option aO := match l[k]? with
  | some (some (.inr (.inl x))) => az_nx l (.inr (.inl x) :: s) g m
  | _ => none
def az_ldA (l : aL) (s : aS) (g : aG) (m : aM) (k : Nat) : Option aO := match l[k]? with
  | some (some (.inr (.inr r))) => az_nx l (.inr (.inr r) :: s) g m
  | _ => none
def az_stI (l : aL) (s : aS) (g : aG) (m : aM) (k : Nat) : Option aO := match s with
  | .inl x :: s' => if k < l.length then az_nx (az_st1 l k (.inl x)) s' g m else none
  | _ => none
def az_stA (l : aL) (s : aS) (g : aG) (m : aM) (k : Nat) : Option aO := match s with
  | .inr (.inr r) :: s' => if k < l.length then az_nx (az_st1 l k (.inr (.inr r))) s' g m else none
  | _ => none
def az_stL (l : aL) (s : aS) (g : aG) (m : aM) (k : Nat) : Option aO := match s with
  | .inr (.inl x) :: s' => if k + 1 < l.length then az_nx (az_st2 l k (.inr (.inl x))) s' g m else none
  | _ => none
def az_b2 (l : aL) (s : aS) (g : aG) (m : aM) (f : Int → Int → Int) : Option aO := match s with
  | .inl y :: .inl x :: s' => az_nx l (.inl (f x y) :: s') g m
  | _ => none
def az_l2 (l : aL) (s : aS) (g : aG) (m : aM) (f : Int → Int → Int) : Option aO := match s with
  | .inr (.inl y) :: .inr (.inl x) :: s' => az_nx l (.inr (.inl (f x y)) :: s') g m
  | _ => none
def az_li (l : aL) (s : aS) (g : aG) (m : aM) (f : Int → Int → Int) : Option aO := match s with
  | .inl y :: .inr (.inl x) :: s' => az_nx l (.inr (.inl (f x y)) :: s') g m
  | _ => none
def az_u1 (l : aL) (s : aS) (g : aG) (m : aM) (f : Int → Int) : Option aO := match s with
  | .inl x :: s' => az_nx l (.inl (f x) :: s') g m
  | _ => none
def az_d2 (l : aL) (s : aS) (g : aG) (m : aM) (f : Int → Int → Int) : Option aO := match s with
  | .inl y :: .inl x :: s' => if y = 0 then none else az_nx l (.inl (f x y) :: s') g m
  | _ => none
def az_dl2 (l : aL) (s : aS) (g : aG) (m : aM) (f : Int → Int → Int) : Option aO := match s with
  | .inr (.inl y) :: .inr (.inl x) :: s' => if y = 0 then none else az_nx l (.inr (.inl (f x y)) :: s') g m
  | _ => none
def az_cnd (c : ClassFile.Cond) (x y : Int) : Bool := match c with
  | .eq => decide (x = y)
  | .ne => decide (x ≠ y)
  | .lt => decide (x < y)
  | .ge => decide (y ≤ x)
  | .gt => decide (y < x)
  | .le => decide (x ≤ y)
def az_tgt (f : List Int) : Nat := (f.headD 0).toNat
def az_jmp (f : List Int) (s : aS) : Option aO := some (.inr (.inl (az_tgt f, s)))
def az_if2 (l : aL) (s : aS) (g : aG) (m : aM) (f : List Int) (c : ClassFile.Cond) : Option aO := match s with
  | .inl y :: .inl x :: s' => if az_cnd c x y = true then az_jmp f s' else az_nx l s' g m
  | _ => none
def az_if1 (l : aL) (s : aS) (g : aG) (m : aM) (f : List Int) (c : ClassFile.Cond) : Option aO := match s with
  | .inl x :: s' => if az_cnd c x 0 = true then az_jmp f s' else az_nx l s' g m
  | _ => none
def az_tsw (s : aS) (lo hi : Int) (f : List Int) : Option aO := match s with
  | .inl x :: s' => if x < lo ∨ hi < x then some (.inr (.inl ((f.headD 0).toNat, s'))) else some (.inr (.inl ((f.getD ((x - lo).toNat + 1) 0).toNat, s')))
  | _ => none
def az_lk : List Int → Int → Nat → Nat
  | k :: t :: l, x, d => if x = k then t.toNat else az_lk l x d
  | _, _, d => d
def az_lsw (s : aS) (f : List Int) : Option aO := match s with
  | .inl x :: s' => some (.inr (.inl (az_lk (f.drop 1) x (f.headD 0).toNat, s')))
  | _ => none
def az_ald (sc : aX) (l : aL) (s : aS) (g : aG) (m : aM) (ts : List Nat) : Option aO := match s with
  | .inl j :: .inr (.inr (a + 1)) :: s' =>
    if a = 0 then (match sc with
      | some (L, xs) => if ts = [20] ∧ 0 ≤ j ∧ j < (L : Int) then az_nx l (.inl (xs j) :: s') g m else none
      | none => none)
    else (match g[a]? with
      | some (t, n, _) => if t ∈ ts ∧ 0 ≤ j ∧ j < (n : Int) then az_nx l (.inl (m a j) :: s') g m else none
      | none => none)
  | _ => none
def az_aald (l : aL) (s : aS) (g : aG) (m : aM) : Option aO := match s with
  | .inl j :: .inr (.inr (a + 1)) :: s' => (match g[a]? with
      | some (t, n, rs) => if 23 ≤ t ∧ t ≤ 24 ∧ 0 ≤ j ∧ j < (n : Int) then az_nx l (.inr (.inr (rs.getD j.toNat 0)) :: s') g m else none
      | none => none)
  | _ => none
def az_aln (sc : aX) (l : aL) (s : aS) (g : aG) (m : aM) : Option aO := match s with
  | .inr (.inr (a + 1)) :: s' =>
    if a = 0 then (match sc with
      | some (L, _) => az_nx l (.inl (L : Int) :: s') g m
      | none => none)
    else (match g[a]? with
      | some (t, n, _) => if 20 ≤ t ∧ t ≤ 24 then az_nx l (.inl (n : Int) :: s') g m else none
      | none => none)
  | _ => none
def az_iast (l : aL) (s : aS) (g : aG) (m : aM) : Option aO := match s with
  | .inl v :: .inl j :: .inr (.inr (a + 1)) :: s' => (match g[a]? with
      | some (t, n, _) => if 19 ≤ a ∧ t = 20 ∧ 0 ≤ j ∧ j < (n : Int) then az_nx l s' g (az_up m a j v) else none
      | none => none)
  | _ => none
def az_bast (l : aL) (s : aS) (g : aG) (m : aM) : Option aO := match s with
  | .inl v :: .inl j :: .inr (.inr (a + 1)) :: s' => (match g[a]? with
      | some (t, n, _) => if 19 ≤ a ∧ ((t = 21 ∧ -128 ≤ v ∧ v < 128) ∨ (t = 22 ∧ 0 ≤ v ∧ v < 2)) ∧ 0 ≤ j ∧ j < (n : Int) then az_nx l s' g (az_up m a j v) else none
      | none => none)
  | _ => none
def az_aast (l : aL) (s : aS) (g : aG) (m : aM) : Option aO := match s with
  | .inr (.inr (b + 1)) :: .inl j :: .inr (.inr (a + 1)) :: s' => (match g[a]?, g[b]? with
      | some (t, n, rs), some (t2, _, _) => if 19 ≤ a ∧ 19 ≤ b ∧ ((t = 23 ∧ t2 = 5) ∨ (t = 24 ∧ t2 = 1)) ∧ 0 ≤ j ∧ j < (n : Int) then az_nx l s' (g.set a (t, n, rs.set j.toNat (b + 1))) m else none
      | _, _ => none)
  | _ => none
def az_get (l : aL) (s : aS) (g : aG) (m : aM) (f : List Int) : Option aO := match s, f with
  | .inr (.inr (a + 1)) :: s', c :: k :: t :: _ => (match g[a]? with
      | some (tg, _, rs) => if (tg : Int) = c then (if t = 1 then az_nx l (.inr (.inl (m a k)) :: s') g m else if t = 2 then az_nx l (.inr (.inr (rs.getD k.toNat 0)) :: s') g m else az_nx l (.inl (m a k) :: s') g m) else none
      | none => none)
  | _, _ => none
def az_put (l : aL) (s : aS) (g : aG) (m : aM) (f : List Int) : Option aO := match s, f with
  | .inl v :: .inr (.inr (a + 1)) :: s', c :: k :: t :: _ => (match g[a]? with
      | some (tg, _, _) => if 19 ≤ a ∧ (tg : Int) = c ∧ (t = 0 ∨ (t = 3 ∧ 0 ≤ v ∧ v < 2)) then az_nx l s' g (az_up m a k v) else none
      | none => none)
  | .inr (.inl v) :: .inr (.inr (a + 1)) :: s', c :: k :: t :: _ => (match g[a]? with
      | some (tg, _, _) => if 19 ≤ a ∧ (tg : Int) = c ∧ t = 1 then az_nx l s' g (az_up m a k v) else none
      | none => none)
  | .inr (.inr r) :: .inr (.inr (a + 1)) :: s', c :: k :: t :: _ => (match g[a]? with
      | some (tg, n, rs) => if 19 ≤ a ∧ (tg : Int) = c ∧ t = 2 ∧ r ≤ g.length then az_nx l s' (g.set a (tg, n, rs.set k.toNat r)) m else none
      | none => none)
  | _, _ => none
def az_gst (l : aL) (s : aS) (g : aG) (m : aM) (f : List Int) : Option aO := match f with
  | 0 :: _ => az_nx l (.inr (.inr 3) :: s) g m
  | 1 :: _ => az_nx l (.inl 1 :: s) g m
  | 2 :: _ => az_nx l (.inr (.inr 2) :: s) g m
  | _ => none
def az_new (l : aL) (s : aS) (g : aG) (m : aM) (f : List Int) : Option aO := match f with
  | c :: n :: _ => if 19 ≤ g.length then az_nx l (.inr (.inr (g.length + 1)) :: s) (g ++ [(c.toNat, n.toNat, List.replicate n.toNat 0)]) (az_bl m g.length) else none
  | _ => none
def az_nwa (l : aL) (s : aS) (g : aG) (m : aM) (f : List Int) : Option aO := match s, f with
  | .inl n :: s', t :: _ => if 0 ≤ n ∧ n ≤ 2000 ∧ 19 ≤ g.length then az_nx l (.inr (.inr (g.length + 1)) :: s') (g ++ [(t.toNat, n.toNat, if 23 ≤ t then List.replicate n.toNat 0 else [])]) (az_bl m g.length) else none
  | _, _ => none
def az_cpy (l : aL) (s : aS) (g : aG) (m : aM) : Option aO := match s with
  | .inl n :: .inl dp :: .inr (.inr (d + 1)) :: .inl sp :: .inr (.inr (a + 1)) :: s' => (match g[a]?, g[d]? with
      | some (t, n0, _), some (t2, n1, _) => if 19 ≤ a ∧ 19 ≤ d ∧ t = 20 ∧ t2 = 20 ∧ 0 ≤ n ∧ 0 ≤ sp ∧ 0 ≤ dp ∧ sp + n ≤ (n0 : Int) ∧ dp + n ≤ (n1 : Int) ∧ s'.length ≤ 4 then az_nx l s' g (az_cp m a sp d dp n) else none
      | _, _ => none)
  | _ => none
/-- a call: kind 1, 3, 4, 6 have a receiver -/
def az_inv (l : aL) (s : aS) (g : aG) (m : aM) (f : List Int) : Option aO := match f with
  | [0, _, _] => (match s with
      | .inr (.inr (a + 1)) :: s' => if 19 ≤ a ∧ s'.length ≤ 4 then az_nx l s' g m else none
      | _ => none)
  | 9 :: _ => az_cpy l s g m
  | 7 :: k :: _ => (match s with
      | .inl y :: .inl x :: s' => if s'.length ≤ 4 then (if k = 0 then az_nx l (.inl (if x < y then y else x) :: s') g m else if k = 1 then az_nx l (.inl (if y < x then y else x) :: s') g m else none) else none
      | .inr (.inl y) :: .inr (.inl x) :: s' => if s'.length ≤ 4 ∧ k = 2 then az_nx l (.inr (.inl (if x < y then y else x)) :: s') g m else none
      | _ => none)
  | kd :: M :: n :: c :: _ =>
      if n.toNat ≤ s.length ∧ (s.length : Int) ≤ n + 4 then
        (if kd = 2 ∨ kd = 5 then some (.inr (.inr (.inr (M.toNat, n.toNat)))) else
          (match s[n.toNat - 1]? with
            | some (.inr (.inr (a + 1))) => (match g[a]? with
                | some (tg, _, _) => if (tg : Int) = c then some (.inr (.inr (.inr (M.toNat, n.toNat)))) else none
                | none => none)
            | _ => none))
      else none
  | _ => none
def az_ldc (l : aL) (s : aS) (g : aG) (m : aM) (f : List Int) : Option aO := match f with
  | 0 :: v :: _ => az_nx l (.inl v :: s) g m
  | 1 :: k :: _ => az_nx l (.inr (.inr (k.toNat + 1)) :: s) g m
  | _ => none
def az_ldc2 (l : aL) (s : aS) (g : aG) (m : aM) (f : List Int) : Option aO := match f with
  | 0 :: v :: _ => az_nx l (.inr (.inl v) :: s) g m
  | _ => none
def az_irt (M : Nat) (s : aS) : Option aO := match s with
  | [.inl v] => if az_rt M = 1 ∨ (az_rt M = 2 ∧ 0 ≤ v ∧ v < 2) ∨ (az_rt M = 5 ∧ 0 ≤ v ∧ v < 65536) ∨ (az_rt M = 6 ∧ -128 ≤ v ∧ v < 128) then some (.inr (.inr (.inl (some (.inl v))))) else none
  | _ => none
def az_iinc (l : aL) (s : aS) (g : aG) (m : aM) (k : Nat) (c : Int) : Option aO := match l[k]? with
  | some (some (.inl x)) => az_nx (az_st1 l k (.inl (az_w (x + c)))) s g m
  | _ => none
def az_step (sc : aX) (M : Nat) (i : Instr) (f : List Int) (l : aL) (s : aS) (g : aG) (m : aM) : Option aO := match i with
  | .iconst n => az_nx l (.inl n :: s) g m
  | .bipush n => az_nx l (.inl n :: s) g m
  | .sipush n => az_nx l (.inl n :: s) g m
  | .lconst n => az_nx l (.inr (.inl (n.val : Int)) :: s) g m
  | .ldc _ => az_ldc l s g m f
  | .ldc_w _ => az_ldc l s g m f
  | .ldc2_w _ => az_ldc2 l s g m f
  | .iload_n k => az_ldI l s g m k.val
  | .iload k => az_ldI l s g m k
  | .lload_n k => az_ldL l s g m k.val
  | .lload k => az_ldL l s g m k
  | .aload_n k => az_ldA l s g m k.val
  | .aload k => az_ldA l s g m k
  | .istore_n k => az_stI l s g m k.val
  | .istore k => az_stI l s g m k
  | .lstore_n k => az_stL l s g m k.val
  | .lstore k => az_stL l s g m k
  | .astore_n k => az_stA l s g m k.val
  | .astore k => az_stA l s g m k
  | .iinc k c => az_iinc l s g m k c
  | .iadd => az_b2 l s g m (fun x y => az_w (x + y))
  | .isub => az_b2 l s g m (fun x y => az_w (x - y))
  | .imul => az_b2 l s g m (fun x y => az_w (x * y))
  | .iand => az_b2 l s g m az_and
  | .ior => az_b2 l s g m az_or
  | .ixor => az_b2 l s g m az_xor
  | .ishl => az_b2 l s g m az_shl
  | .ishr => az_b2 l s g m az_shr
  | .iushr => az_b2 l s g m az_ush
  | .idiv => az_d2 l s g m (fun x y => az_w (x.tdiv y))
  | .irem => az_d2 l s g m (fun x y => x.tmod y)
  | .ineg => az_u1 l s g m (fun x => az_w (-x))
  | .i2b => az_u1 l s g m az_i2b
  | .i2s => az_u1 l s g m az_i2s
  | .i2c => az_u1 l s g m az_i2c
  | .i2l => (match s with
      | .inl x :: s' => az_nx l (.inr (.inl x) :: s') g m
      | _ => none)
  | .l2i => (match s with
      | .inr (.inl x) :: s' => az_nx l (.inl (az_w x) :: s') g m
      | _ => none)
  | .ladd => az_l2 l s g m (fun x y => az_wl (x + y))
  | .lsub => az_l2 l s g m (fun x y => az_wl (x - y))
  | .lmul => az_l2 l s g m (fun x y => az_wl (x * y))
  | .land => az_l2 l s g m az_land
  | .lor => az_l2 l s g m az_lor
  | .lshl => az_li l s g m az_lshl
  | .lshr => az_li l s g m az_lshr
  | .ldiv => az_dl2 l s g m (fun x y => az_wl (x.tdiv y))
  | .lrem => az_dl2 l s g m (fun x y => x.tmod y)
  | .lcmp => (match s with
      | .inr (.inl y) :: .inr (.inl x) :: s' => az_nx l (.inl (az_cmp x y) :: s') g m
      | _ => none)
  | .dup => (match s with
      | .inl x :: s' => az_nx l (.inl x :: .inl x :: s') g m
      | .inr (.inr r) :: s' => az_nx l (.inr (.inr r) :: .inr (.inr r) :: s') g m
      | _ => none)
  | .dup2 => (match s with
      | .inl y :: .inr (.inr r) :: s' => az_nx l (.inl y :: .inr (.inr r) :: .inl y :: .inr (.inr r) :: s') g m
      | _ => none)
  | .pop => (match s with
      | .inl _ :: s' => az_nx l s' g m
      | _ => none)
  | .if_icmp c _ => az_if2 l s g m f c
  | .ifCond c _ => az_if1 l s g m f c
  | .goto _ => az_jmp f s
  | .tableswitch _ lo hi _ => az_tsw s lo hi f
  | .lookupswitch _ _ => az_lsw s f
  | .iaload => az_ald sc l s g m [20]
  | .baload => az_ald sc l s g m [21, 22]
  | .aaload => az_aald l s g m
  | .arraylength => az_aln sc l s g m
  | .iastore => az_iast l s g m
  | .bastore => az_bast l s g m
  | .aastore => az_aast l s g m
  | .getfield _ => az_get l s g m f
  | .putfield _ => az_put l s g m f
  | .getstatic _ => az_gst l s g m f
  | .new _ => az_new l s g m f
  | .newarray _ => az_nwa l s g m f
  | .anewarray _ => az_nwa l s g m f
  | .invokevirtual _ => az_inv l s g m f
  | .invokestatic _ => az_inv l s g m f
  | .invokespecial _ => az_inv l s g m f
  | .ireturn => az_irt M s
  | .lreturn => (match s with
      | [.inr (.inl v)] => if az_rt M = 3 then some (.inr (.inr (.inl (some (.inr (.inl v)))))) else none
      | _ => none)
  | .areturn => (match s with
      | [.inr (.inr r)] => if az_rt M = 4 then some (.inr (.inr (.inl (some (.inr (.inr r)))))) else none
      | _ => none)
  | .return_ => (match s with
      | [] => if az_rt M = 0 then some (.inr (.inr (.inl none))) else none
      | _ => none)
  | _ => none
def az_seek (t : Nat) : aC → aC
  | [] => []
  | e :: l => if e.1 = t then e :: l else az_seek t l
def az_args : List aV → aL
  | [] => []
  | .inr (.inl x) :: l => some (.inr (.inl x)) :: none :: az_args l
  | v :: l => some v :: az_args l
def az_ent (as : List aV) (n : Nat) : aL := az_args as ++ List.replicate (n - (az_args as).length) none
def az_run (sc : aX) : Nat → Nat → aC → aL → aS → aG → aM → Option (Option aV × aG × aM)
  | 0, _, _, _, _, _, _ => none
  | _ + 1, _, [], _, _, _, _ => none
  | n + 1, M, e :: c, l, s, g, m => match az_step sc M e.2.1 e.2.2 l s g m with
    | none => none
    | some (.inl o) => az_run sc n M c o.1 o.2.1 o.2.2.1 o.2.2.2
    | some (.inr (.inl o)) => az_run sc n M (az_seek o.1 (az_cd M)) l o.2 g m
    | some (.inr (.inr (.inl v))) => some (v, g, m)
    | some (.inr (.inr (.inr o))) => if (az_args ((s.take o.2).reverse)).length ≤ az_ml o.1 then (match az_run sc n o.1 (az_cd o.1) (az_ent ((s.take o.2).reverse) (az_ml o.1)) [] g m with
      | none => none
      | some r => az_run sc n M c l (r.1.toList ++ s.drop o.2) r.2.1 r.2.2) else none
/-! what lies ahead of the law: script, an opaque reference, ABOVE, eight texts and their bytes -/
def az_g0 : aG := [(99, 0, []), (99, 0, []), (20, 6, []), (9, 2, [12, 0]), (9, 2, [13, 0]), (9, 2, [14, 0]), (9, 2, [15, 0]), (9, 2, [16, 0]), (9, 2, [17, 0]), (9, 2, [18, 0]), (9, 2, [19, 0]), (21, 3, []), (21, 3, []), (21, 5, []), (21, 4, []), (21, 4, []), (21, 5, []), (21, 4, []), (21, 4, [])]
def az_txt : List (List Int) := [[108, 97, 119], [115, 117, 110], [103, 117, 101, 115, 116], [108, 111, 110, 101], [97, 117, 110, 116], [99, 104, 105, 108, 100], [98, 97, 110, 100], [99, 108, 97, 110]]
def az_abv : List Int := [-1000000, 0, 1, 1, 0, 4]
def az_m0 : aM := fun a j => if a = 2 then az_abv.getD j.toNat 0 else if 11 ≤ a ∧ a < 19 then (az_txt.getD (a - 11) []).getD j.toNat 0 else 0
end
section
/-! names, bytes and types of the methods; the classes; what is checked of each entry of the code by the kernel (written by gen.py) -/
def az_ys0 : List (MethodName × ByteArray × Option FieldType) := [(⟨"LastSun$Beach", "<init>", "()V"⟩, prog_3_method_1_code, none),
  (⟨"LastSun$Tape", "<init>", "()V"⟩, prog_8_method_1_code, none),
  (⟨"LastSun$Past", "<init>", "()V"⟩, prog_6_method_1_code, none),
  (⟨"LastSun$Day", "<init>", "()V"⟩, prog_4_method_1_code, none),
  (⟨"LastSun$Foretold", "<init>", "()V"⟩, prog_5_method_1_code, none),
  (⟨"LastSun$Asks", "<init>", "()V"⟩, prog_2_method_1_code, none),
  (⟨"LastSun$Row", "<init>", "()V"⟩, prog_7_method_1_code, none),
  (⟨"LastSun", "<init>", "()V"⟩, prog_1_method_1_code, none),
  (⟨"LastSunModel", "<init>", "()V"⟩, prog_10_method_1_code, none),
  (⟨"LastSun", "isOneOf", "(II)Z"⟩, prog_1_method_43_code, some .boolean),
  (⟨"LastSun", "isRow", "(I)Z"⟩, prog_1_method_41_code, some .boolean),
  (⟨"LastSun", "find", "(I)I"⟩, prog_1_method_36_code, some .int),
  (⟨"LastSun$Row", "make", "(II)V"⟩, prog_7_method_3_code, none),
  (⟨"LastSun", "answer", "(I)I"⟩, prog_1_method_37_code, some .int),
  (⟨"LastSun", "row", "(III)I"⟩, prog_1_method_2_code, some .int),
  (⟨"LastSunModel", "in", "(JJJ)Z"⟩, prog_10_method_3_code, some .boolean),
  (⟨"LastSunModel", "isRow", "(I)Z"⟩, prog_10_method_6_code, some .boolean),
  (⟨"LastSunModel", "found", "(I)I"⟩, prog_10_method_4_code, some .int),
  (⟨"LastSunModel", "well", "(I)I"⟩, prog_10_method_5_code, some .int),
  (⟨"LastSunModel", "row", "(III)I"⟩, prog_10_method_7_code, some .int),
  (⟨"LastSun$Row", "isMissing", "()Z"⟩, prog_7_method_2_code, some .boolean),
  (⟨"LastSun$Row", "hasPlaces", "(II)Z"⟩, prog_7_method_5_code, some .boolean),
  (⟨"LastSun$Row", "put", "(II)I"⟩, prog_7_method_6_code, some .int),
  (⟨"LastSun", "set", "(III)I"⟩, prog_1_method_3_code, some .int),
  (⟨"LastSunModel", "set", "(III)I"⟩, prog_10_method_8_code, some .int),
  (⟨"LastSun", "copy", "(IIIII)I"⟩, prog_1_method_4_code, some .int),
  (⟨"LastSunModel", "copy", "(IIIII)I"⟩, prog_10_method_9_code, some .int),
  (⟨"LastSun$Row", "lose", "()V"⟩, prog_7_method_4_code, none),
  (⟨"LastSun", "drop", "(I)I"⟩, prog_1_method_5_code, some .int),
  (⟨"LastSunModel", "drop", "(I)I"⟩, prog_10_method_10_code, some .int),
  (⟨"LastSun$Tape", "hasRoomFor", "(I)Z"⟩, prog_8_method_2_code, some .boolean),
  (⟨"LastSun$Tape", "append", "(JI)V"⟩, prog_8_method_3_code, none),
  (⟨"LastSun", "feed", "(JI)I"⟩, prog_1_method_6_code, some .int),
  (⟨"LastSunModel", "feed", "(JI)I"⟩, prog_10_method_11_code, some .int),
  (⟨"LastSun$Tape", "isBetween", "(ICC)Z"⟩, prog_8_method_18_code, some .boolean),
  (⟨"LastSun$Tape", "pass", "(CC)V"⟩, prog_8_method_17_code, none),
  (⟨"LastSun$Tape", "advance", "()V"⟩, prog_8_method_16_code, none),
  (⟨"LastSun$Beach", "clear", "()V"⟩, prog_3_method_3_code, none),
  (⟨"java/lang/String", "coder", "()B"⟩, prog_13_method_152_code, some .byte),
  (⟨"java/lang/String", "length", "()I"⟩, prog_13_method_54_code, some .int)]
def az_ys1 : List (MethodName × ByteArray × Option FieldType) := [(⟨"java/lang/String", "isLatin1", "()Z"⟩, prog_13_method_154_code, some .boolean),
  (⟨"jdk/internal/util/Preconditions", "checkIndex", "(IILjava/util/function/BiFunction;)I"⟩, prog_17_method_11_code, some .int),
  (⟨"java/lang/String", "checkIndex", "(II)V"⟩, prog_13_method_155_code, none),
  (⟨"java/lang/StringLatin1", "charAt", "([BI)C"⟩, prog_14_method_2_code, some .char),
  (⟨"java/lang/StringUTF16", "length", "([B)I"⟩, prog_15_method_6_code, some .int),
  (⟨"java/lang/StringUTF16", "checkIndex", "(I[B)V"⟩, prog_15_method_91_code, none),
  (⟨"java/lang/StringUTF16", "getChar", "([BI)C"⟩, prog_15_method_5_code, some .char),
  (⟨"java/lang/StringUTF16", "charAt", "([BI)C"⟩, prog_15_method_83_code, some .char),
  (⟨"java/lang/String", "charAt", "(I)C"⟩, prog_13_method_56_code, some .char),
  (⟨"LastSun$Tape", "isWord", "(Ljava/lang/String;)Z"⟩, prog_8_method_14_code, some .boolean),
  (⟨"LastSun$Tape", "fail", "(I)Z"⟩, prog_8_method_13_code, some .boolean),
  (⟨"LastSun$Tape", "takeWord", "(Ljava/lang/String;)Z"⟩, prog_8_method_9_code, some .boolean),
  (⟨"LastSun$Tape", "figuresRead", "()I"⟩, prog_8_method_15_code, some .int),
  (⟨"LastSun$Tape", "takeNumber", "(II)Z"⟩, prog_8_method_11_code, some .boolean),
  (⟨"LastSun$Tape", "takeSign", "()Z"⟩, prog_8_method_12_code, some .boolean),
  (⟨"LastSun$Tape", "readLaw", "(LLastSun$Beach;)Z"⟩, prog_8_method_5_code, some .boolean),
  (⟨"LastSun$Tape", "readSun", "(LLastSun$Beach;)Z"⟩, prog_8_method_6_code, some .boolean),
  (⟨"LastSun$Tape", "sortOf", "(I)Ljava/lang/String;"⟩, prog_8_method_19_code, some (.object "java/lang/String")),
  (⟨"LastSun$Tape", "takeSort", "()Z"⟩, prog_8_method_10_code, some .boolean),
  (⟨"LastSun$Tape", "readGuest", "(LLastSun$Beach;I)Z"⟩, prog_8_method_8_code, some .boolean),
  (⟨"LastSun$Tape", "readGuests", "(LLastSun$Beach;)Z"⟩, prog_8_method_7_code, some .boolean),
  (⟨"LastSun$Beach", "dawn", "()V"⟩, prog_3_method_4_code, none),
  (⟨"LastSun$Tape", "readBeach", "(LLastSun$Beach;)Z"⟩, prog_8_method_4_code, some .boolean),
  (⟨"LastSun$Beach", "become", "(LLastSun$Beach;)V"⟩, prog_3_method_2_code, none),
  (⟨"LastSun$Past", "forget", "()V"⟩, prog_6_method_4_code, none),
  (⟨"LastSun", "beach", "()I"⟩, prog_1_method_7_code, some .int),
  (⟨"LastSunModel", "sort", "(I)I"⟩, prog_10_method_12_code, some .int),
  (⟨"LastSunModel", "next", "()V"⟩, prog_10_method_13_code, none),
  (⟨"LastSunModel", "mustBe", "(Z)Z"⟩, prog_10_method_15_code, some .boolean),
  (⟨"LastSunModel", "isWord", "(J)Z"⟩, prog_10_method_17_code, some .boolean),
  (⟨"LastSunModel", "number", "(III)Z"⟩, prog_10_method_14_code, some .boolean),
  (⟨"LastSunModel", "ends", "()Z"⟩, prog_10_method_16_code, some .boolean),
  (⟨"LastSunModel", "kindHere", "()I"⟩, prog_10_method_18_code, some .int),
  (⟨"LastSunModel", "readsGuest", "()Z"⟩, prog_10_method_19_code, some .boolean),
  (⟨"LastSunModel", "reads", "()Z"⟩, prog_10_method_20_code, some .boolean),
  (⟨"LastSunModel", "copies", "([II[II)V"⟩, prog_10_method_23_code, none),
  (⟨"LastSunModel", "beach", "()I"⟩, prog_10_method_21_code, some .int),
  (⟨"LastSun", "fault", "()I"⟩, prog_1_method_8_code, some .int),
  (⟨"LastSunModel", "fault", "()I"⟩, prog_10_method_22_code, some .int),
  (⟨"LastSun$Past", "keep", "(LLastSun$Beach;)V"⟩, prog_6_method_2_code, none)]
def az_ys2 : List (MethodName × ByteArray × Option FieldType) := [(⟨"LastSun", "bit", "(II)I"⟩, prog_1_method_45_code, some .int),
  (⟨"LastSun", "isIn", "(II)Z"⟩, prog_1_method_44_code, some .boolean),
  (⟨"LastSun$Beach", "priceOf", "(I)I"⟩, prog_3_method_6_code, some .int),
  (⟨"LastSun", "hour", "()I"⟩, prog_1_method_9_code, some .int),
  (⟨"LastSunModel", "remember", "()V"⟩, prog_10_method_26_code, none),
  (⟨"LastSunModel", "priceOf", "(I)I"⟩, prog_10_method_25_code, some .int),
  (⟨"LastSunModel", "hour", "()I"⟩, prog_10_method_39_code, some .int),
  (⟨"LastSun$Beach", "has", "(I)Z"⟩, prog_3_method_5_code, some .boolean),
  (⟨"LastSun", "leave", "(I)I"⟩, prog_1_method_10_code, some .int),
  (⟨"LastSunModel", "isGuest", "(I)Z"⟩, prog_10_method_24_code, some .boolean),
  (⟨"LastSunModel", "leave", "(I)I"⟩, prog_10_method_40_code, some .int),
  (⟨"LastSun", "isHour", "(I)Z"⟩, prog_1_method_42_code, some .boolean),
  (⟨"LastSun", "cloud", "(I)I"⟩, prog_1_method_11_code, some .int),
  (⟨"LastSunModel", "cloud", "(I)I"⟩, prog_10_method_41_code, some .int),
  (⟨"LastSun", "shade", "(II)I"⟩, prog_1_method_12_code, some .int),
  (⟨"LastSunModel", "shade", "(II)I"⟩, prog_10_method_42_code, some .int),
  (⟨"LastSun", "gift", "(II)I"⟩, prog_1_method_13_code, some .int),
  (⟨"LastSunModel", "gift", "(II)I"⟩, prog_10_method_43_code, some .int),
  (⟨"LastSun$Beach", "hoursOf", "(I)I"⟩, prog_3_method_7_code, some .int),
  (⟨"LastSun$Beach", "joyAlone", "(II)I"⟩, prog_3_method_11_code, some .int),
  (⟨"LastSun$Day", "open", "(LLastSun$Beach;)V"⟩, prog_4_method_2_code, none),
  (⟨"LastSun$Day", "longest", "()I"⟩, prog_4_method_10_code, some .int),
  (⟨"LastSun$Day", "bill", "(I)I"⟩, prog_4_method_11_code, some .int),
  (⟨"LastSun$Day", "alike", "(III)I"⟩, prog_4_method_9_code, some .int),
  (⟨"LastSun$Day", "byWeight", "(III)I"⟩, prog_4_method_7_code, some .int),
  (⟨"LastSun$Day", "byHours", "(I)I"⟩, prog_4_method_8_code, some .int),
  (⟨"LastSun$Day", "share", "(I)I"⟩, prog_4_method_6_code, some .int),
  (⟨"LastSun$Day", "pay", "(I)I"⟩, prog_4_method_5_code, some .int),
  (⟨"LastSun$Beach", "grown", "(I)I"⟩, prog_3_method_10_code, some .int),
  (⟨"LastSun$Beach", "charge", "(II)V"⟩, prog_3_method_9_code, none),
  (⟨"LastSun$Day", "sum", "()I"⟩, prog_4_method_12_code, some .int),
  (⟨"LastSun", "sunset", "()I"⟩, prog_1_method_14_code, some .int),
  (⟨"LastSunModel", "layNow", "()V"⟩, prog_10_method_27_code, none),
  (⟨"LastSunModel", "longest", "()I"⟩, prog_10_method_29_code, some .int),
  (⟨"LastSunModel", "sum", "()I"⟩, prog_10_method_30_code, some .int),
  (⟨"LastSunModel", "heads", "(I)I"⟩, prog_10_method_28_code, some .int),
  (⟨"LastSunModel", "parts", "(II)V"⟩, prog_10_method_31_code, none),
  (⟨"LastSunModel", "share", "()V"⟩, prog_10_method_32_code, none),
  (⟨"LastSunModel", "payOf", "(I)I"⟩, prog_10_method_33_code, some .int),
  (⟨"LastSunModel", "least", "(I)I"⟩, prog_10_method_44_code, some .int)]
def az_ys3 : List (MethodName × ByteArray × Option FieldType) := [(⟨"LastSunModel", "sunset", "()I"⟩, prog_10_method_45_code, some .int),
  (⟨"LastSun$Past", "undoInto", "(LLastSun$Beach;)V"⟩, prog_6_method_3_code, none),
  (⟨"LastSun", "undo", "()I"⟩, prog_1_method_15_code, some .int),
  (⟨"LastSunModel", "undo", "()I"⟩, prog_10_method_46_code, some .int),
  (⟨"LastSun", "guest", "(II)I"⟩, prog_1_method_16_code, some .int),
  (⟨"LastSunModel", "guest", "(II)I"⟩, prog_10_method_47_code, some .int),
  (⟨"LastSun", "price", "(I)I"⟩, prog_1_method_17_code, some .int),
  (⟨"LastSunModel", "price", "(I)I"⟩, prog_10_method_48_code, some .int),
  (⟨"LastSun", "look", "(IZI)I"⟩, prog_1_method_38_code, some .int),
  (⟨"LastSun", "hear", "(IZ)I"⟩, prog_1_method_39_code, some .int),
  (⟨"LastSun$Day", "joyIn", "(II)I"⟩, prog_4_method_4_code, some .int),
  (⟨"LastSun$Day", "worthOf", "(I)I"⟩, prog_4_method_3_code, some .int),
  (⟨"LastSun", "worth", "(III)I"⟩, prog_1_method_18_code, some .int),
  (⟨"LastSunModel", "tells", "(IZI)I"⟩, prog_10_method_49_code, some .int),
  (⟨"LastSunModel", "joyOf", "(II)I"⟩, prog_10_method_34_code, some .int),
  (⟨"LastSunModel", "worthOf", "(I)I"⟩, prog_10_method_35_code, some .int),
  (⟨"LastSunModel", "worth", "(III)I"⟩, prog_10_method_50_code, some .int),
  (⟨"LastSun$Foretold", "bestOf", "(I)I"⟩, prog_5_method_2_code, some .int),
  (⟨"LastSun", "best", "(II)I"⟩, prog_1_method_19_code, some .int),
  (⟨"LastSunModel", "bestOf", "(I)I"⟩, prog_10_method_36_code, some .int),
  (⟨"LastSunModel", "best", "(II)I"⟩, prog_10_method_51_code, some .int),
  (⟨"LastSun$Foretold", "turns", "()I"⟩, prog_5_method_5_code, some .int),
  (⟨"LastSun", "rounds", "(II)I"⟩, prog_1_method_20_code, some .int),
  (⟨"LastSunModel", "turns", "()I"⟩, prog_10_method_38_code, some .int),
  (⟨"LastSunModel", "rounds", "(II)I"⟩, prog_10_method_52_code, some .int),
  (⟨"LastSun$Foretold", "forgetCommon", "()V"⟩, prog_5_method_9_code, none),
  (⟨"LastSun$Foretold", "countChoices", "()I"⟩, prog_5_method_11_code, some .int),
  (⟨"LastSun$Foretold", "choose", "(I)V"⟩, prog_5_method_12_code, none),
  (⟨"LastSun$Foretold", "isContent", "(I)Z"⟩, prog_5_method_3_code, some .boolean),
  (⟨"LastSun$Foretold", "isRest", "()Z"⟩, prog_5_method_4_code, some .boolean),
  (⟨"LastSun$Foretold", "countRests", "()I"⟩, prog_5_method_6_code, some .int),
  (⟨"LastSun", "rests", "(I)I"⟩, prog_1_method_21_code, some .int),
  (⟨"LastSunModel", "rows", "()I"⟩, prog_10_method_54_code, some .int),
  (⟨"LastSunModel", "tellBy", "(I)V"⟩, prog_10_method_53_code, none),
  (⟨"LastSunModel", "isRest", "()Z"⟩, prog_10_method_37_code, some .boolean),
  (⟨"LastSunModel", "rests", "(I)I"⟩, prog_10_method_55_code, some .int),
  (⟨"LastSun$Foretold", "agree", "(II)I"⟩, prog_5_method_13_code, some .int),
  (⟨"LastSun", "pact", "(IIII)I"⟩, prog_1_method_22_code, some .int),
  (⟨"LastSunModel", "pact", "(IIII)I"⟩, prog_10_method_56_code, some .int),
  (⟨"LastSun$Foretold", "meanAlone", "(LLastSun$Beach;II)J"⟩, prog_5_method_14_code, some .long)]
def az_ys4 : List (MethodName × ByteArray × Option FieldType) := [(⟨"LastSun$Foretold", "commonDivisor", "(JJ)J"⟩, prog_5_method_15_code, some .long),
  (⟨"LastSun", "alone", "(III)I"⟩, prog_1_method_23_code, some .int),
  (⟨"LastSunModel", "alone", "(III)I"⟩, prog_10_method_57_code, some .int),
  (⟨"LastSun$Foretold", "isPaid", "([I)Z"⟩, prog_5_method_8_code, some .boolean),
  (⟨"LastSun$Foretold", "meetCommon", "(Z)V"⟩, prog_5_method_10_code, none),
  (⟨"LastSun$Foretold", "explain", "([I)I"⟩, prog_5_method_7_code, some .int),
  (⟨"LastSun", "explained", "(II)I"⟩, prog_1_method_24_code, some .int),
  (⟨"LastSunModel", "explained", "(II)I"⟩, prog_10_method_58_code, some .int),
  (⟨"LastSun$Foretold", "gapOfWorths", "()I"⟩, prog_5_method_17_code, some .int),
  (⟨"LastSun$Foretold", "fairestSplit", "()I"⟩, prog_5_method_16_code, some .int),
  (⟨"LastSun$Foretold", "restingSplits", "()I"⟩, prog_5_method_18_code, some .int),
  (⟨"LastSun", "laws", "(II)I"⟩, prog_1_method_25_code, some .int),
  (⟨"LastSunModel", "laws", "(II)I"⟩, prog_10_method_59_code, some .int),
  (⟨"LastSun$Foretold", "ownersPrice", "()I"⟩, prog_5_method_19_code, some .int),
  (⟨"LastSun", "owner", "(II)I"⟩, prog_1_method_26_code, some .int),
  (⟨"LastSunModel", "owner", "(II)I"⟩, prog_10_method_60_code, some .int),
  (⟨"LastSun", "owes", "(II)I"⟩, prog_1_method_27_code, some .int),
  (⟨"LastSunModel", "owes", "(II)I"⟩, prog_10_method_61_code, some .int),
  (⟨"LastSun", "image", "(I)I"⟩, prog_1_method_28_code, some .int),
  (⟨"LastSunModel", "image", "(I)I"⟩, prog_10_method_62_code, some .int),
  (⟨"LastSun", "restore", "(I)I"⟩, prog_1_method_29_code, some .int),
  (⟨"LastSunModel", "restore", "(I)I"⟩, prog_10_method_63_code, some .int),
  (⟨"LastSun", "kind", "(I)I"⟩, prog_1_method_30_code, some .int),
  (⟨"LastSunModel", "kind", "(I)I"⟩, prog_10_method_64_code, some .int),
  (⟨"LastSun$Asks", "isKindOf", "(II)Z"⟩, prog_2_method_2_code, some .boolean),
  (⟨"LastSun", "as", "(II)I"⟩, prog_1_method_31_code, some .int),
  (⟨"LastSunModel", "isOf", "(II)Z"⟩, prog_10_method_65_code, some .boolean),
  (⟨"LastSunModel", "as", "(II)I"⟩, prog_10_method_66_code, some .int),
  (⟨"LastSun$Asks", "note", "(I)V"⟩, prog_2_method_6_code, none),
  (⟨"LastSun$Asks", "markAs", "(LLastSun$Beach;III)I"⟩, prog_2_method_5_code, some .int),
  (⟨"LastSun$Asks", "sizeAs", "(LLastSun$Beach;III)I"⟩, prog_2_method_4_code, some .int),
  (⟨"LastSun$Asks", "markAs", "(LLastSun$Beach;III)I"⟩, prog_2_method_5_code, some .int),
  (⟨"LastSun$Asks", "sizeAs", "(LLastSun$Beach;III)I"⟩, prog_2_method_4_code, some .int),
  (⟨"LastSun$Asks", "markAs", "(LLastSun$Beach;III)I"⟩, prog_2_method_5_code, some .int),
  (⟨"LastSun$Asks", "sizeAs", "(LLastSun$Beach;III)I"⟩, prog_2_method_4_code, some .int),
  (⟨"LastSun$Asks", "markAs", "(LLastSun$Beach;III)I"⟩, prog_2_method_5_code, some .int),
  (⟨"LastSun$Asks", "sizeAs", "(LLastSun$Beach;III)I"⟩, prog_2_method_4_code, some .int),
  (⟨"LastSun$Asks", "markAs", "(LLastSun$Beach;III)I"⟩, prog_2_method_5_code, some .int),
  (⟨"LastSun$Asks", "sizeAs", "(LLastSun$Beach;III)I"⟩, prog_2_method_4_code, some .int),
  (⟨"LastSun$Asks", "markAs", "(LLastSun$Beach;III)I"⟩, prog_2_method_5_code, some .int)]
def az_ys5 : List (MethodName × ByteArray × Option FieldType) := [(⟨"LastSun$Asks", "sizeAs", "(LLastSun$Beach;III)I"⟩, prog_2_method_4_code, some .int),
  (⟨"LastSun$Asks", "markAs", "(LLastSun$Beach;III)I"⟩, prog_2_method_5_code, some .int),
  (⟨"LastSun$Asks", "sizeAs", "(LLastSun$Beach;III)I"⟩, prog_2_method_4_code, some .int),
  (⟨"LastSun$Asks", "begin", "(LLastSun$Beach;II)I"⟩, prog_2_method_3_code, some .int),
  (⟨"LastSun", "ask", "(II)I"⟩, prog_1_method_32_code, some .int),
  (⟨"LastSunModel", "leave", "(J)V"⟩, prog_10_method_67_code, none),
  (⟨"LastSunModel", "mark", "(I)I"⟩, prog_10_method_68_code, some .int),
  (⟨"LastSunModel", "sizeOf", "(I)I"⟩, prog_10_method_69_code, some .int),
  (⟨"LastSunModel", "ask", "(II)I"⟩, prog_10_method_70_code, some .int),
  (⟨"LastSun", "trace", "(I)I"⟩, prog_1_method_33_code, some .int),
  (⟨"LastSunModel", "trace", "(I)I"⟩, prog_10_method_71_code, some .int),
  (⟨"LastSun", "countRows", "()I"⟩, prog_1_method_40_code, some .int),
  (⟨"java/lang/Integer", "bitCount", "(I)I"⟩, prog_11_method_49_code, some .int),
  (⟨"LastSun$Beach", "debtOfAll", "()I"⟩, prog_3_method_8_code, some .int),
  (⟨"LastSun", "count", "(I)I"⟩, prog_1_method_34_code, some .int),
  (⟨"LastSunModel", "count", "(I)I"⟩, prog_10_method_72_code, some .int),
  (⟨"LastSun", "status", "()I"⟩, prog_1_method_35_code, some .int),
  (⟨"LastSunModel", "status", "()I"⟩, prog_10_method_73_code, some .int),
  (⟨"LastSunLaw", "law", "([I)Z"⟩, code, some .boolean)]
def az_ys : List (MethodName × ByteArray × Option FieldType) := az_ys0 ++ az_ys1 ++ az_ys2 ++ az_ys3 ++ az_ys4 ++ az_ys5
def az_cps : List Nat := [97, 185, 217, 242, 236, 299, 313, 86, 923, 368, 365, 373, 378, 382, 362, 1012, 1008, 1018, 1023, 1005, 390, 394, 398, 386, 1027, 402, 1031, 413, 409, 1035, 421, 426, 417, 1039, 442, 446, 438, 450, 471, 467, 481, 492, 487, 484, 501, 498, 505, 495, 477, 463, 515, 459, 523, 519, 527, 454, 531, 548, 545, 540, 536, 557, 434, 562, 567, 430, 1062, 1059, 1074, 1055, 1078, 1082, 1092, 1087, 1050, 1101, 1046, 571, 1105, 580, 594, 591, 588, 575, 1114, 1118, 1109, 602, 598, 1126, 1122, 611, 608, 1130, 615, 1135, 619, 1139, 634, 638, 628, 650, 654, 658, 662, 667, 646, 642, 675, 671, 680, 624, 1148, 1156, 1160, 1168, 1164, 1152, 1173, 1176, 1144, 688, 684, 1180, 692, 1184, 697, 1189, 709, 705, 717, 713, 701, 1197, 1205, 1201, 1193, 727, 723, 1213, 1209, 737, 733, 1221, 1217, 751, 755, 759, 767, 763, 747, 743, 1229, 1233, 1237, 1225, 776, 772, 1241, 787, 796, 783, 1245, 809, 814, 805, 800, 1249, 827, 822, 835, 818, 1254, 843, 839, 1258, 849, 1262, 854, 1267, 858, 1271, 862, 1275, 869, 866, 1282, 1279, 888, 892, 884, 892, 884, 892, 884, 892, 884, 892, 884, 892, 884, 892, 884, 880, 876, 1297, 1290, 1304, 1286, 896, 1311, 904, 907, 914, 900, 1315, 918, 1319, 0]
def az_y (M : Nat) : MethodName := (az_ys.getD M (⟨"", "", ""⟩, code, none)).1
def az_by (M : Nat) : ByteArray := (az_ys.getD M (⟨"", "", ""⟩, code, none)).2.1
def az_re (M : Nat) : Option FieldType := (az_ys.getD M (⟨"", "", ""⟩, code, none)).2.2
def az_Fl : List (List (String × String × String × Bool)) := [[("LastSun$Asks", "numbers", "[I", true), ("LastSun$Asks", "length", "I", false)],
  [("LastSun$Beach", "prices", "[I", true), ("LastSun$Beach", "kinds", "[I", true), ("LastSun$Beach", "warmths", "[I", true), ("LastSun$Beach", "burns", "[I", true), ("LastSun$Beach", "purses", "[I", true), ("LastSun$Beach", "debts", "[I", true), ("LastSun$Beach", "stays", "[I", true), ("LastSun$Beach", "stands", "Z", false), ("LastSun$Beach", "split", "I", false), ("LastSun$Beach", "fee", "I", false), ("LastSun$Beach", "guests", "I", false), ("LastSun$Beach", "hours", "I", false), ("LastSun$Beach", "days", "I", false), ("LastSun$Beach", "there", "I", false), ("LastSun$Beach", "shaded", "I", false), ("LastSun$Beach", "clouds", "I", false)],
  [("LastSun$Day", "prices", "[I", true), ("LastSun$Day", "heads", "[I", true), ("LastSun$Day", "fees", "[I", true), ("LastSun$Day", "company", "[I", true), ("LastSun$Day", "joys", "[I", true), ("LastSun$Day", "stays", "[I", true), ("LastSun$Day", "guests", "I", false), ("LastSun$Day", "split", "I", false)],
  [("LastSun$Foretold", "day", "LLastSun$Day;", true), ("LastSun$Foretold", "worths", "[I", true), ("LastSun$Foretold", "told", "[I", true), ("LastSun$Foretold", "common", "[I", true), ("LastSun$Foretold", "ownersSum", "I", false)],
  [("LastSun$Past", "kept", "[LLastSun$Beach;", true), ("LastSun$Past", "next", "I", false), ("LastSun$Past", "acts", "I", false)],
  [("LastSun$Row", "items", "[I", true), ("LastSun$Row", "lane", "I", false), ("LastSun$Row", "size", "I", false)],
  [("LastSun$Tape", "bytes", "[B", true), ("LastSun$Tape", "length", "I", false), ("LastSun$Tape", "token", "I", false), ("LastSun$Tape", "from", "I", false), ("LastSun$Tape", "to", "I", false), ("LastSun$Tape", "value", "I", false), ("LastSun$Tape", "fault", "I", false)],
  [("LastSun", "rows", "[LLastSun$Row;", true), ("LastSun", "images", "[LLastSun$Beach;", true), ("LastSun", "beach", "LLastSun$Beach;", true), ("LastSun", "draft", "LLastSun$Beach;", true), ("LastSun", "tape", "LLastSun$Tape;", true), ("LastSun", "past", "LLastSun$Past;", true), ("LastSun", "foretold", "LLastSun$Foretold;", true), ("LastSun", "day", "LLastSun$Day;", true), ("LastSun", "asks", "LLastSun$Asks;", true), ("LastSun", "status", "I", false)],
  [("LastSunModel", "lanes", "[I", true), ("LastSunModel", "sizes", "[I", true), ("LastSunModel", "items", "[I", true), ("LastSunModel", "status", "I", false), ("LastSunModel", "tape", "[I", true), ("LastSunModel", "taped", "I", false), ("LastSunModel", "fault", "I", false), ("LastSunModel", "isBeach", "Z", false), ("LastSunModel", "now", "[I", true), ("LastSunModel", "acts", "I", false), ("LastSunModel", "before", "[I", true), ("LastSunModel", "images", "[I", true), ("LastSunModel", "kept", "[Z", true), ("LastSunModel", "traced", "I", false), ("LastSunModel", "trace", "[I", true), ("LastSunModel", "at", "I", false), ("LastSunModel", "begin", "I", false), ("LastSunModel", "token", "I", false), ("LastSunModel", "value", "J", false), ("LastSunModel", "size", "I", false), ("LastSunModel", "read", "[I", true), ("LastSunModel", "told", "[I", true), ("LastSunModel", "costs", "[I", true), ("LastSunModel", "split", "I", false), ("LastSunModel", "shares", "[I", true)]]
def az_Ty : List (List FieldType) := [[.array .int, .int],
  [.array .int, .array .int, .array .int, .array .int, .array .int, .array .int, .array .int, .boolean, .int, .int, .int, .int, .int, .int, .int, .int],
  [.array .int, .array .int, .array .int, .array .int, .array .int, .array .int, .int, .int],
  [.object "LastSun$Day", .array .int, .array .int, .array .int, .int],
  [.array (.object "LastSun$Beach"), .int, .int],
  [.array .int, .int, .int],
  [.array .byte, .int, .int, .int, .int, .int, .int],
  [.array (.object "LastSun$Row"), .array (.object "LastSun$Beach"), .object "LastSun$Beach", .object "LastSun$Beach", .object "LastSun$Tape", .object "LastSun$Past", .object "LastSun$Foretold", .object "LastSun$Day", .object "LastSun$Asks", .int],
  [.array .int, .array .int, .array .int, .int, .array .int, .int, .int, .boolean, .array .int, .int, .array .int, .array .int, .array .boolean, .int, .array .int, .int, .int, .int, .long, .int, .array .int, .array .int, .array .int, .int, .array .int]]
def az_Tc : List (List Nat) := [[2, 0], [2, 2, 2, 2, 2, 2, 2, 3, 0, 0, 0, 0, 0, 0, 0, 0], [2, 2, 2, 2, 2, 2, 0, 0], [2, 2, 2, 2, 0], [2, 0, 0], [2, 0, 0], [2, 0, 0, 0, 0, 0, 0], [2, 2, 2, 2, 2, 2, 2, 2, 2, 0], [2, 2, 2, 0, 2, 0, 0, 3, 2, 0, 2, 2, 2, 0, 2, 0, 0, 0, 1, 0, 2, 2, 2, 0, 2]]
def az_Rn : List String := ["LastSun$Asks", "LastSun$Beach", "LastSun$Day", "LastSun$Foretold", "LastSun$Past", "LastSun$Row", "LastSun$Tape", "LastSun", "LastSunModel"]
def az_R (c : Nat) : String := az_Rn.getD c "java/lang/String"
def az_T (c : Nat) : u_T := fun k => (az_Fl.getD c []).getD k ("", "", "", false)
def az_t (c : Nat) : Nat → FieldType := fun k => (az_Ty.getD c []).getD k .int
def az_tc (c k : Nat) : Nat := (az_Tc.getD c []).getD k 0
def az_N (c : Nat) : Nat := (az_Fl.getD c []).length
def az_cls : List vw_C := (List.range 9).map fun c => (az_R c, az_T c, az_N c)
def az_lps : List (List Nat) := [[305, 307], [147, 149, 151, 153, 155, 157, 159, 161, 163, 165, 167, 169, 171, 173, 175, 177], [259, 261, 263, 265, 267, 269, 271, 273], [284, 286, 288, 290, 292], [225, 227, 229], [321, 323, 325], [197, 199, 201, 203, 205, 207, 209], [338, 340, 342, 344, 346, 348, 350, 352, 354, 356], [950, 952, 954, 956, 958, 960, 962, 964, 966, 968, 970, 972, 974, 976, 978, 980, 982, 984, 986, 988, 990, 992, 994, 996, 998]]
def az_ips : List Nat := [296, 94, 239, 233, 214, 310, 182, 83, 920]
def az_nests : List (String × Nat × MethodName) := [("LastSun", 21, ⟨"LastSun$Beach", "<init>", "()V"⟩), ("LastSun", 31, ⟨"LastSun$Tape", "<init>", "()V"⟩), ("LastSun$Past", 15, ⟨"LastSun$Beach", "<init>", "()V"⟩), ("LastSun", 45, ⟨"LastSun$Foretold", "<init>", "()V"⟩), ("LastSun$Foretold", 11, ⟨"LastSun$Day", "<init>", "()V"⟩), ("LastSun", 57, ⟨"LastSun$Asks", "<init>", "()V"⟩), ("LastSun", 62, ⟨"LastSun$Row", "<init>", "()V"⟩), ("LastSun$Beach", 72, ⟨"LastSun", "isIn", "(II)Z"⟩), ("LastSun$Beach", 68, ⟨"LastSun", "isOneOf", "(II)Z"⟩), ("LastSun$Day", 51, ⟨"LastSun", "isIn", "(II)Z"⟩)]

def az_good : List Cond := lw_tbl.filter goodWord
def az_hw (k : Int) (w : Cond) : Bool := decide (lw_tbl[k.toNat]? = some w) && goodWord w
theorem az_hw_in {k : Int} {w : Cond} (h : az_hw k w = true) : w ∈ az_good := by
  simp only [az_hw, Bool.and_eq_true, decide_eq_true_eq] at h
  exact List.mem_filter.mpr ⟨List.mem_of_getElem? h.1, h.2⟩
theorem az_good_ok : ∀ w ∈ az_good, (w.onTables && w.keeps) = true ∨ ∃ ty, w = .arrayClass ty := fun _ h => good_of_word (List.mem_filter.mp h).2
def az_len (i : Instr) : Nat := match i with
  | .bipush _ => 2
  | .ldc _ => 2
  | .newarray _ => 2
  | .iload _ => 2
  | .lload _ => 2
  | .aload _ => 2
  | .istore _ => 2
  | .lstore _ => 2
  | .astore _ => 2
  | .sipush _ => 3
  | .ldc_w _ => 3
  | .ldc2_w _ => 3
  | .iinc _ _ => 3
  | .if_icmp _ _ => 3
  | .ifCond _ _ => 3
  | .goto _ => 3
  | .getfield _ => 3
  | .putfield _ => 3
  | .getstatic _ => 3
  | .new _ => 3
  | .anewarray _ => 3
  | .invokevirtual _ => 3
  | .invokestatic _ => 3
  | .invokespecial _ => 3
  | .tableswitch _ _ _ _ => 0
  | .lookupswitch _ _ => 0
  | _ => 1
def az_dec (b : ByteArray) (pc : Nat) (i : Instr) : Bool := match decode b pc with
  | .ok q => decide (q.1 = i) && (decide (az_len i = 0) || decide (q.2 = az_len i))
  | .error _ => false
def az_r32 (v : Int) : Bool := decide (-2147483648 ≤ v ∧ v < 2147483648)
def az_r64 (v : Int) : Bool := decide (-9223372036854775808 ≤ v ∧ v < 9223372036854775808)
def az_six : List (Nat × String) := [(47, "law"), (70, "sun"), (86, "guest"), (143, "lone"), (145, "aunt"), (147, "child"), (149, "band"), (151, "clan")]
def az_flat (pc : Nat) (ps : List (Int × Int)) : List Int := ps.flatMap fun q => [q.1, (pc : Int) + q.2]
def az_fld (o : String) (x : Nat) (f : List Int) : Bool := match f with
  | [] => true
  | [c, k, t, q] =>
    if c = 9 then (decide (k = 0 ∧ t = 2) && az_hw q (.fieldLink o x "java/lang/String" "value" "[B")) || (decide (k = 1 ∧ t = 0) && az_hw q (.fieldLink o x "java/lang/String" "coder" "B"))
    else decide (0 ≤ c ∧ c < 9 ∧ 0 ≤ k ∧ k.toNat < az_N c.toNat ∧ t = (az_tc c.toNat k.toNat : Int)) && az_hw q (.fieldLink o x (az_R c.toNat) (az_T c.toNat k.toNat).2.1 (az_T c.toNat k.toNat).2.2.1) && decide ((az_T c.toNat k.toNat).1 = az_R c.toNat)
  | _ => false
def az_invc (M : Nat) (o : String) (x : Nat) (v : Nat) (kd M' n c q1 q2 q3 q4 : Int) : Bool :=
    decide (0 ≤ M' ∧ M' < (M : Int) ∧ 0 ≤ n) && (let y := az_y M'.toNat
      decide (y.cls ≠ "java/lang/invoke/MethodHandle" ∧ y.cls ≠ "java/lang/invoke/VarHandle") && az_hw q4 (.initialized y.cls) &&
      (match v with
        | 1 => decide (0 ≤ c ∧ az_R c.toNat = y.cls ∧ c ≤ 9 ∧ 1 ≤ n ∧ (parseMethodDescriptor y.desc).map (fun d => d.parameters.length) = some (n.toNat - 1)) && decide (kd = 1) && az_hw q1 (.methodLink o x y) && az_hw q2 (.instanceMethod y) && az_hw q3 (.selects y.cls y y)
        | 2 => decide ((parseMethodDescriptor y.desc).map (fun d => d.parameters.length) = some n.toNat) && ((decide (kd = 2) && az_hw q1 (.methodLink o x y)) || (decide (kd = 5) && decide ((o, x, y) ∈ az_nests))) && az_hw q2 (.static y)
        | _ => decide (0 ≤ c ∧ az_R c.toNat = y.cls ∧ c ≤ 8 ∧ 1 ≤ n ∧ (parseMethodDescriptor y.desc).map (fun d => d.parameters.length) = some (n.toNat - 1)) && ((decide (kd = 3) && az_hw q1 (.methodLink o x y)) || (decide (kd = 6) && decide ((o, x, y) ∈ az_nests))) && az_hw q2 (.instanceMethod y) && decide (y.name = "<init>" ∧ az_re M'.toNat = none)))
def az_invk (M : Nat) (o : String) (x : Nat) (v : Nat) (f : List Int) : Bool := match f with
  | [] => true
  | [0, q1, q2] => decide (v = 3) && az_hw q1 (.methodLink o x Lib.objectInit) && az_hw q2 (.instanceMethod Lib.objectInit)
  | [9, q1, q2, q3, q4] => decide (v = 2) && az_hw q1 (.methodLink o x arraycopyName) && az_hw q2 (.native arraycopyName) && az_hw q3 (.static arraycopyName) && az_hw q4 (.initialized "java/lang/System")
  | [7, k, q1, q2, q3, q4] => decide (v = 2) && az_hw q3 (.initialized "java/lang/Math") &&
      (if k = 0 then az_hw q1 (.methodLink o x Lib.Math.max.name) && az_hw q2 (.static Lib.Math.max.name) && az_hw q4 (.code Lib.Math.max.name Lib.Math.max.code 2 (some .int))
       else if k = 1 then az_hw q1 (.methodLink o x Lib.Math.min.name) && az_hw q2 (.static Lib.Math.min.name) && az_hw q4 (.code Lib.Math.min.name Lib.Math.min.code 2 (some .int))
       else decide (k = 2) && az_hw q1 (.methodLink o x Lib.MathLoose.max_long.x) && az_hw q2 (.static Lib.MathLoose.max_long.x) && az_hw q4 (.code Lib.MathLoose.max_long.x Lib.MathLoose.max_long.code 4 (some .long)))
  | [kd, M', n, c, q1, q2, q3, q4] => az_invc M o x v kd M' n c q1 q2 q3 q4
  | _ => false
def az_res (M pc : Nat) (i : Instr) (f : List Int) : Bool := match i with
  | .iconst n => decide (-1 ≤ n ∧ n ≤ 5)
  | .bipush n => decide (-128 ≤ n ∧ n < 128)
  | .sipush n => decide (-32768 ≤ n ∧ n < 32768)
  | .iinc _ c => decide (-128 ≤ c ∧ c < 128)
  | .ldc x => (match f with
      | [] => true
      | [0, v, q] => az_r32 v && az_hw q (.constant (az_y M).cls x (Int32.ofInt v))
      | [1, k, _] => decide ((az_y M).cls = "LastSun$Tape" ∧ 3 ≤ k ∧ k < 11 ∧ (az_six.map (·.1))[k.toNat - 3]? = some x)
      | _ => false)
  | .ldc_w x => (match f with
      | [] => true
      | [0, v, q] => az_r32 v && az_hw q (.constant (az_y M).cls x (Int32.ofInt v))
      | _ => false)
  | .ldc2_w x => (match f with
      | [] => true
      | [0, v, q] => az_r64 v && az_hw q (.constantLong (az_y M).cls x (Int64.ofInt v))
      | _ => false)
  | .if_icmp _ off => decide (f = [(pc : Int) + off] ∧ 0 ≤ (pc : Int) + off)
  | .ifCond _ off => decide (f = [(pc : Int) + off] ∧ 0 ≤ (pc : Int) + off)
  | .goto off => decide (f = [(pc : Int) + off] ∧ 0 ≤ (pc : Int) + off)
  | .tableswitch d lo hi os => decide (f = ((pc : Int) + d) :: os.toList.map (fun o => (pc : Int) + o) ∧ 0 ≤ (pc : Int) + d ∧ os.toList.all (fun o => decide (0 ≤ (pc : Int) + o)) = true ∧ hi - lo + 1 = (os.size : Int))
  | .lookupswitch d ps => decide (f = ((pc : Int) + d) :: az_flat pc ps.toList ∧ 0 ≤ (pc : Int) + d ∧ ps.toList.all (fun q => decide (0 ≤ (pc : Int) + q.2)) = true ∧ (ps.toList.zip (ps.toList.drop 1)).all (fun (a, next) => a.1 < next.1) = true)
  | .getfield x => az_fld (az_y M).cls x f
  | .putfield x => az_fld (az_y M).cls x f && (match f with
      | c :: k :: _ => decide (c ≠ 9) && (!(az_T c.toNat k.toNat).2.2.2 || decide ((az_y M).name = "<init>" ∧ (az_T c.toNat k.toNat).1 = (az_y M).cls))
      | _ => true)
  | .getstatic x => (match f with
      | [] => true
      | [0, q] => az_hw q (.fieldLink (az_y M).cls x "LastSun$Asks" "ABOVE" "[I")
      | [1, q] => az_hw q (.fieldLink (az_y M).cls x "java/lang/String" "COMPACT_STRINGS" "Z")
      | [2, q] => az_hw q (.fieldLink (az_y M).cls x "jdk/internal/util/Preconditions" "SIOOBE_FORMATTER" "Ljava/util/function/BiFunction;")
      | _ => false)
  | .new x => (match f with
      | [] => true
      | [c, n, q1, q2, q3] => decide (0 ≤ c ∧ c < 9 ∧ n = (az_N c.toNat : Int)) && az_hw q1 (.classLink (az_y M).cls x (az_R c.toNat)) && az_hw q2 (.instantiable (az_R c.toNat) (az_N c.toNat)) && az_hw q3 (.initialized (az_R c.toNat))
      | _ => false)
  | .newarray t => (match f with
      | [] => true
      | [k, q] => ((decide (k = 20 ∧ t = .int) && az_hw q (.arrayClass .int)) || (decide (k = 21 ∧ t = .byte) && az_hw q (.arrayClass .byte)) || (decide (k = 22 ∧ t = .boolean) && az_hw q (.arrayClass .boolean)))
      | _ => false)
  | .anewarray x => (match f with
      | [] => true
      | [k, q1, q2] => (decide (k = 23) && az_hw q1 (.classLink (az_y M).cls x "LastSun$Row") && decide (q2 = q2)) || (decide (k = 24) && az_hw q1 (.classLink (az_y M).cls x "LastSun$Beach") && decide (q2 = q2))
      | _ => false)
  | .invokevirtual x => az_invk M (az_y M).cls x 1 f
  | .invokestatic x => az_invk M (az_y M).cls x 2 f
  | .invokespecial x => az_invk M (az_y M).cls x 3 f
  | _ => true
def az_okc (M : Nat) : aC → Bool
  | [] => true
  | e :: l => az_dec (az_by M) e.1 e.2.1 && az_res M e.1 e.2.1 e.2.2 && (match l with
      | [] => true
      | e2 :: _ => decide (az_len e.2.1 = 0) || decide (e2.1 = e.1 + az_len e.2.1)) && az_okc M l
theorem az_lay_ok : (List.range 9).all (fun c => decide ((u_ws (az_R c) (az_T c) (az_N c)).length = (az_lps.getD c []).length) && ((u_ws (az_R c) (az_T c) (az_N c)).zip (az_lps.getD c [])).all (fun q => az_hw q.2 q.1)) = true := by decide +kernel
theorem az_lay_in {c : Nat} (hc : c < 9) : ∀ w ∈ u_ws (az_R c) (az_T c) (az_N c), w ∈ az_good := by
  intro w hw
  have h := List.all_eq_true.mp az_lay_ok c (List.mem_range.mpr hc)
  simp only [Bool.and_eq_true, decide_eq_true_eq] at h
  obtain ⟨i, hi⟩ := List.getElem?_of_mem hw
  have hl : i < (az_lps.getD c []).length := by rw [← h.1]; exact (List.getElem?_eq_some_iff.mp hi).1
  have h2 := List.all_eq_true.mp h.2 (w, (az_lps.getD c [])[i]) (List.mem_of_getElem? (i := i) (by rw [List.getElem?_zip_eq_some]; exact ⟨hi, List.getElem?_eq_getElem hl⟩))
  exact az_hw_in h2
theorem az_cls_at {c : Nat} (hc : c < 9) : az_cls[c]? = some (az_R c, az_T c, az_N c) := by
  unfold az_cls
  rw [List.getElem?_map, List.getElem?_range hc]
  rfl
theorem az_ty_ok : (List.range 9).all (fun c => (List.range (az_N c)).all (fun k => decide (parseFieldDescriptor (az_T c k).2.2.1 = some (az_t c k)) && (List.range (az_N c)).all (fun j => decide (k = j) || decide ((az_T c k).2.1 ≠ (az_T c j).2.1)))) = true := by decide +kernel
theorem az_ty_at {c k : Nat} (hc : c < 9) (hk : k < az_N c) : parseFieldDescriptor (az_T c k).2.2.1 = some (az_t c k) := by
  have h := List.all_eq_true.mp (List.all_eq_true.mp az_ty_ok c (List.mem_range.mpr hc)) k (List.mem_range.mpr hk)
  simp only [Bool.and_eq_true, decide_eq_true_eq] at h
  exact h.1
theorem az_nm_at {c : Nat} (hc : c < 9) : ∀ a, a < az_N c → ∀ b, b < az_N c → a ≠ b → (az_T c a).2.1 ≠ (az_T c b).2.1 := by
  intro a ha b hb hne
  have h := List.all_eq_true.mp (List.all_eq_true.mp az_ty_ok c (List.mem_range.mpr hc)) a (List.mem_range.mpr ha)
  simp only [Bool.and_eq_true] at h
  have h2 := List.all_eq_true.mp h.2 b (List.mem_range.mpr hb)
  simp only [Bool.or_eq_true, decide_eq_true_eq] at h2
  exact h2.resolve_left hne
/-- the first n entries alone -/
def az_okp (M : Nat) : Nat → aC → Bool
  | 0, _ => true
  | _ + 1, [] => true
  | n + 1, e :: l => az_dec (az_by M) e.1 e.2.1 && az_res M e.1 e.2.1 e.2.2 && (match l with
      | [] => true
      | e2 :: _ => decide (az_len e.2.1 = 0) || decide (e2.1 = e.1 + az_len e.2.1)) && az_okp M n l
theorem az_okp_ok (M : Nat) : ∀ (n : Nat) (c : aC), az_okp M n c = true → az_okc M (c.drop n) = true → az_okc M c = true
  | 0, c, _, h => h
  | n + 1, [], _, _ => rfl
  | n + 1, e :: l, h, h2 => by
    simp only [az_okp, Bool.and_eq_true] at h
    simp only [az_okc, Bool.and_eq_true]
    exact ⟨h.1, az_okp_ok M n l h.2 h2⟩
/-- of a method: its name, its return type, its locals -/
def az_okm (M : Nat) : Bool := plainName (az_y M).cls && decide (az_ml M ≤ 40 ∧ (az_cd M).head?.map (·.1) = some 0) &&
  (match az_rt M with
    | 0 => decide (az_re M = none)
    | 1 => decide (az_re M = some .int)
    | 2 => decide (az_re M = some .boolean)
    | 3 => decide (az_re M = some .long)
    | 4 => decide (az_re M = some (.object "java/lang/String"))
    | 5 => decide (az_re M = some .char)
    | _ => decide (az_re M = some .byte))
def az_cw (M : Nat) : Prop := Cond.code (az_y M) (az_by M) (az_ml M) (az_re M) ∈ az_good
theorem az_cw_of {M : Nat} (k : Nat) (h : lw_tbl[k]? = some (Cond.code (az_y M) (az_by M) (az_ml M) (az_re M))) : az_cw M := List.mem_filter.mpr ⟨List.mem_of_getElem? h, rfl⟩
end
section
theorem az_okms : (List.range 219).all az_okm = true := by decide +kernel
set_option maxRecDepth 100000 in
theorem az_cw_0 : az_cw 0 := az_cw_of 97 rfl
set_option maxRecDepth 100000 in
theorem az_cw_1 : az_cw 1 := az_cw_of 185 rfl
set_option maxRecDepth 100000 in
theorem az_cw_2 : az_cw 2 := az_cw_of 217 rfl
set_option maxRecDepth 100000 in
theorem az_cw_3 : az_cw 3 := az_cw_of 242 rfl
set_option maxRecDepth 100000 in
theorem az_cw_4 : az_cw 4 := az_cw_of 236 rfl
set_option maxRecDepth 100000 in
theorem az_cw_5 : az_cw 5 := az_cw_of 299 rfl
set_option maxRecDepth 100000 in
theorem az_cw_6 : az_cw 6 := az_cw_of 313 rfl
set_option maxRecDepth 100000 in
theorem az_cw_7 : az_cw 7 := az_cw_of 86 rfl
set_option maxRecDepth 100000 in
theorem az_cw_8 : az_cw 8 := az_cw_of 923 rfl
set_option maxRecDepth 100000 in
theorem az_cw_9 : az_cw 9 := az_cw_of 368 rfl
set_option maxRecDepth 100000 in
theorem az_cw_10 : az_cw 10 := az_cw_of 365 rfl
set_option maxRecDepth 100000 in
theorem az_cw_11 : az_cw 11 := az_cw_of 373 rfl
set_option maxRecDepth 100000 in
theorem az_cw_12 : az_cw 12 := az_cw_of 378 rfl
set_option maxRecDepth 100000 in
theorem az_cw_13 : az_cw 13 := az_cw_of 382 rfl
set_option maxRecDepth 100000 in
theorem az_cw_14 : az_cw 14 := az_cw_of 362 rfl
set_option maxRecDepth 100000 in
theorem az_cw_15 : az_cw 15 := az_cw_of 1012 rfl
set_option maxRecDepth 100000 in
theorem az_cw_16 : az_cw 16 := az_cw_of 1008 rfl
set_option maxRecDepth 100000 in
theorem az_cw_17 : az_cw 17 := az_cw_of 1018 rfl
set_option maxRecDepth 100000 in
theorem az_cw_18 : az_cw 18 := az_cw_of 1023 rfl
set_option maxRecDepth 100000 in
theorem az_cw_19 : az_cw 19 := az_cw_of 1005 rfl
set_option maxRecDepth 100000 in
theorem az_cw_20 : az_cw 20 := az_cw_of 390 rfl
set_option maxRecDepth 100000 in
theorem az_cw_21 : az_cw 21 := az_cw_of 394 rfl
set_option maxRecDepth 100000 in
theorem az_cw_22 : az_cw 22 := az_cw_of 398 rfl
set_option maxRecDepth 100000 in
theorem az_cw_23 : az_cw 23 := az_cw_of 386 rfl
set_option maxRecDepth 100000 in
theorem az_cw_24 : az_cw 24 := az_cw_of 1027 rfl
set_option maxRecDepth 100000 in
theorem az_cw_25 : az_cw 25 := az_cw_of 402 rfl
set_option maxRecDepth 100000 in
theorem az_cw_26 : az_cw 26 := az_cw_of 1031 rfl
set_option maxRecDepth 100000 in
theorem az_cw_27 : az_cw 27 := az_cw_of 413 rfl
set_option maxRecDepth 100000 in
theorem az_cw_28 : az_cw 28 := az_cw_of 409 rfl
set_option maxRecDepth 100000 in
theorem az_cw_29 : az_cw 29 := az_cw_of 1035 rfl
set_option maxRecDepth 100000 in
theorem az_cw_30 : az_cw 30 := az_cw_of 421 rfl
set_option maxRecDepth 100000 in
theorem az_cw_31 : az_cw 31 := az_cw_of 426 rfl
set_option maxRecDepth 100000 in
theorem az_cw_32 : az_cw 32 := az_cw_of 417 rfl
set_option maxRecDepth 100000 in
theorem az_cw_33 : az_cw 33 := az_cw_of 1039 rfl
set_option maxRecDepth 100000 in
theorem az_cw_34 : az_cw 34 := az_cw_of 442 rfl
set_option maxRecDepth 100000 in
theorem az_cw_35 : az_cw 35 := az_cw_of 446 rfl
set_option maxRecDepth 100000 in
theorem az_cw_36 : az_cw 36 := az_cw_of 438 rfl
set_option maxRecDepth 100000 in
theorem az_cw_37 : az_cw 37 := az_cw_of 450 rfl
set_option maxRecDepth 100000 in
theorem az_cw_38 : az_cw 38 := az_cw_of 471 rfl
set_option maxRecDepth 100000 in
theorem az_cw_39 : az_cw 39 := az_cw_of 467 rfl
set_option maxRecDepth 100000 in
theorem az_cw_40 : az_cw 40 := az_cw_of 481 rfl
set_option maxRecDepth 100000 in
theorem az_cw_41 : az_cw 41 := az_cw_of 492 rfl
set_option maxRecDepth 100000 in
theorem az_cw_42 : az_cw 42 := az_cw_of 487 rfl
set_option maxRecDepth 100000 in
theorem az_cw_43 : az_cw 43 := az_cw_of 484 rfl
set_option maxRecDepth 100000 in
theorem az_cw_44 : az_cw 44 := az_cw_of 501 rfl
set_option maxRecDepth 100000 in
theorem az_cw_45 : az_cw 45 := az_cw_of 498 rfl
set_option maxRecDepth 100000 in
theorem az_cw_46 : az_cw 46 := az_cw_of 505 rfl
set_option maxRecDepth 100000 in
theorem az_cw_47 : az_cw 47 := az_cw_of 495 rfl
set_option maxRecDepth 100000 in
theorem az_cw_48 : az_cw 48 := az_cw_of 477 rfl
set_option maxRecDepth 100000 in
theorem az_cw_49 : az_cw 49 := az_cw_of 463 rfl
set_option maxRecDepth 100000 in
theorem az_cw_50 : az_cw 50 := az_cw_of 515 rfl
set_option maxRecDepth 100000 in
theorem az_cw_51 : az_cw 51 := az_cw_of 459 rfl
set_option maxRecDepth 100000 in
theorem az_cw_52 : az_cw 52 := az_cw_of 523 rfl
set_option maxRecDepth 100000 in
theorem az_cw_53 : az_cw 53 := az_cw_of 519 rfl
set_option maxRecDepth 100000 in
theorem az_cw_54 : az_cw 54 := az_cw_of 527 rfl
set_option maxRecDepth 100000 in
theorem az_cw_55 : az_cw 55 := az_cw_of 454 rfl
set_option maxRecDepth 100000 in
theorem az_cw_56 : az_cw 56 := az_cw_of 531 rfl
set_option maxRecDepth 100000 in
theorem az_cw_57 : az_cw 57 := az_cw_of 548 rfl
set_option maxRecDepth 100000 in
theorem az_cw_58 : az_cw 58 := az_cw_of 545 rfl
set_option maxRecDepth 100000 in
theorem az_cw_59 : az_cw 59 := az_cw_of 540 rfl
set_option maxRecDepth 100000 in
theorem az_cw_60 : az_cw 60 := az_cw_of 536 rfl
set_option maxRecDepth 100000 in
theorem az_cw_61 : az_cw 61 := az_cw_of 557 rfl
set_option maxRecDepth 100000 in
theorem az_cw_62 : az_cw 62 := az_cw_of 434 rfl
set_option maxRecDepth 100000 in
theorem az_cw_63 : az_cw 63 := az_cw_of 562 rfl
set_option maxRecDepth 100000 in
theorem az_cw_64 : az_cw 64 := az_cw_of 567 rfl
set_option maxRecDepth 100000 in
theorem az_cw_65 : az_cw 65 := az_cw_of 430 rfl
set_option maxRecDepth 100000 in
theorem az_cw_66 : az_cw 66 := az_cw_of 1062 rfl
set_option maxRecDepth 100000 in
theorem az_cw_67 : az_cw 67 := az_cw_of 1059 rfl
set_option maxRecDepth 100000 in
theorem az_cw_68 : az_cw 68 := az_cw_of 1074 rfl
set_option maxRecDepth 100000 in
theorem az_cw_69 : az_cw 69 := az_cw_of 1055 rfl
set_option maxRecDepth 100000 in
theorem az_cw_70 : az_cw 70 := az_cw_of 1078 rfl
set_option maxRecDepth 100000 in
theorem az_cw_71 : az_cw 71 := az_cw_of 1082 rfl
set_option maxRecDepth 100000 in
theorem az_cw_72 : az_cw 72 := az_cw_of 1092 rfl
set_option maxRecDepth 100000 in
theorem az_cw_73 : az_cw 73 := az_cw_of 1087 rfl
set_option maxRecDepth 100000 in
theorem az_cw_74 : az_cw 74 := az_cw_of 1050 rfl
set_option maxRecDepth 100000 in
theorem az_cw_75 : az_cw 75 := az_cw_of 1101 rfl
set_option maxRecDepth 100000 in
theorem az_cw_76 : az_cw 76 := az_cw_of 1046 rfl
set_option maxRecDepth 100000 in
theorem az_cw_77 : az_cw 77 := az_cw_of 571 rfl
set_option maxRecDepth 100000 in
theorem az_cw_78 : az_cw 78 := az_cw_of 1105 rfl
set_option maxRecDepth 100000 in
theorem az_cw_79 : az_cw 79 := az_cw_of 580 rfl
set_option maxRecDepth 100000 in
theorem az_cw_80 : az_cw 80 := az_cw_of 594 rfl
set_option maxRecDepth 100000 in
theorem az_cw_81 : az_cw 81 := az_cw_of 591 rfl
set_option maxRecDepth 100000 in
theorem az_cw_82 : az_cw 82 := az_cw_of 588 rfl
set_option maxRecDepth 100000 in
theorem az_cw_83 : az_cw 83 := az_cw_of 575 rfl
set_option maxRecDepth 100000 in
theorem az_cw_84 : az_cw 84 := az_cw_of 1114 rfl
set_option maxRecDepth 100000 in
theorem az_cw_85 : az_cw 85 := az_cw_of 1118 rfl
set_option maxRecDepth 100000 in
theorem az_cw_86 : az_cw 86 := az_cw_of 1109 rfl
set_option maxRecDepth 100000 in
theorem az_cw_87 : az_cw 87 := az_cw_of 602 rfl
set_option maxRecDepth 100000 in
theorem az_cw_88 : az_cw 88 := az_cw_of 598 rfl
set_option maxRecDepth 100000 in
theorem az_cw_89 : az_cw 89 := az_cw_of 1126 rfl
set_option maxRecDepth 100000 in
theorem az_cw_90 : az_cw 90 := az_cw_of 1122 rfl
set_option maxRecDepth 100000 in
theorem az_cw_91 : az_cw 91 := az_cw_of 611 rfl
set_option maxRecDepth 100000 in
theorem az_cw_92 : az_cw 92 := az_cw_of 608 rfl
set_option maxRecDepth 100000 in
theorem az_cw_93 : az_cw 93 := az_cw_of 1130 rfl
set_option maxRecDepth 100000 in
theorem az_cw_94 : az_cw 94 := az_cw_of 615 rfl
set_option maxRecDepth 100000 in
theorem az_cw_95 : az_cw 95 := az_cw_of 1135 rfl
set_option maxRecDepth 100000 in
theorem az_cw_96 : az_cw 96 := az_cw_of 619 rfl
set_option maxRecDepth 100000 in
theorem az_cw_97 : az_cw 97 := az_cw_of 1139 rfl
set_option maxRecDepth 100000 in
theorem az_cw_98 : az_cw 98 := az_cw_of 634 rfl
set_option maxRecDepth 100000 in
theorem az_cw_99 : az_cw 99 := az_cw_of 638 rfl
set_option maxRecDepth 100000 in
theorem az_cw_100 : az_cw 100 := az_cw_of 628 rfl
set_option maxRecDepth 100000 in
theorem az_cw_101 : az_cw 101 := az_cw_of 650 rfl
set_option maxRecDepth 100000 in
theorem az_cw_102 : az_cw 102 := az_cw_of 654 rfl
set_option maxRecDepth 100000 in
theorem az_cw_103 : az_cw 103 := az_cw_of 658 rfl
set_option maxRecDepth 100000 in
theorem az_cw_104 : az_cw 104 := az_cw_of 662 rfl
set_option maxRecDepth 100000 in
theorem az_cw_105 : az_cw 105 := az_cw_of 667 rfl
set_option maxRecDepth 100000 in
theorem az_cw_106 : az_cw 106 := az_cw_of 646 rfl
set_option maxRecDepth 100000 in
theorem az_cw_107 : az_cw 107 := az_cw_of 642 rfl
set_option maxRecDepth 100000 in
theorem az_cw_108 : az_cw 108 := az_cw_of 675 rfl
set_option maxRecDepth 100000 in
theorem az_cw_109 : az_cw 109 := az_cw_of 671 rfl
set_option maxRecDepth 100000 in
theorem az_cw_110 : az_cw 110 := az_cw_of 680 rfl
set_option maxRecDepth 100000 in
theorem az_cw_111 : az_cw 111 := az_cw_of 624 rfl
set_option maxRecDepth 100000 in
theorem az_cw_112 : az_cw 112 := az_cw_of 1148 rfl
set_option maxRecDepth 100000 in
theorem az_cw_113 : az_cw 113 := az_cw_of 1156 rfl
set_option maxRecDepth 100000 in
theorem az_cw_114 : az_cw 114 := az_cw_of 1160 rfl
set_option maxRecDepth 100000 in
theorem az_cw_115 : az_cw 115 := az_cw_of 1168 rfl
set_option maxRecDepth 100000 in
theorem az_cw_116 : az_cw 116 := az_cw_of 1164 rfl
set_option maxRecDepth 100000 in
theorem az_cw_117 : az_cw 117 := az_cw_of 1152 rfl
set_option maxRecDepth 100000 in
theorem az_cw_118 : az_cw 118 := az_cw_of 1173 rfl
set_option maxRecDepth 100000 in
theorem az_cw_119 : az_cw 119 := az_cw_of 1176 rfl
set_option maxRecDepth 100000 in
theorem az_cw_120 : az_cw 120 := az_cw_of 1144 rfl
set_option maxRecDepth 100000 in
theorem az_cw_121 : az_cw 121 := az_cw_of 688 rfl
set_option maxRecDepth 100000 in
theorem az_cw_122 : az_cw 122 := az_cw_of 684 rfl
set_option maxRecDepth 100000 in
theorem az_cw_123 : az_cw 123 := az_cw_of 1180 rfl
set_option maxRecDepth 100000 in
theorem az_cw_124 : az_cw 124 := az_cw_of 692 rfl
set_option maxRecDepth 100000 in
theorem az_cw_125 : az_cw 125 := az_cw_of 1184 rfl
set_option maxRecDepth 100000 in
theorem az_cw_126 : az_cw 126 := az_cw_of 697 rfl
set_option maxRecDepth 100000 in
theorem az_cw_127 : az_cw 127 := az_cw_of 1189 rfl
set_option maxRecDepth 100000 in
theorem az_cw_128 : az_cw 128 := az_cw_of 709 rfl
set_option maxRecDepth 100000 in
theorem az_cw_129 : az_cw 129 := az_cw_of 705 rfl
set_option maxRecDepth 100000 in
theorem az_cw_130 : az_cw 130 := az_cw_of 717 rfl
set_option maxRecDepth 100000 in
theorem az_cw_131 : az_cw 131 := az_cw_of 713 rfl
set_option maxRecDepth 100000 in
theorem az_cw_132 : az_cw 132 := az_cw_of 701 rfl
set_option maxRecDepth 100000 in
theorem az_cw_133 : az_cw 133 := az_cw_of 1197 rfl
set_option maxRecDepth 100000 in
theorem az_cw_134 : az_cw 134 := az_cw_of 1205 rfl
set_option maxRecDepth 100000 in
theorem az_cw_135 : az_cw 135 := az_cw_of 1201 rfl
set_option maxRecDepth 100000 in
theorem az_cw_136 : az_cw 136 := az_cw_of 1193 rfl
set_option maxRecDepth 100000 in
theorem az_cw_137 : az_cw 137 := az_cw_of 727 rfl
set_option maxRecDepth 100000 in
theorem az_cw_138 : az_cw 138 := az_cw_of 723 rfl
set_option maxRecDepth 100000 in
theorem az_cw_139 : az_cw 139 := az_cw_of 1213 rfl
set_option maxRecDepth 100000 in
theorem az_cw_140 : az_cw 140 := az_cw_of 1209 rfl
set_option maxRecDepth 100000 in
theorem az_cw_141 : az_cw 141 := az_cw_of 737 rfl
set_option maxRecDepth 100000 in
theorem az_cw_142 : az_cw 142 := az_cw_of 733 rfl
set_option maxRecDepth 100000 in
theorem az_cw_143 : az_cw 143 := az_cw_of 1221 rfl
set_option maxRecDepth 100000 in
theorem az_cw_144 : az_cw 144 := az_cw_of 1217 rfl
set_option maxRecDepth 100000 in
theorem az_cw_145 : az_cw 145 := az_cw_of 751 rfl
set_option maxRecDepth 100000 in
theorem az_cw_146 : az_cw 146 := az_cw_of 755 rfl
set_option maxRecDepth 100000 in
theorem az_cw_147 : az_cw 147 := az_cw_of 759 rfl
set_option maxRecDepth 100000 in
theorem az_cw_148 : az_cw 148 := az_cw_of 767 rfl
set_option maxRecDepth 100000 in
theorem az_cw_149 : az_cw 149 := az_cw_of 763 rfl
set_option maxRecDepth 100000 in
theorem az_cw_150 : az_cw 150 := az_cw_of 747 rfl
set_option maxRecDepth 100000 in
theorem az_cw_151 : az_cw 151 := az_cw_of 743 rfl
set_option maxRecDepth 100000 in
theorem az_cw_152 : az_cw 152 := az_cw_of 1229 rfl
set_option maxRecDepth 100000 in
theorem az_cw_153 : az_cw 153 := az_cw_of 1233 rfl
set_option maxRecDepth 100000 in
theorem az_cw_154 : az_cw 154 := az_cw_of 1237 rfl
set_option maxRecDepth 100000 in
theorem az_cw_155 : az_cw 155 := az_cw_of 1225 rfl
set_option maxRecDepth 100000 in
theorem az_cw_156 : az_cw 156 := az_cw_of 776 rfl
set_option maxRecDepth 100000 in
theorem az_cw_157 : az_cw 157 := az_cw_of 772 rfl
set_option maxRecDepth 100000 in
theorem az_cw_158 : az_cw 158 := az_cw_of 1241 rfl
set_option maxRecDepth 100000 in
theorem az_cw_159 : az_cw 159 := az_cw_of 787 rfl
set_option maxRecDepth 100000 in
theorem az_cw_160 : az_cw 160 := az_cw_of 796 rfl
set_option maxRecDepth 100000 in
theorem az_cw_161 : az_cw 161 := az_cw_of 783 rfl
set_option maxRecDepth 100000 in
theorem az_cw_162 : az_cw 162 := az_cw_of 1245 rfl
set_option maxRecDepth 100000 in
theorem az_cw_163 : az_cw 163 := az_cw_of 809 rfl
set_option maxRecDepth 100000 in
theorem az_cw_164 : az_cw 164 := az_cw_of 814 rfl
set_option maxRecDepth 100000 in
theorem az_cw_165 : az_cw 165 := az_cw_of 805 rfl
set_option maxRecDepth 100000 in
theorem az_cw_166 : az_cw 166 := az_cw_of 800 rfl
set_option maxRecDepth 100000 in
theorem az_cw_167 : az_cw 167 := az_cw_of 1249 rfl
set_option maxRecDepth 100000 in
theorem az_cw_168 : az_cw 168 := az_cw_of 827 rfl
set_option maxRecDepth 100000 in
theorem az_cw_169 : az_cw 169 := az_cw_of 822 rfl
set_option maxRecDepth 100000 in
theorem az_cw_170 : az_cw 170 := az_cw_of 835 rfl
set_option maxRecDepth 100000 in
theorem az_cw_171 : az_cw 171 := az_cw_of 818 rfl
set_option maxRecDepth 100000 in
theorem az_cw_172 : az_cw 172 := az_cw_of 1254 rfl
set_option maxRecDepth 100000 in
theorem az_cw_173 : az_cw 173 := az_cw_of 843 rfl
set_option maxRecDepth 100000 in
theorem az_cw_174 : az_cw 174 := az_cw_of 839 rfl
set_option maxRecDepth 100000 in
theorem az_cw_175 : az_cw 175 := az_cw_of 1258 rfl
set_option maxRecDepth 100000 in
theorem az_cw_176 : az_cw 176 := az_cw_of 849 rfl
set_option maxRecDepth 100000 in
theorem az_cw_177 : az_cw 177 := az_cw_of 1262 rfl
set_option maxRecDepth 100000 in
theorem az_cw_178 : az_cw 178 := az_cw_of 854 rfl
set_option maxRecDepth 100000 in
theorem az_cw_179 : az_cw 179 := az_cw_of 1267 rfl
set_option maxRecDepth 100000 in
theorem az_cw_180 : az_cw 180 := az_cw_of 858 rfl
set_option maxRecDepth 100000 in
theorem az_cw_181 : az_cw 181 := az_cw_of 1271 rfl
set_option maxRecDepth 100000 in
theorem az_cw_182 : az_cw 182 := az_cw_of 862 rfl
set_option maxRecDepth 100000 in
theorem az_cw_183 : az_cw 183 := az_cw_of 1275 rfl
set_option maxRecDepth 100000 in
theorem az_cw_184 : az_cw 184 := az_cw_of 869 rfl
set_option maxRecDepth 100000 in
theorem az_cw_185 : az_cw 185 := az_cw_of 866 rfl
set_option maxRecDepth 100000 in
theorem az_cw_186 : az_cw 186 := az_cw_of 1282 rfl
set_option maxRecDepth 100000 in
theorem az_cw_187 : az_cw 187 := az_cw_of 1279 rfl
set_option maxRecDepth 100000 in
theorem az_cw_188 : az_cw 188 := az_cw_of 888 rfl
set_option maxRecDepth 100000 in
theorem az_cw_189 : az_cw 189 := az_cw_of 892 rfl
set_option maxRecDepth 100000 in
theorem az_cw_190 : az_cw 190 := az_cw_of 884 rfl
set_option maxRecDepth 100000 in
theorem az_cw_191 : az_cw 191 := az_cw_of 892 rfl
set_option maxRecDepth 100000 in
theorem az_cw_192 : az_cw 192 := az_cw_of 884 rfl
set_option maxRecDepth 100000 in
theorem az_cw_193 : az_cw 193 := az_cw_of 892 rfl
set_option maxRecDepth 100000 in
theorem az_cw_194 : az_cw 194 := az_cw_of 884 rfl
set_option maxRecDepth 100000 in
theorem az_cw_195 : az_cw 195 := az_cw_of 892 rfl
set_option maxRecDepth 100000 in
theorem az_cw_196 : az_cw 196 := az_cw_of 884 rfl
set_option maxRecDepth 100000 in
theorem az_cw_197 : az_cw 197 := az_cw_of 892 rfl
set_option maxRecDepth 100000 in
theorem az_cw_198 : az_cw 198 := az_cw_of 884 rfl
set_option maxRecDepth 100000 in
theorem az_cw_199 : az_cw 199 := az_cw_of 892 rfl
set_option maxRecDepth 100000 in
theorem az_cw_200 : az_cw 200 := az_cw_of 884 rfl
set_option maxRecDepth 100000 in
theorem az_cw_201 : az_cw 201 := az_cw_of 892 rfl
set_option maxRecDepth 100000 in
theorem az_cw_202 : az_cw 202 := az_cw_of 884 rfl
set_option maxRecDepth 100000 in
theorem az_cw_203 : az_cw 203 := az_cw_of 880 rfl
set_option maxRecDepth 100000 in
theorem az_cw_204 : az_cw 204 := az_cw_of 876 rfl
set_option maxRecDepth 100000 in
theorem az_cw_205 : az_cw 205 := az_cw_of 1297 rfl
set_option maxRecDepth 100000 in
theorem az_cw_206 : az_cw 206 := az_cw_of 1290 rfl
set_option maxRecDepth 100000 in
theorem az_cw_207 : az_cw 207 := az_cw_of 1304 rfl
set_option maxRecDepth 100000 in
theorem az_cw_208 : az_cw 208 := az_cw_of 1286 rfl
set_option maxRecDepth 100000 in
theorem az_cw_209 : az_cw 209 := az_cw_of 896 rfl
set_option maxRecDepth 100000 in
theorem az_cw_210 : az_cw 210 := az_cw_of 1311 rfl
set_option maxRecDepth 100000 in
theorem az_cw_211 : az_cw 211 := az_cw_of 904 rfl
set_option maxRecDepth 100000 in
theorem az_cw_212 : az_cw 212 := az_cw_of 907 rfl
set_option maxRecDepth 100000 in
theorem az_cw_213 : az_cw 213 := az_cw_of 914 rfl
set_option maxRecDepth 100000 in
theorem az_cw_214 : az_cw 214 := az_cw_of 900 rfl
set_option maxRecDepth 100000 in
theorem az_cw_215 : az_cw 215 := az_cw_of 1315 rfl
set_option maxRecDepth 100000 in
theorem az_cw_216 : az_cw 216 := az_cw_of 918 rfl
set_option maxRecDepth 100000 in
theorem az_cw_217 : az_cw 217 := az_cw_of 1319 rfl
theorem az_ok_0 : az_okc 0 (az_cd 0) = true := by decide +kernel
theorem az_ok_1 : az_okc 1 (az_cd 1) = true := by decide +kernel
theorem az_ok_2 : az_okc 2 (az_cd 2) = true := by decide +kernel
theorem az_ok_3 : az_okc 3 (az_cd 3) = true := by decide +kernel
theorem az_ok_4 : az_okc 4 (az_cd 4) = true := by decide +kernel
theorem az_ok_5 : az_okc 5 (az_cd 5) = true := by decide +kernel
theorem az_ok_6 : az_okc 6 (az_cd 6) = true := by decide +kernel
theorem az_ok_7_151 : az_okc 7 zX7_init_151 = true := az_okp_ok 7 1 _ (by decide +kernel) rfl
theorem az_ok_7_127 : az_okc 7 zX7_init_127 = true := az_okp_ok 7 12 _ (by decide +kernel) az_ok_7_151
theorem az_ok_7_125 : az_okc 7 zX7_init_125 = true := az_okp_ok 7 2 _ (by decide +kernel) az_ok_7_127
theorem az_ok_7_100 : az_okc 7 zX7_init_100 = true := az_okp_ok 7 12 _ (by decide +kernel) az_ok_7_125
theorem az_ok_7_0 : az_okc 7 zX7_init_0 = true := az_okp_ok 7 47 _ (by decide +kernel) az_ok_7_100
theorem az_ok_7 : az_okc 7 (az_cd 7) = true := az_ok_7_0
theorem az_ok_8_129 : az_okc 8 zX8_init_129 = true := az_okp_ok 8 1 _ (by decide +kernel) rfl
theorem az_ok_8_110 : az_okc 8 zX8_init_110 = true := az_okp_ok 8 10 _ (by decide +kernel) az_ok_8_129
theorem az_ok_8_0 : az_okc 8 zX8_init_0 = true := az_okp_ok 8 56 _ (by decide +kernel) az_ok_8_110
theorem az_ok_8 : az_okc 8 (az_cd 8) = true := az_ok_8_0
theorem az_ok_9 : az_okc 9 (az_cd 9) = true := by decide +kernel
theorem az_ok_10 : az_okc 10 (az_cd 10) = true := by decide +kernel
theorem az_ok_11 : az_okc 11 (az_cd 11) = true := by decide +kernel
theorem az_ok_12 : az_okc 12 (az_cd 12) = true := by decide +kernel
theorem az_ok_13 : az_okc 13 (az_cd 13) = true := by decide +kernel
theorem az_ok_14 : az_okc 14 (az_cd 14) = true := by decide +kernel
theorem az_ok_15 : az_okc 15 (az_cd 15) = true := by decide +kernel
theorem az_ok_16 : az_okc 16 (az_cd 16) = true := by decide +kernel
theorem az_ok_17 : az_okc 17 (az_cd 17) = true := by decide +kernel
theorem az_ok_18 : az_okc 18 (az_cd 18) = true := by decide +kernel
theorem az_ok_19 : az_okc 19 (az_cd 19) = true := by decide +kernel
theorem az_ok_20 : az_okc 20 (az_cd 20) = true := by decide +kernel
theorem az_ok_21 : az_okc 21 (az_cd 21) = true := by decide +kernel
theorem az_ok_22 : az_okc 22 (az_cd 22) = true := by decide +kernel
theorem az_ok_23 : az_okc 23 (az_cd 23) = true := by decide +kernel
theorem az_ok_24_89 : az_okc 24 zX8_set_89 = true := az_okp_ok 24 12 _ (by decide +kernel) rfl
theorem az_ok_24_88 : az_okc 24 zX8_set_88 = true := az_okp_ok 24 1 _ (by decide +kernel) az_ok_24_89
theorem az_ok_24_73 : az_okc 24 zX8_set_73 = true := az_okp_ok 24 9 _ (by decide +kernel) az_ok_24_88
theorem az_ok_24_49 : az_okc 24 zX8_set_49 = true := az_okp_ok 24 15 _ (by decide +kernel) az_ok_24_73
theorem az_ok_24_25 : az_okc 24 zX8_set_25 = true := az_okp_ok 24 16 _ (by decide +kernel) az_ok_24_49
theorem az_ok_24_10 : az_okc 24 zX8_set_10 = true := az_okp_ok 24 9 _ (by decide +kernel) az_ok_24_25
theorem az_ok_24_0 : az_okc 24 zX8_set_0 = true := az_okp_ok 24 5 _ (by decide +kernel) az_ok_24_10
theorem az_ok_24 : az_okc 24 (az_cd 24) = true := az_ok_24_0
theorem az_ok_25_103 : az_okc 25 zX7_copy_103 = true := az_okp_ok 25 12 _ (by decide +kernel) rfl
theorem az_ok_25_97 : az_okc 25 zX7_copy_97 = true := az_okp_ok 25 4 _ (by decide +kernel) az_ok_25_103
theorem az_ok_25_74 : az_okc 25 zX7_copy_74 = true := az_okp_ok 25 10 _ (by decide +kernel) az_ok_25_97
theorem az_ok_25_55 : az_okc 25 zX7_copy_55 = true := az_okp_ok 25 9 _ (by decide +kernel) az_ok_25_74
theorem az_ok_25_49 : az_okc 25 zX7_copy_49 = true := az_okp_ok 25 4 _ (by decide +kernel) az_ok_25_55
theorem az_ok_25_17 : az_okc 25 zX7_copy_17 = true := az_okp_ok 25 16 _ (by decide +kernel) az_ok_25_49
theorem az_ok_25_14 : az_okc 25 zX7_copy_14 = true := az_okp_ok 25 2 _ (by decide +kernel) az_ok_25_17
theorem az_ok_25_0 : az_okc 25 zX7_copy_0 = true := az_okp_ok 25 6 _ (by decide +kernel) az_ok_25_14
theorem az_ok_25 : az_okc 25 (az_cd 25) = true := az_ok_25_0
theorem az_ok_26_182 : az_okc 26 zX8_copy_182 = true := az_okp_ok 26 4 _ (by decide +kernel) rfl
theorem az_ok_26_145 : az_okc 26 zX8_copy_145 = true := az_okp_ok 26 23 _ (by decide +kernel) az_ok_26_182
theorem az_ok_26_143 : az_okc 26 zX8_copy_143 = true := az_okp_ok 26 1 _ (by decide +kernel) az_ok_26_145
theorem az_ok_26_120 : az_okc 26 zX8_copy_120 = true := az_okp_ok 26 12 _ (by decide +kernel) az_ok_26_143
theorem az_ok_26_117 : az_okc 26 zX8_copy_117 = true := az_okp_ok 26 2 _ (by decide +kernel) az_ok_26_120
theorem az_ok_26_111 : az_okc 26 zX8_copy_111 = true := az_okp_ok 26 4 _ (by decide +kernel) az_ok_26_117
theorem az_ok_26_62 : az_okc 26 zX8_copy_62 = true := az_okp_ok 26 30 _ (by decide +kernel) az_ok_26_111
theorem az_ok_26_41 : az_okc 26 zX8_copy_41 = true := az_okp_ok 26 13 _ (by decide +kernel) az_ok_26_62
theorem az_ok_26_35 : az_okc 26 zX8_copy_35 = true := az_okp_ok 26 4 _ (by decide +kernel) az_ok_26_41
theorem az_ok_26_17 : az_okc 26 zX8_copy_17 = true := az_okp_ok 26 10 _ (by decide +kernel) az_ok_26_35
theorem az_ok_26_14 : az_okc 26 zX8_copy_14 = true := az_okp_ok 26 2 _ (by decide +kernel) az_ok_26_17
theorem az_ok_26_0 : az_okc 26 zX8_copy_0 = true := az_okp_ok 26 6 _ (by decide +kernel) az_ok_26_14
theorem az_ok_26 : az_okc 26 (az_cd 26) = true := az_ok_26_0
theorem az_ok_27 : az_okc 27 (az_cd 27) = true := by decide +kernel
theorem az_ok_28 : az_okc 28 (az_cd 28) = true := by decide +kernel
theorem az_ok_29 : az_okc 29 (az_cd 29) = true := by decide +kernel
theorem az_ok_30 : az_okc 30 (az_cd 30) = true := by decide +kernel
theorem az_ok_31 : az_okc 31 (az_cd 31) = true := by decide +kernel
theorem az_ok_32 : az_okc 32 (az_cd 32) = true := by decide +kernel
theorem az_ok_33 : az_okc 33 (az_cd 33) = true := by decide +kernel
theorem az_ok_34 : az_okc 34 (az_cd 34) = true := by decide +kernel
theorem az_ok_35 : az_okc 35 (az_cd 35) = true := by decide +kernel
theorem az_ok_36_199 : az_okc 36 zX6_advance_199 = true := az_okp_ok 36 1 _ (by decide +kernel) rfl
theorem az_ok_36_186 : az_okc 36 zX6_advance_186 = true := az_okp_ok 36 7 _ (by decide +kernel) az_ok_36_199
theorem az_ok_36_185 : az_okc 36 zX6_advance_185 = true := az_okp_ok 36 1 _ (by decide +kernel) az_ok_36_186
theorem az_ok_36_166 : az_okc 36 zX6_advance_166 = true := az_okp_ok 36 10 _ (by decide +kernel) az_ok_36_185
theorem az_ok_36_160 : az_okc 36 zX6_advance_160 = true := az_okp_ok 36 2 _ (by decide +kernel) az_ok_36_166
theorem az_ok_36_159 : az_okc 36 zX6_advance_159 = true := az_okp_ok 36 1 _ (by decide +kernel) az_ok_36_160
theorem az_ok_36_118 : az_okc 36 zX6_advance_118 = true := az_okp_ok 36 21 _ (by decide +kernel) az_ok_36_159
theorem az_ok_36_87 : az_okc 36 zX6_advance_87 = true := az_okp_ok 36 15 _ (by decide +kernel) az_ok_36_118
theorem az_ok_36_60 : az_okc 36 zX6_advance_60 = true := az_okp_ok 36 13 _ (by decide +kernel) az_ok_36_87
theorem az_ok_36_47 : az_okc 36 zX6_advance_47 = true := az_okp_ok 36 7 _ (by decide +kernel) az_ok_36_60
theorem az_ok_36_8 : az_okc 36 zX6_advance_8 = true := az_okp_ok 36 19 _ (by decide +kernel) az_ok_36_47
theorem az_ok_36_0 : az_okc 36 zX6_advance_0 = true := az_okp_ok 36 4 _ (by decide +kernel) az_ok_36_8
theorem az_ok_36 : az_okc 36 (az_cd 36) = true := az_ok_36_0
theorem az_ok_37 : az_okc 37 (az_cd 37) = true := by decide +kernel
theorem az_ok_38 : az_okc 38 (az_cd 38) = true := by decide +kernel
theorem az_ok_39 : az_okc 39 (az_cd 39) = true := by decide +kernel
theorem az_ok_40 : az_okc 40 (az_cd 40) = true := by decide +kernel
theorem az_ok_41 : az_okc 41 (az_cd 41) = true := by decide +kernel
theorem az_ok_42 : az_okc 42 (az_cd 42) = true := by decide +kernel
theorem az_ok_43 : az_okc 43 (az_cd 43) = true := by decide +kernel
theorem az_ok_44 : az_okc 44 (az_cd 44) = true := by decide +kernel
theorem az_ok_45 : az_okc 45 (az_cd 45) = true := by decide +kernel
theorem az_ok_46 : az_okc 46 (az_cd 46) = true := by decide +kernel
theorem az_ok_47 : az_okc 47 (az_cd 47) = true := by decide +kernel
theorem az_ok_48 : az_okc 48 (az_cd 48) = true := by decide +kernel
theorem az_ok_49 : az_okc 49 (az_cd 49) = true := by decide +kernel
theorem az_ok_50 : az_okc 50 (az_cd 50) = true := by decide +kernel
theorem az_ok_51 : az_okc 51 (az_cd 51) = true := by decide +kernel
theorem az_ok_52 : az_okc 52 (az_cd 52) = true := by decide +kernel
theorem az_ok_53 : az_okc 53 (az_cd 53) = true := by decide +kernel
theorem az_ok_54 : az_okc 54 (az_cd 54) = true := by decide +kernel
theorem az_ok_55 : az_okc 55 (az_cd 55) = true := by decide +kernel
theorem az_ok_56 : az_okc 56 (az_cd 56) = true := by decide +kernel
theorem az_ok_57 : az_okc 57 (az_cd 57) = true := by decide +kernel
theorem az_ok_58 : az_okc 58 (az_cd 58) = true := by decide +kernel
theorem az_ok_59_85 : az_okc 59 zX6_readGuest_85 = true := az_okp_ok 59 14 _ (by decide +kernel) rfl
theorem az_ok_59_63 : az_okc 59 zX6_readGuest_63 = true := az_okp_ok 59 13 _ (by decide +kernel) az_ok_59_85
theorem az_ok_59_40 : az_okc 59 zX6_readGuest_40 = true := az_okp_ok 59 13 _ (by decide +kernel) az_ok_59_63
theorem az_ok_59_18 : az_okc 59 zX6_readGuest_18 = true := az_okp_ok 59 13 _ (by decide +kernel) az_ok_59_40
theorem az_ok_59_16 : az_okc 59 zX6_readGuest_16 = true := az_okp_ok 59 2 _ (by decide +kernel) az_ok_59_18
theorem az_ok_59_0 : az_okc 59 zX6_readGuest_0 = true := az_okp_ok 59 7 _ (by decide +kernel) az_ok_59_16
theorem az_ok_59 : az_okc 59 (az_cd 59) = true := az_ok_59_0
theorem az_ok_60 : az_okc 60 (az_cd 60) = true := by decide +kernel
theorem az_ok_61 : az_okc 61 (az_cd 61) = true := by decide +kernel
theorem az_ok_62 : az_okc 62 (az_cd 62) = true := by decide +kernel
theorem az_ok_63_0 : az_okc 63 zX1_become_0 = true := az_okp_ok 63 93 _ (by decide +kernel) rfl
theorem az_ok_63 : az_okc 63 (az_cd 63) = true := az_ok_63_0
theorem az_ok_64 : az_okc 64 (az_cd 64) = true := by decide +kernel
theorem az_ok_65 : az_okc 65 (az_cd 65) = true := by decide +kernel
theorem az_ok_66 : az_okc 66 (az_cd 66) = true := by decide +kernel
theorem az_ok_67_281 : az_okc 67 zX8_next_281 = true := az_okp_ok 67 2 _ (by decide +kernel) rfl
theorem az_ok_67_277 : az_okc 67 zX8_next_277 = true := az_okp_ok 67 2 _ (by decide +kernel) az_ok_67_281
theorem az_ok_67_251 : az_okc 67 zX8_next_251 = true := az_okp_ok 67 14 _ (by decide +kernel) az_ok_67_277
theorem az_ok_67_235 : az_okc 67 zX8_next_235 = true := az_okp_ok 67 8 _ (by decide +kernel) az_ok_67_251
theorem az_ok_67_220 : az_okc 67 zX8_next_220 = true := az_okp_ok 67 9 _ (by decide +kernel) az_ok_67_235
theorem az_ok_67_194 : az_okc 67 zX8_next_194 = true := az_okp_ok 67 14 _ (by decide +kernel) az_ok_67_220
theorem az_ok_67_118 : az_okc 67 zX8_next_118 = true := az_okp_ok 67 37 _ (by decide +kernel) az_ok_67_194
theorem az_ok_67_114 : az_okc 67 zX8_next_114 = true := az_okp_ok 67 2 _ (by decide +kernel) az_ok_67_118
theorem az_ok_67_113 : az_okc 67 zX8_next_113 = true := az_okp_ok 67 1 _ (by decide +kernel) az_ok_67_114
theorem az_ok_67_88 : az_okc 67 zX8_next_88 = true := az_okp_ok 67 13 _ (by decide +kernel) az_ok_67_113
theorem az_ok_67_87 : az_okc 67 zX8_next_87 = true := az_okp_ok 67 1 _ (by decide +kernel) az_ok_67_88
theorem az_ok_67_52 : az_okc 67 zX8_next_52 = true := az_okp_ok 67 17 _ (by decide +kernel) az_ok_67_87
theorem az_ok_67_39 : az_okc 67 zX8_next_39 = true := az_okp_ok 67 7 _ (by decide +kernel) az_ok_67_52
theorem az_ok_67_0 : az_okc 67 zX8_next_0 = true := az_okp_ok 67 19 _ (by decide +kernel) az_ok_67_39
theorem az_ok_67 : az_okc 67 (az_cd 67) = true := az_ok_67_0
theorem az_ok_68 : az_okc 68 (az_cd 68) = true := by decide +kernel
theorem az_ok_69 : az_okc 69 (az_cd 69) = true := by decide +kernel
theorem az_ok_70 : az_okc 70 (az_cd 70) = true := by decide +kernel
theorem az_ok_71 : az_okc 71 (az_cd 71) = true := by decide +kernel
theorem az_ok_72 : az_okc 72 (az_cd 72) = true := by decide +kernel
theorem az_ok_73_134 : az_okc 73 zX8_readsGuest_134 = true := az_okp_ok 73 11 _ (by decide +kernel) rfl
theorem az_ok_73_132 : az_okc 73 zX8_readsGuest_132 = true := az_okp_ok 73 2 _ (by decide +kernel) az_ok_73_134
theorem az_ok_73_83 : az_okc 73 zX8_readsGuest_83 = true := az_okp_ok 73 26 _ (by decide +kernel) az_ok_73_132
theorem az_ok_73_82 : az_okc 73 zX8_readsGuest_82 = true := az_okp_ok 73 1 _ (by decide +kernel) az_ok_73_83
theorem az_ok_73_52 : az_okc 73 zX8_readsGuest_52 = true := az_okp_ok 73 18 _ (by decide +kernel) az_ok_73_82
theorem az_ok_73_33 : az_okc 73 zX8_readsGuest_33 = true := az_okp_ok 73 13 _ (by decide +kernel) az_ok_73_52
theorem az_ok_73_25 : az_okc 73 zX8_readsGuest_25 = true := az_okp_ok 73 4 _ (by decide +kernel) az_ok_73_33
theorem az_ok_73_24 : az_okc 73 zX8_readsGuest_24 = true := az_okp_ok 73 1 _ (by decide +kernel) az_ok_73_25
theorem az_ok_73_0 : az_okc 73 zX8_readsGuest_0 = true := az_okp_ok 73 12 _ (by decide +kernel) az_ok_73_24
theorem az_ok_73 : az_okc 73 (az_cd 73) = true := az_ok_73_0
theorem az_ok_74_142 : az_okc 74 zX8_reads_142 = true := az_okp_ok 74 2 _ (by decide +kernel) rfl
theorem az_ok_74_135 : az_okc 74 zX8_reads_135 = true := az_okp_ok 74 3 _ (by decide +kernel) az_ok_74_142
theorem az_ok_74_119 : az_okc 74 zX8_reads_119 = true := az_okp_ok 74 8 _ (by decide +kernel) az_ok_74_135
theorem az_ok_74_115 : az_okc 74 zX8_reads_115 = true := az_okp_ok 74 2 _ (by decide +kernel) az_ok_74_119
theorem az_ok_74_106 : az_okc 74 zX8_reads_106 = true := az_okp_ok 74 5 _ (by decide +kernel) az_ok_74_115
theorem az_ok_74_100 : az_okc 74 zX8_reads_100 = true := az_okp_ok 74 2 _ (by decide +kernel) az_ok_74_106
theorem az_ok_74_78 : az_okc 74 zX8_reads_78 = true := az_okp_ok 74 13 _ (by decide +kernel) az_ok_74_100
theorem az_ok_74_76 : az_okc 74 zX8_reads_76 = true := az_okp_ok 74 2 _ (by decide +kernel) az_ok_74_78
theorem az_ok_74_74 : az_okc 74 zX8_reads_74 = true := az_okp_ok 74 2 _ (by decide +kernel) az_ok_74_76
theorem az_ok_74_21 : az_okc 74 zX8_reads_21 = true := az_okp_ok 74 26 _ (by decide +kernel) az_ok_74_74
theorem az_ok_74_2 : az_okc 74 zX8_reads_2 = true := az_okp_ok 74 10 _ (by decide +kernel) az_ok_74_21
theorem az_ok_74_0 : az_okc 74 zX8_reads_0 = true := az_okp_ok 74 2 _ (by decide +kernel) az_ok_74_2
theorem az_ok_74 : az_okc 74 (az_cd 74) = true := az_ok_74_0
theorem az_ok_75 : az_okc 75 (az_cd 75) = true := by decide +kernel
theorem az_ok_76 : az_okc 76 (az_cd 76) = true := by decide +kernel
theorem az_ok_77 : az_okc 77 (az_cd 77) = true := by decide +kernel
theorem az_ok_78 : az_okc 78 (az_cd 78) = true := by decide +kernel
theorem az_ok_79 : az_okc 79 (az_cd 79) = true := by decide +kernel
theorem az_ok_80 : az_okc 80 (az_cd 80) = true := by decide +kernel
theorem az_ok_81 : az_okc 81 (az_cd 81) = true := by decide +kernel
theorem az_ok_82 : az_okc 82 (az_cd 82) = true := by decide +kernel
theorem az_ok_83 : az_okc 83 (az_cd 83) = true := by decide +kernel
theorem az_ok_84 : az_okc 84 (az_cd 84) = true := by decide +kernel
theorem az_ok_85 : az_okc 85 (az_cd 85) = true := by decide +kernel
theorem az_ok_86_84 : az_okc 86 zX8_hour_84 = true := az_okp_ok 86 10 _ (by decide +kernel) rfl
theorem az_ok_86_78 : az_okc 86 zX8_hour_78 = true := az_okp_ok 86 2 _ (by decide +kernel) az_ok_86_84
theorem az_ok_86_32 : az_okc 86 zX8_hour_32 = true := az_okp_ok 86 30 _ (by decide +kernel) az_ok_86_78
theorem az_ok_86_24 : az_okc 86 zX8_hour_24 = true := az_okp_ok 86 6 _ (by decide +kernel) az_ok_86_32
theorem az_ok_86_10 : az_okc 86 zX8_hour_10 = true := az_okp_ok 86 8 _ (by decide +kernel) az_ok_86_24
theorem az_ok_86_0 : az_okc 86 zX8_hour_0 = true := az_okp_ok 86 5 _ (by decide +kernel) az_ok_86_10
theorem az_ok_86 : az_okc 86 (az_cd 86) = true := az_ok_86_0
theorem az_ok_87 : az_okc 87 (az_cd 87) = true := by decide +kernel
theorem az_ok_88 : az_okc 88 (az_cd 88) = true := by decide +kernel
theorem az_ok_89 : az_okc 89 (az_cd 89) = true := by decide +kernel
theorem az_ok_90 : az_okc 90 (az_cd 90) = true := by decide +kernel
theorem az_ok_91 : az_okc 91 (az_cd 91) = true := by decide +kernel
theorem az_ok_92 : az_okc 92 (az_cd 92) = true := by decide +kernel
theorem az_ok_93 : az_okc 93 (az_cd 93) = true := by decide +kernel
theorem az_ok_94 : az_okc 94 (az_cd 94) = true := by decide +kernel
theorem az_ok_95 : az_okc 95 (az_cd 95) = true := by decide +kernel
theorem az_ok_96_66 : az_okc 96 zX7_gift_66 = true := az_okp_ok 96 26 _ (by decide +kernel) rfl
theorem az_ok_96_26 : az_okc 96 zX7_gift_26 = true := az_okp_ok 96 23 _ (by decide +kernel) az_ok_96_66
theorem az_ok_96_23 : az_okc 96 zX7_gift_23 = true := az_okp_ok 96 2 _ (by decide +kernel) az_ok_96_26
theorem az_ok_96_0 : az_okc 96 zX7_gift_0 = true := az_okp_ok 96 11 _ (by decide +kernel) az_ok_96_23
theorem az_ok_96 : az_okc 96 (az_cd 96) = true := az_ok_96_0
theorem az_ok_97_92 : az_okc 97 zX8_gift_92 = true := az_okp_ok 97 18 _ (by decide +kernel) rfl
theorem az_ok_97_89 : az_okc 97 zX8_gift_89 = true := az_okp_ok 97 3 _ (by decide +kernel) az_ok_97_92
theorem az_ok_97_68 : az_okc 97 zX8_gift_68 = true := az_okp_ok 97 12 _ (by decide +kernel) az_ok_97_89
theorem az_ok_97_45 : az_okc 97 zX8_gift_45 = true := az_okp_ok 97 13 _ (by decide +kernel) az_ok_97_68
theorem az_ok_97_44 : az_okc 97 zX8_gift_44 = true := az_okp_ok 97 1 _ (by decide +kernel) az_ok_97_45
theorem az_ok_97_23 : az_okc 97 zX8_gift_23 = true := az_okp_ok 97 14 _ (by decide +kernel) az_ok_97_44
theorem az_ok_97_20 : az_okc 97 zX8_gift_20 = true := az_okp_ok 97 2 _ (by decide +kernel) az_ok_97_23
theorem az_ok_97_0 : az_okc 97 zX8_gift_0 = true := az_okp_ok 97 10 _ (by decide +kernel) az_ok_97_20
theorem az_ok_97 : az_okc 97 (az_cd 97) = true := az_ok_97_0
theorem az_ok_98 : az_okc 98 (az_cd 98) = true := by decide +kernel
theorem az_ok_99 : az_okc 99 (az_cd 99) = true := by decide +kernel
theorem az_ok_100_181 : az_okc 100 zX2_open_181 = true := az_okp_ok 100 1 _ (by decide +kernel) rfl
theorem az_ok_100_175 : az_okc 100 zX2_open_175 = true := az_okp_ok 100 2 _ (by decide +kernel) az_ok_100_181
theorem az_ok_100_143 : az_okc 100 zX2_open_143 = true := az_okp_ok 100 17 _ (by decide +kernel) az_ok_100_175
theorem az_ok_100_128 : az_okc 100 zX2_open_128 = true := az_okp_ok 100 10 _ (by decide +kernel) az_ok_100_143
theorem az_ok_100_127 : az_okc 100 zX2_open_127 = true := az_okp_ok 100 1 _ (by decide +kernel) az_ok_100_128
theorem az_ok_100_123 : az_okc 100 zX2_open_123 = true := az_okp_ok 100 2 _ (by decide +kernel) az_ok_100_127
theorem az_ok_100_113 : az_okc 100 zX2_open_113 = true := az_okp_ok 100 6 _ (by decide +kernel) az_ok_100_123
theorem az_ok_100_98 : az_okc 100 zX2_open_98 = true := az_okp_ok 100 9 _ (by decide +kernel) az_ok_100_113
theorem az_ok_100_97 : az_okc 100 zX2_open_97 = true := az_okp_ok 100 1 _ (by decide +kernel) az_ok_100_98
theorem az_ok_100_73 : az_okc 100 zX2_open_73 = true := az_okp_ok 100 12 _ (by decide +kernel) az_ok_100_97
theorem az_ok_100_72 : az_okc 100 zX2_open_72 = true := az_okp_ok 100 1 _ (by decide +kernel) az_ok_100_73
theorem az_ok_100_43 : az_okc 100 zX2_open_43 = true := az_okp_ok 100 17 _ (by decide +kernel) az_ok_100_72
theorem az_ok_100_41 : az_okc 100 zX2_open_41 = true := az_okp_ok 100 2 _ (by decide +kernel) az_ok_100_43
theorem az_ok_100_18 : az_okc 100 zX2_open_18 = true := az_okp_ok 100 12 _ (by decide +kernel) az_ok_100_41
theorem az_ok_100_0 : az_okc 100 zX2_open_0 = true := az_okp_ok 100 10 _ (by decide +kernel) az_ok_100_18
theorem az_ok_100 : az_okc 100 (az_cd 100) = true := az_ok_100_0
theorem az_ok_101 : az_okc 101 (az_cd 101) = true := by decide +kernel
theorem az_ok_102 : az_okc 102 (az_cd 102) = true := by decide +kernel
theorem az_ok_103_126 : az_okc 103 zX2_alike_126 = true := az_okp_ok 103 9 _ (by decide +kernel) rfl
theorem az_ok_103_124 : az_okc 103 zX2_alike_124 = true := az_okp_ok 103 1 _ (by decide +kernel) az_ok_103_126
theorem az_ok_103_112 : az_okc 103 zX2_alike_112 = true := az_okp_ok 103 5 _ (by decide +kernel) az_ok_103_124
theorem az_ok_103_86 : az_okc 103 zX2_alike_86 = true := az_okp_ok 103 15 _ (by decide +kernel) az_ok_103_112
theorem az_ok_103_84 : az_okc 103 zX2_alike_84 = true := az_okp_ok 103 2 _ (by decide +kernel) az_ok_103_86
theorem az_ok_103_69 : az_okc 103 zX2_alike_69 = true := az_okp_ok 103 8 _ (by decide +kernel) az_ok_103_84
theorem az_ok_103_63 : az_okc 103 zX2_alike_63 = true := az_okp_ok 103 2 _ (by decide +kernel) az_ok_103_69
theorem az_ok_103_60 : az_okc 103 zX2_alike_60 = true := az_okp_ok 103 2 _ (by decide +kernel) az_ok_103_63
theorem az_ok_103_59 : az_okc 103 zX2_alike_59 = true := az_okp_ok 103 1 _ (by decide +kernel) az_ok_103_60
theorem az_ok_103_9 : az_okc 103 zX2_alike_9 = true := az_okp_ok 103 26 _ (by decide +kernel) az_ok_103_59
theorem az_ok_103_0 : az_okc 103 zX2_alike_0 = true := az_okp_ok 103 6 _ (by decide +kernel) az_ok_103_9
theorem az_ok_103 : az_okc 103 (az_cd 103) = true := az_ok_103_0
theorem az_ok_104_150 : az_okc 104 zX2_byWeight_150 = true := az_okp_ok 104 2 _ (by decide +kernel) rfl
theorem az_ok_104_149 : az_okc 104 zX2_byWeight_149 = true := az_okp_ok 104 1 _ (by decide +kernel) az_ok_104_150
theorem az_ok_104_120 : az_okc 104 zX2_byWeight_120 = true := az_okp_ok 104 18 _ (by decide +kernel) az_ok_104_149
theorem az_ok_104_114 : az_okc 104 zX2_byWeight_114 = true := az_okp_ok 104 2 _ (by decide +kernel) az_ok_104_120
theorem az_ok_104_58 : az_okc 104 zX2_byWeight_58 = true := az_okp_ok 104 31 _ (by decide +kernel) az_ok_104_114
theorem az_ok_104_48 : az_okc 104 zX2_byWeight_48 = true := az_okp_ok 104 6 _ (by decide +kernel) az_ok_104_58
theorem az_ok_104_41 : az_okc 104 zX2_byWeight_41 = true := az_okp_ok 104 4 _ (by decide +kernel) az_ok_104_48
theorem az_ok_104_6 : az_okc 104 zX2_byWeight_6 = true := az_okp_ok 104 18 _ (by decide +kernel) az_ok_104_41
theorem az_ok_104_0 : az_okc 104 zX2_byWeight_0 = true := az_okp_ok 104 4 _ (by decide +kernel) az_ok_104_6
theorem az_ok_104 : az_okc 104 (az_cd 104) = true := az_ok_104_0
theorem az_ok_105 : az_okc 105 (az_cd 105) = true := by decide +kernel
theorem az_ok_106 : az_okc 106 (az_cd 106) = true := by decide +kernel
theorem az_ok_107 : az_okc 107 (az_cd 107) = true := by decide +kernel
theorem az_ok_108 : az_okc 108 (az_cd 108) = true := by decide +kernel
theorem az_ok_109 : az_okc 109 (az_cd 109) = true := by decide +kernel
theorem az_ok_110 : az_okc 110 (az_cd 110) = true := by decide +kernel
theorem az_ok_111 : az_okc 111 (az_cd 111) = true := by decide +kernel
theorem az_ok_112 : az_okc 112 (az_cd 112) = true := by decide +kernel
theorem az_ok_113 : az_okc 113 (az_cd 113) = true := by decide +kernel
theorem az_ok_114 : az_okc 114 (az_cd 114) = true := by decide +kernel
theorem az_ok_115 : az_okc 115 (az_cd 115) = true := by decide +kernel
theorem az_ok_116_130 : az_okc 116 zX8_parts_130 = true := az_okp_ok 116 1 _ (by decide +kernel) rfl
theorem az_ok_116_124 : az_okc 116 zX8_parts_124 = true := az_okp_ok 116 2 _ (by decide +kernel) az_ok_116_130
theorem az_ok_116_112 : az_okc 116 zX8_parts_112 = true := az_okp_ok 116 6 _ (by decide +kernel) az_ok_116_124
theorem az_ok_116_111 : az_okc 116 zX8_parts_111 = true := az_okp_ok 116 1 _ (by decide +kernel) az_ok_116_112
theorem az_ok_116_66 : az_okc 116 zX8_parts_66 = true := az_okp_ok 116 26 _ (by decide +kernel) az_ok_116_111
theorem az_ok_116_52 : az_okc 116 zX8_parts_52 = true := az_okp_ok 116 8 _ (by decide +kernel) az_ok_116_66
theorem az_ok_116_46 : az_okc 116 zX8_parts_46 = true := az_okp_ok 116 4 _ (by decide +kernel) az_ok_116_52
theorem az_ok_116_38 : az_okc 116 zX8_parts_38 = true := az_okp_ok 116 4 _ (by decide +kernel) az_ok_116_46
theorem az_ok_116_37 : az_okc 116 zX8_parts_37 = true := az_okp_ok 116 1 _ (by decide +kernel) az_ok_116_38
theorem az_ok_116_5 : az_okc 116 zX8_parts_5 = true := az_okp_ok 116 17 _ (by decide +kernel) az_ok_116_37
theorem az_ok_116_0 : az_okc 116 zX8_parts_0 = true := az_okp_ok 116 4 _ (by decide +kernel) az_ok_116_5
theorem az_ok_116 : az_okc 116 (az_cd 116) = true := az_ok_116_0
theorem az_ok_117_232 : az_okc 117 zX8_share_232 = true := az_okp_ok 117 1 _ (by decide +kernel) rfl
theorem az_ok_117_220 : az_okc 117 zX8_share_220 = true := az_okp_ok 117 8 _ (by decide +kernel) az_ok_117_232
theorem az_ok_117_166 : az_okc 117 zX8_share_166 = true := az_okp_ok 117 31 _ (by decide +kernel) az_ok_117_220
theorem az_ok_117_160 : az_okc 117 zX8_share_160 = true := az_okp_ok 117 4 _ (by decide +kernel) az_ok_117_166
theorem az_ok_117_152 : az_okc 117 zX8_share_152 = true := az_okp_ok 117 3 _ (by decide +kernel) az_ok_117_160
theorem az_ok_117_150 : az_okc 117 zX8_share_150 = true := az_okp_ok 117 1 _ (by decide +kernel) az_ok_117_152
theorem az_ok_117_99 : az_okc 117 zX8_share_99 = true := az_okp_ok 117 28 _ (by decide +kernel) az_ok_117_150
theorem az_ok_117_82 : az_okc 117 zX8_share_82 = true := az_okp_ok 117 10 _ (by decide +kernel) az_ok_117_99
theorem az_ok_117_52 : az_okc 117 zX8_share_52 = true := az_okp_ok 117 16 _ (by decide +kernel) az_ok_117_82
theorem az_ok_117_50 : az_okc 117 zX8_share_50 = true := az_okp_ok 117 2 _ (by decide +kernel) az_ok_117_52
theorem az_ok_117_35 : az_okc 117 zX8_share_35 = true := az_okp_ok 117 9 _ (by decide +kernel) az_ok_117_50
theorem az_ok_117_20 : az_okc 117 zX8_share_20 = true := az_okp_ok 117 9 _ (by decide +kernel) az_ok_117_35
theorem az_ok_117_2 : az_okc 117 zX8_share_2 = true := az_okp_ok 117 10 _ (by decide +kernel) az_ok_117_20
theorem az_ok_117_0 : az_okc 117 zX8_share_0 = true := az_okp_ok 117 2 _ (by decide +kernel) az_ok_117_2
theorem az_ok_117 : az_okc 117 (az_cd 117) = true := az_ok_117_0
theorem az_ok_118 : az_okc 118 (az_cd 118) = true := by decide +kernel
theorem az_ok_119 : az_okc 119 (az_cd 119) = true := by decide +kernel
theorem az_ok_120_214 : az_okc 120 zX8_sunset_214 = true := az_okp_ok 120 20 _ (by decide +kernel) rfl
theorem az_ok_120_130 : az_okc 120 zX8_sunset_130 = true := az_okp_ok 120 54 _ (by decide +kernel) az_ok_120_214
theorem az_ok_120_121 : az_okc 120 zX8_sunset_121 = true := az_okp_ok 120 6 _ (by decide +kernel) az_ok_120_130
theorem az_ok_120_88 : az_okc 120 zX8_sunset_88 = true := az_okp_ok 120 20 _ (by decide +kernel) az_ok_120_121
theorem az_ok_120_77 : az_okc 120 zX8_sunset_77 = true := az_okp_ok 120 7 _ (by decide +kernel) az_ok_120_88
theorem az_ok_120_46 : az_okc 120 zX8_sunset_46 = true := az_okp_ok 120 18 _ (by decide +kernel) az_ok_120_77
theorem az_ok_120_36 : az_okc 120 zX8_sunset_36 = true := az_okp_ok 120 6 _ (by decide +kernel) az_ok_120_46
theorem az_ok_120_21 : az_okc 120 zX8_sunset_21 = true := az_okp_ok 120 8 _ (by decide +kernel) az_ok_120_36
theorem az_ok_120_18 : az_okc 120 zX8_sunset_18 = true := az_okp_ok 120 2 _ (by decide +kernel) az_ok_120_21
theorem az_ok_120_0 : az_okc 120 zX8_sunset_0 = true := az_okp_ok 120 9 _ (by decide +kernel) az_ok_120_18
theorem az_ok_120 : az_okc 120 (az_cd 120) = true := az_ok_120_0
theorem az_ok_121 : az_okc 121 (az_cd 121) = true := by decide +kernel
theorem az_ok_122 : az_okc 122 (az_cd 122) = true := by decide +kernel
theorem az_ok_123 : az_okc 123 (az_cd 123) = true := by decide +kernel
theorem az_ok_124 : az_okc 124 (az_cd 124) = true := by decide +kernel
theorem az_ok_125_126 : az_okc 125 zX8_guest_126 = true := az_okp_ok 125 7 _ (by decide +kernel) rfl
theorem az_ok_125_116 : az_okc 125 zX8_guest_116 = true := az_okp_ok 125 7 _ (by decide +kernel) az_ok_125_126
theorem az_ok_125_106 : az_okc 125 zX8_guest_106 = true := az_okp_ok 125 7 _ (by decide +kernel) az_ok_125_116
theorem az_ok_125_94 : az_okc 125 zX8_guest_94 = true := az_okp_ok 125 9 _ (by decide +kernel) az_ok_125_106
theorem az_ok_125_84 : az_okc 125 zX8_guest_84 = true := az_okp_ok 125 7 _ (by decide +kernel) az_ok_125_94
theorem az_ok_125_74 : az_okc 125 zX8_guest_74 = true := az_okp_ok 125 7 _ (by decide +kernel) az_ok_125_84
theorem az_ok_125_64 : az_okc 125 zX8_guest_64 = true := az_okp_ok 125 7 _ (by decide +kernel) az_ok_125_74
theorem az_ok_125_23 : az_okc 125 zX8_guest_23 = true := az_okp_ok 125 2 _ (by decide +kernel) az_ok_125_64
theorem az_ok_125_20 : az_okc 125 zX8_guest_20 = true := az_okp_ok 125 2 _ (by decide +kernel) az_ok_125_23
theorem az_ok_125_0 : az_okc 125 zX8_guest_0 = true := az_okp_ok 125 10 _ (by decide +kernel) az_ok_125_20
theorem az_ok_125 : az_okc 125 (az_cd 125) = true := az_ok_125_0
theorem az_ok_126 : az_okc 126 (az_cd 126) = true := by decide +kernel
theorem az_ok_127 : az_okc 127 (az_cd 127) = true := by decide +kernel
theorem az_ok_128_117 : az_okc 128 zX7_look_117 = true := az_okp_ok 128 4 _ (by decide +kernel) rfl
theorem az_ok_128_111 : az_okc 128 zX7_look_111 = true := az_okp_ok 128 2 _ (by decide +kernel) az_ok_128_117
theorem az_ok_128_108 : az_okc 128 zX7_look_108 = true := az_okp_ok 128 2 _ (by decide +kernel) az_ok_128_111
theorem az_ok_128_73 : az_okc 128 zX7_look_73 = true := az_okp_ok 128 16 _ (by decide +kernel) az_ok_128_108
theorem az_ok_128_70 : az_okc 128 zX7_look_70 = true := az_okp_ok 128 2 _ (by decide +kernel) az_ok_128_73
theorem az_ok_128_49 : az_okc 128 zX7_look_49 = true := az_okp_ok 128 10 _ (by decide +kernel) az_ok_128_70
theorem az_ok_128_27 : az_okc 128 zX7_look_27 = true := az_okp_ok 128 12 _ (by decide +kernel) az_ok_128_49
theorem az_ok_128_24 : az_okc 128 zX7_look_24 = true := az_okp_ok 128 2 _ (by decide +kernel) az_ok_128_27
theorem az_ok_128_13 : az_okc 128 zX7_look_13 = true := az_okp_ok 128 5 _ (by decide +kernel) az_ok_128_24
theorem az_ok_128_0 : az_okc 128 zX7_look_0 = true := az_okp_ok 128 6 _ (by decide +kernel) az_ok_128_13
theorem az_ok_128 : az_okc 128 (az_cd 128) = true := az_ok_128_0
theorem az_ok_129 : az_okc 129 (az_cd 129) = true := by decide +kernel
theorem az_ok_130 : az_okc 130 (az_cd 130) = true := by decide +kernel
theorem az_ok_131 : az_okc 131 (az_cd 131) = true := by decide +kernel
theorem az_ok_132 : az_okc 132 (az_cd 132) = true := by decide +kernel
theorem az_ok_133_124 : az_okc 133 zX8_tells_124 = true := az_okp_ok 133 7 _ (by decide +kernel) rfl
theorem az_ok_133_99 : az_okc 133 zX8_tells_99 = true := az_okp_ok 133 14 _ (by decide +kernel) az_ok_133_124
theorem az_ok_133_63 : az_okc 133 zX8_tells_63 = true := az_okp_ok 133 22 _ (by decide +kernel) az_ok_133_99
theorem az_ok_133_60 : az_okc 133 zX8_tells_60 = true := az_okp_ok 133 2 _ (by decide +kernel) az_ok_133_63
theorem az_ok_133_39 : az_okc 133 zX8_tells_39 = true := az_okp_ok 133 13 _ (by decide +kernel) az_ok_133_60
theorem az_ok_133_24 : az_okc 133 zX8_tells_24 = true := az_okp_ok 133 9 _ (by decide +kernel) az_ok_133_39
theorem az_ok_133_21 : az_okc 133 zX8_tells_21 = true := az_okp_ok 133 2 _ (by decide +kernel) az_ok_133_24
theorem az_ok_133_10 : az_okc 133 zX8_tells_10 = true := az_okp_ok 133 5 _ (by decide +kernel) az_ok_133_21
theorem az_ok_133_0 : az_okc 133 zX8_tells_0 = true := az_okp_ok 133 5 _ (by decide +kernel) az_ok_133_10
theorem az_ok_133 : az_okc 133 (az_cd 133) = true := az_ok_133_0
theorem az_ok_134_162 : az_okc 134 zX8_joyOf_162 = true := az_okp_ok 134 1 _ (by decide +kernel) rfl
theorem az_ok_134_160 : az_okc 134 zX8_joyOf_160 = true := az_okp_ok 134 1 _ (by decide +kernel) az_ok_134_162
theorem az_ok_134_147 : az_okc 134 zX8_joyOf_147 = true := az_okp_ok 134 7 _ (by decide +kernel) az_ok_134_160
theorem az_ok_134_134 : az_okc 134 zX8_joyOf_134 = true := az_okp_ok 134 7 _ (by decide +kernel) az_ok_134_147
theorem az_ok_134_133 : az_okc 134 zX8_joyOf_133 = true := az_okp_ok 134 1 _ (by decide +kernel) az_ok_134_134
theorem az_ok_134_131 : az_okc 134 zX8_joyOf_131 = true := az_okp_ok 134 1 _ (by decide +kernel) az_ok_134_133
theorem az_ok_134_114 : az_okc 134 zX8_joyOf_114 = true := az_okp_ok 134 10 _ (by decide +kernel) az_ok_134_131
theorem az_ok_134_105 : az_okc 134 zX8_joyOf_105 = true := az_okp_ok 134 4 _ (by decide +kernel) az_ok_134_114
theorem az_ok_134_104 : az_okc 134 zX8_joyOf_104 = true := az_okp_ok 134 1 _ (by decide +kernel) az_ok_134_105
theorem az_ok_134_70 : az_okc 134 zX8_joyOf_70 = true := az_okp_ok 134 18 _ (by decide +kernel) az_ok_134_104
theorem az_ok_134_62 : az_okc 134 zX8_joyOf_62 = true := az_okp_ok 134 5 _ (by decide +kernel) az_ok_134_70
theorem az_ok_134_60 : az_okc 134 zX8_joyOf_60 = true := az_okp_ok 134 1 _ (by decide +kernel) az_ok_134_62
theorem az_ok_134_41 : az_okc 134 zX8_joyOf_41 = true := az_okp_ok 134 11 _ (by decide +kernel) az_ok_134_60
theorem az_ok_134_0 : az_okc 134 zX8_joyOf_0 = true := az_okp_ok 134 26 _ (by decide +kernel) az_ok_134_41
theorem az_ok_134 : az_okc 134 (az_cd 134) = true := az_ok_134_0
theorem az_ok_135 : az_okc 135 (az_cd 135) = true := by decide +kernel
theorem az_ok_136 : az_okc 136 (az_cd 136) = true := by decide +kernel
theorem az_ok_137_122 : az_okc 137 zX3_bestOf_122 = true := az_okp_ok 137 8 _ (by decide +kernel) rfl
theorem az_ok_137_113 : az_okc 137 zX3_bestOf_113 = true := az_okp_ok 137 4 _ (by decide +kernel) az_ok_137_122
theorem az_ok_137_112 : az_okc 137 zX3_bestOf_112 = true := az_okp_ok 137 1 _ (by decide +kernel) az_ok_137_113
theorem az_ok_137_89 : az_okc 137 zX3_bestOf_89 = true := az_okp_ok 137 11 _ (by decide +kernel) az_ok_137_112
theorem az_ok_137_88 : az_okc 137 zX3_bestOf_88 = true := az_okp_ok 137 1 _ (by decide +kernel) az_ok_137_89
theorem az_ok_137_18 : az_okc 137 zX3_bestOf_18 = true := az_okp_ok 137 38 _ (by decide +kernel) az_ok_137_88
theorem az_ok_137_0 : az_okc 137 zX3_bestOf_0 = true := az_okp_ok 137 12 _ (by decide +kernel) az_ok_137_18
theorem az_ok_137 : az_okc 137 (az_cd 137) = true := az_ok_137_0
theorem az_ok_138 : az_okc 138 (az_cd 138) = true := by decide +kernel
theorem az_ok_139 : az_okc 139 (az_cd 139) = true := by decide +kernel
theorem az_ok_140 : az_okc 140 (az_cd 140) = true := by decide +kernel
theorem az_ok_141 : az_okc 141 (az_cd 141) = true := by decide +kernel
theorem az_ok_142 : az_okc 142 (az_cd 142) = true := by decide +kernel
theorem az_ok_143 : az_okc 143 (az_cd 143) = true := by decide +kernel
theorem az_ok_144 : az_okc 144 (az_cd 144) = true := by decide +kernel
theorem az_ok_145 : az_okc 145 (az_cd 145) = true := by decide +kernel
theorem az_ok_146 : az_okc 146 (az_cd 146) = true := by decide +kernel
theorem az_ok_147 : az_okc 147 (az_cd 147) = true := by decide +kernel
theorem az_ok_148 : az_okc 148 (az_cd 148) = true := by decide +kernel
theorem az_ok_149 : az_okc 149 (az_cd 149) = true := by decide +kernel
theorem az_ok_150 : az_okc 150 (az_cd 150) = true := by decide +kernel
theorem az_ok_151 : az_okc 151 (az_cd 151) = true := by decide +kernel
theorem az_ok_152 : az_okc 152 (az_cd 152) = true := by decide +kernel
theorem az_ok_153 : az_okc 153 (az_cd 153) = true := by decide +kernel
theorem az_ok_154 : az_okc 154 (az_cd 154) = true := by decide +kernel
theorem az_ok_155 : az_okc 155 (az_cd 155) = true := by decide +kernel
theorem az_ok_156 : az_okc 156 (az_cd 156) = true := by decide +kernel
theorem az_ok_157 : az_okc 157 (az_cd 157) = true := by decide +kernel
theorem az_ok_158_280 : az_okc 158 zX8_pact_280 = true := az_okp_ok 158 1 _ (by decide +kernel) rfl
theorem az_ok_158_279 : az_okc 158 zX8_pact_279 = true := az_okp_ok 158 1 _ (by decide +kernel) az_ok_158_280
theorem az_ok_158_270 : az_okc 158 zX8_pact_270 = true := az_okp_ok 158 4 _ (by decide +kernel) az_ok_158_279
theorem az_ok_158_254 : az_okc 158 zX8_pact_254 = true := az_okp_ok 158 8 _ (by decide +kernel) az_ok_158_270
theorem az_ok_158_253 : az_okc 158 zX8_pact_253 = true := az_okp_ok 158 1 _ (by decide +kernel) az_ok_158_254
theorem az_ok_158_216 : az_okc 158 zX8_pact_216 = true := az_okp_ok 158 20 _ (by decide +kernel) az_ok_158_253
theorem az_ok_158_215 : az_okc 158 zX8_pact_215 = true := az_okp_ok 158 1 _ (by decide +kernel) az_ok_158_216
theorem az_ok_158_181 : az_okc 158 zX8_pact_181 = true := az_okp_ok 158 17 _ (by decide +kernel) az_ok_158_215
theorem az_ok_158_161 : az_okc 158 zX8_pact_161 = true := az_okp_ok 158 12 _ (by decide +kernel) az_ok_158_181
theorem az_ok_158_160 : az_okc 158 zX8_pact_160 = true := az_okp_ok 158 1 _ (by decide +kernel) az_ok_158_161
theorem az_ok_158_158 : az_okc 158 zX8_pact_158 = true := az_okp_ok 158 1 _ (by decide +kernel) az_ok_158_160
theorem az_ok_158_148 : az_okc 158 zX8_pact_148 = true := az_okp_ok 158 4 _ (by decide +kernel) az_ok_158_158
theorem az_ok_158_135 : az_okc 158 zX8_pact_135 = true := az_okp_ok 158 5 _ (by decide +kernel) az_ok_158_148
theorem az_ok_158_127 : az_okc 158 zX8_pact_127 = true := az_okp_ok 158 3 _ (by decide +kernel) az_ok_158_135
theorem az_ok_158_126 : az_okc 158 zX8_pact_126 = true := az_okp_ok 158 1 _ (by decide +kernel) az_ok_158_127
theorem az_ok_158_74 : az_okc 158 zX8_pact_74 = true := az_okp_ok 158 27 _ (by decide +kernel) az_ok_158_126
theorem az_ok_158_54 : az_okc 158 zX8_pact_54 = true := az_okp_ok 158 12 _ (by decide +kernel) az_ok_158_74
theorem az_ok_158_39 : az_okc 158 zX8_pact_39 = true := az_okp_ok 158 7 _ (by decide +kernel) az_ok_158_54
theorem az_ok_158_38 : az_okc 158 zX8_pact_38 = true := az_okp_ok 158 1 _ (by decide +kernel) az_ok_158_39
theorem az_ok_158_0 : az_okc 158 zX8_pact_0 = true := az_okp_ok 158 21 _ (by decide +kernel) az_ok_158_38
theorem az_ok_158 : az_okc 158 (az_cd 158) = true := az_ok_158_0
theorem az_ok_159_110 : az_okc 159 zX3_meanAlone_110 = true := az_okp_ok 159 2 _ (by decide +kernel) rfl
theorem az_ok_159_9 : az_okc 159 zX3_meanAlone_9 = true := az_okp_ok 159 60 _ (by decide +kernel) az_ok_159_110
theorem az_ok_159_0 : az_okc 159 zX3_meanAlone_0 = true := az_okp_ok 159 6 _ (by decide +kernel) az_ok_159_9
theorem az_ok_159 : az_okc 159 (az_cd 159) = true := az_ok_159_0
theorem az_ok_160 : az_okc 160 (az_cd 160) = true := by decide +kernel
theorem az_ok_161 : az_okc 161 (az_cd 161) = true := by decide +kernel
theorem az_ok_162_261 : az_okc 162 zX8_alone_261 = true := az_okp_ok 162 2 _ (by decide +kernel) rfl
theorem az_ok_162_256 : az_okc 162 zX8_alone_256 = true := az_okp_ok 162 3 _ (by decide +kernel) az_ok_162_261
theorem az_ok_162_244 : az_okc 162 zX8_alone_244 = true := az_okp_ok 162 6 _ (by decide +kernel) az_ok_162_256
theorem az_ok_162_219 : az_okc 162 zX8_alone_219 = true := az_okp_ok 162 13 _ (by decide +kernel) az_ok_162_244
theorem az_ok_162_211 : az_okc 162 zX8_alone_211 = true := az_okp_ok 162 4 _ (by decide +kernel) az_ok_162_219
theorem az_ok_162_193 : az_okc 162 zX8_alone_193 = true := az_okp_ok 162 9 _ (by decide +kernel) az_ok_162_211
theorem az_ok_162_192 : az_okc 162 zX8_alone_192 = true := az_okp_ok 162 1 _ (by decide +kernel) az_ok_162_193
theorem az_ok_162_174 : az_okc 162 zX8_alone_174 = true := az_okp_ok 162 11 _ (by decide +kernel) az_ok_162_192
theorem az_ok_162_173 : az_okc 162 zX8_alone_173 = true := az_okp_ok 162 1 _ (by decide +kernel) az_ok_162_174
theorem az_ok_162_110 : az_okc 162 zX8_alone_110 = true := az_okp_ok 162 40 _ (by decide +kernel) az_ok_162_173
theorem az_ok_162_109 : az_okc 162 zX8_alone_109 = true := az_okp_ok 162 1 _ (by decide +kernel) az_ok_162_110
theorem az_ok_162_75 : az_okc 162 zX8_alone_75 = true := az_okp_ok 162 19 _ (by decide +kernel) az_ok_162_109
theorem az_ok_162_66 : az_okc 162 zX8_alone_66 = true := az_okp_ok 162 6 _ (by decide +kernel) az_ok_162_75
theorem az_ok_162_46 : az_okc 162 zX8_alone_46 = true := az_okp_ok 162 10 _ (by decide +kernel) az_ok_162_66
theorem az_ok_162_43 : az_okc 162 zX8_alone_43 = true := az_okp_ok 162 2 _ (by decide +kernel) az_ok_162_46
theorem az_ok_162_40 : az_okc 162 zX8_alone_40 = true := az_okp_ok 162 2 _ (by decide +kernel) az_ok_162_43
theorem az_ok_162_10 : az_okc 162 zX8_alone_10 = true := az_okp_ok 162 16 _ (by decide +kernel) az_ok_162_40
theorem az_ok_162_0 : az_okc 162 zX8_alone_0 = true := az_okp_ok 162 5 _ (by decide +kernel) az_ok_162_10
theorem az_ok_162 : az_okc 162 (az_cd 162) = true := az_ok_162_0
theorem az_ok_163 : az_okc 163 (az_cd 163) = true := by decide +kernel
theorem az_ok_164 : az_okc 164 (az_cd 164) = true := by decide +kernel
theorem az_ok_165 : az_okc 165 (az_cd 165) = true := by decide +kernel
theorem az_ok_166 : az_okc 166 (az_cd 166) = true := by decide +kernel
theorem az_ok_167_187 : az_okc 167 zX8_explained_187 = true := az_okp_ok 167 1 _ (by decide +kernel) rfl
theorem az_ok_167_185 : az_okc 167 zX8_explained_185 = true := az_okp_ok 167 1 _ (by decide +kernel) az_ok_167_187
theorem az_ok_167_176 : az_okc 167 zX8_explained_176 = true := az_okp_ok 167 4 _ (by decide +kernel) az_ok_167_185
theorem az_ok_167_167 : az_okc 167 zX8_explained_167 = true := az_okp_ok 167 4 _ (by decide +kernel) az_ok_167_176
theorem az_ok_167_166 : az_okc 167 zX8_explained_166 = true := az_okp_ok 167 1 _ (by decide +kernel) az_ok_167_167
theorem az_ok_167_155 : az_okc 167 zX8_explained_155 = true := az_okp_ok 167 5 _ (by decide +kernel) az_ok_167_166
theorem az_ok_167_153 : az_okc 167 zX8_explained_153 = true := az_okp_ok 167 1 _ (by decide +kernel) az_ok_167_155
theorem az_ok_167_151 : az_okc 167 zX8_explained_151 = true := az_okp_ok 167 1 _ (by decide +kernel) az_ok_167_153
theorem az_ok_167_142 : az_okc 167 zX8_explained_142 = true := az_okp_ok 167 5 _ (by decide +kernel) az_ok_167_151
theorem az_ok_167_117 : az_okc 167 zX8_explained_117 = true := az_okp_ok 167 12 _ (by decide +kernel) az_ok_167_142
theorem az_ok_167_109 : az_okc 167 zX8_explained_109 = true := az_okp_ok 167 3 _ (by decide +kernel) az_ok_167_117
theorem az_ok_167_108 : az_okc 167 zX8_explained_108 = true := az_okp_ok 167 1 _ (by decide +kernel) az_ok_167_109
theorem az_ok_167_67 : az_okc 167 zX8_explained_67 = true := az_okp_ok 167 22 _ (by decide +kernel) az_ok_167_108
theorem az_ok_167_42 : az_okc 167 zX8_explained_42 = true := az_okp_ok 167 13 _ (by decide +kernel) az_ok_167_67
theorem az_ok_167_32 : az_okc 167 zX8_explained_32 = true := az_okp_ok 167 6 _ (by decide +kernel) az_ok_167_42
theorem az_ok_167_20 : az_okc 167 zX8_explained_20 = true := az_okp_ok 167 7 _ (by decide +kernel) az_ok_167_32
theorem az_ok_167_19 : az_okc 167 zX8_explained_19 = true := az_okp_ok 167 1 _ (by decide +kernel) az_ok_167_20
theorem az_ok_167_15 : az_okc 167 zX8_explained_15 = true := az_okp_ok 167 2 _ (by decide +kernel) az_ok_167_19
theorem az_ok_167_0 : az_okc 167 zX8_explained_0 = true := az_okp_ok 167 9 _ (by decide +kernel) az_ok_167_15
theorem az_ok_167 : az_okc 167 (az_cd 167) = true := az_ok_167_0
theorem az_ok_168 : az_okc 168 (az_cd 168) = true := by decide +kernel
theorem az_ok_169 : az_okc 169 (az_cd 169) = true := by decide +kernel
theorem az_ok_170 : az_okc 170 (az_cd 170) = true := by decide +kernel
theorem az_ok_171 : az_okc 171 (az_cd 171) = true := by decide +kernel
theorem az_ok_172_184 : az_okc 172 zX8_laws_184 = true := az_okp_ok 172 1 _ (by decide +kernel) rfl
theorem az_ok_172_182 : az_okc 172 zX8_laws_182 = true := az_okp_ok 172 1 _ (by decide +kernel) az_ok_172_184
theorem az_ok_172_173 : az_okc 172 zX8_laws_173 = true := az_okp_ok 172 4 _ (by decide +kernel) az_ok_172_182
theorem az_ok_172_164 : az_okc 172 zX8_laws_164 = true := az_okp_ok 172 4 _ (by decide +kernel) az_ok_172_173
theorem az_ok_172_163 : az_okc 172 zX8_laws_163 = true := az_okp_ok 172 1 _ (by decide +kernel) az_ok_172_164
theorem az_ok_172_147 : az_okc 172 zX8_laws_147 = true := az_okp_ok 172 8 _ (by decide +kernel) az_ok_172_163
theorem az_ok_172_136 : az_okc 172 zX8_laws_136 = true := az_okp_ok 172 6 _ (by decide +kernel) az_ok_172_147
theorem az_ok_172_121 : az_okc 172 zX8_laws_121 = true := az_okp_ok 172 7 _ (by decide +kernel) az_ok_172_136
theorem az_ok_172_113 : az_okc 172 zX8_laws_113 = true := az_okp_ok 172 3 _ (by decide +kernel) az_ok_172_121
theorem az_ok_172_111 : az_okc 172 zX8_laws_111 = true := az_okp_ok 172 1 _ (by decide +kernel) az_ok_172_113
theorem az_ok_172_106 : az_okc 172 zX8_laws_106 = true := az_okp_ok 172 2 _ (by decide +kernel) az_ok_172_111
theorem az_ok_172_92 : az_okc 172 zX8_laws_92 = true := az_okp_ok 172 6 _ (by decide +kernel) az_ok_172_106
theorem az_ok_172_90 : az_okc 172 zX8_laws_90 = true := az_okp_ok 172 1 _ (by decide +kernel) az_ok_172_92
theorem az_ok_172_85 : az_okc 172 zX8_laws_85 = true := az_okp_ok 172 2 _ (by decide +kernel) az_ok_172_90
theorem az_ok_172_54 : az_okc 172 zX8_laws_54 = true := az_okp_ok 172 15 _ (by decide +kernel) az_ok_172_85
theorem az_ok_172_33 : az_okc 172 zX8_laws_33 = true := az_okp_ok 172 12 _ (by decide +kernel) az_ok_172_54
theorem az_ok_172_21 : az_okc 172 zX8_laws_21 = true := az_okp_ok 172 8 _ (by decide +kernel) az_ok_172_33
theorem az_ok_172_0 : az_okc 172 zX8_laws_0 = true := az_okp_ok 172 14 _ (by decide +kernel) az_ok_172_21
theorem az_ok_172 : az_okc 172 (az_cd 172) = true := az_ok_172_0
theorem az_ok_173_107 : az_okc 173 zX3_ownersPrice_107 = true := az_okp_ok 173 2 _ (by decide +kernel) rfl
theorem az_ok_173_101 : az_okc 173 zX3_ownersPrice_101 = true := az_okp_ok 173 2 _ (by decide +kernel) az_ok_173_107
theorem az_ok_173_73 : az_okc 173 zX3_ownersPrice_73 = true := az_okp_ok 173 16 _ (by decide +kernel) az_ok_173_101
theorem az_ok_173_51 : az_okc 173 zX3_ownersPrice_51 = true := az_okp_ok 173 11 _ (by decide +kernel) az_ok_173_73
theorem az_ok_173_26 : az_okc 173 zX3_ownersPrice_26 = true := az_okp_ok 173 14 _ (by decide +kernel) az_ok_173_51
theorem az_ok_173_0 : az_okc 173 zX3_ownersPrice_0 = true := az_okp_ok 173 16 _ (by decide +kernel) az_ok_173_26
theorem az_ok_173 : az_okc 173 (az_cd 173) = true := az_ok_173_0
theorem az_ok_174 : az_okc 174 (az_cd 174) = true := by decide +kernel
theorem az_ok_175_113 : az_okc 175 zX8_owner_113 = true := az_okp_ok 175 1 _ (by decide +kernel) rfl
theorem az_ok_175_111 : az_okc 175 zX8_owner_111 = true := az_okp_ok 175 1 _ (by decide +kernel) az_ok_175_113
theorem az_ok_175_102 : az_okc 175 zX8_owner_102 = true := az_okp_ok 175 4 _ (by decide +kernel) az_ok_175_111
theorem az_ok_175_96 : az_okc 175 zX8_owner_96 = true := az_okp_ok 175 2 _ (by decide +kernel) az_ok_175_102
theorem az_ok_175_71 : az_okc 175 zX8_owner_71 = true := az_okp_ok 175 12 _ (by decide +kernel) az_ok_175_96
theorem az_ok_175_49 : az_okc 175 zX8_owner_49 = true := az_okp_ok 175 10 _ (by decide +kernel) az_ok_175_71
theorem az_ok_175_30 : az_okc 175 zX8_owner_30 = true := az_okp_ok 175 11 _ (by decide +kernel) az_ok_175_49
theorem az_ok_175_21 : az_okc 175 zX8_owner_21 = true := az_okp_ok 175 6 _ (by decide +kernel) az_ok_175_30
theorem az_ok_175_0 : az_okc 175 zX8_owner_0 = true := az_okp_ok 175 14 _ (by decide +kernel) az_ok_175_21
theorem az_ok_175 : az_okc 175 (az_cd 175) = true := az_ok_175_0
theorem az_ok_176 : az_okc 176 (az_cd 176) = true := by decide +kernel
theorem az_ok_177 : az_okc 177 (az_cd 177) = true := by decide +kernel
theorem az_ok_178 : az_okc 178 (az_cd 178) = true := by decide +kernel
theorem az_ok_179 : az_okc 179 (az_cd 179) = true := by decide +kernel
theorem az_ok_180 : az_okc 180 (az_cd 180) = true := by decide +kernel
theorem az_ok_181 : az_okc 181 (az_cd 181) = true := by decide +kernel
theorem az_ok_182 : az_okc 182 (az_cd 182) = true := by decide +kernel
theorem az_ok_183 : az_okc 183 (az_cd 183) = true := by decide +kernel
theorem az_ok_184 : az_okc 184 (az_cd 184) = true := by decide +kernel
theorem az_ok_185 : az_okc 185 (az_cd 185) = true := by decide +kernel
theorem az_ok_186 : az_okc 186 (az_cd 186) = true := by decide +kernel
theorem az_ok_187 : az_okc 187 (az_cd 187) = true := by decide +kernel
theorem az_ok_188 : az_okc 188 (az_cd 188) = true := by decide +kernel
theorem az_ok_189_162 : az_okc 189 zX0_markAs0_162 = true := az_okp_ok 189 5 _ (by decide +kernel) rfl
theorem az_ok_189_150 : az_okc 189 zX0_markAs0_150 = true := az_okp_ok 189 9 _ (by decide +kernel) az_ok_189_162
theorem az_ok_189_111 : az_okc 189 zX0_markAs0_111 = true := az_okp_ok 189 26 _ (by decide +kernel) az_ok_189_150
theorem az_ok_189_89 : az_okc 189 zX0_markAs0_89 = true := az_okp_ok 189 14 _ (by decide +kernel) az_ok_189_111
theorem az_ok_189_69 : az_okc 189 zX0_markAs0_69 = true := az_okp_ok 189 14 _ (by decide +kernel) az_ok_189_89
theorem az_ok_189_44 : az_okc 189 zX0_markAs0_44 = true := az_okp_ok 189 17 _ (by decide +kernel) az_ok_189_69
theorem az_ok_189_9 : az_okc 189 zX0_markAs0_9 = true := az_okp_ok 189 2 _ (by decide +kernel) az_ok_189_44
theorem az_ok_189_0 : az_okc 189 zX0_markAs0_0 = true := az_okp_ok 189 5 _ (by decide +kernel) az_ok_189_9
theorem az_ok_189 : az_okc 189 (az_cd 189) = true := az_ok_189_0
theorem az_ok_190_155 : az_okc 190 zX0_sizeAs0_155 = true := az_okp_ok 190 8 _ (by decide +kernel) rfl
theorem az_ok_190_143 : az_okc 190 zX0_sizeAs0_143 = true := az_okp_ok 190 9 _ (by decide +kernel) az_ok_190_155
theorem az_ok_190_123 : az_okc 190 zX0_sizeAs0_123 = true := az_okp_ok 190 14 _ (by decide +kernel) az_ok_190_143
theorem az_ok_190_102 : az_okc 190 zX0_sizeAs0_102 = true := az_okp_ok 190 14 _ (by decide +kernel) az_ok_190_123
theorem az_ok_190_83 : az_okc 190 zX0_sizeAs0_83 = true := az_okp_ok 190 13 _ (by decide +kernel) az_ok_190_102
theorem az_ok_190_44 : az_okc 190 zX0_sizeAs0_44 = true := az_okp_ok 190 26 _ (by decide +kernel) az_ok_190_83
theorem az_ok_190_9 : az_okc 190 zX0_sizeAs0_9 = true := az_okp_ok 190 2 _ (by decide +kernel) az_ok_190_44
theorem az_ok_190_0 : az_okc 190 zX0_sizeAs0_0 = true := az_okp_ok 190 5 _ (by decide +kernel) az_ok_190_9
theorem az_ok_190 : az_okc 190 (az_cd 190) = true := az_ok_190_0
theorem az_ok_191_162 : az_okc 191 zX0_markAs1_162 = true := az_okp_ok 191 5 _ (by decide +kernel) rfl
theorem az_ok_191_150 : az_okc 191 zX0_markAs1_150 = true := az_okp_ok 191 9 _ (by decide +kernel) az_ok_191_162
theorem az_ok_191_111 : az_okc 191 zX0_markAs1_111 = true := az_okp_ok 191 26 _ (by decide +kernel) az_ok_191_150
theorem az_ok_191_89 : az_okc 191 zX0_markAs1_89 = true := az_okp_ok 191 14 _ (by decide +kernel) az_ok_191_111
theorem az_ok_191_69 : az_okc 191 zX0_markAs1_69 = true := az_okp_ok 191 14 _ (by decide +kernel) az_ok_191_89
theorem az_ok_191_44 : az_okc 191 zX0_markAs1_44 = true := az_okp_ok 191 17 _ (by decide +kernel) az_ok_191_69
theorem az_ok_191_9 : az_okc 191 zX0_markAs1_9 = true := az_okp_ok 191 2 _ (by decide +kernel) az_ok_191_44
theorem az_ok_191_0 : az_okc 191 zX0_markAs1_0 = true := az_okp_ok 191 5 _ (by decide +kernel) az_ok_191_9
theorem az_ok_191 : az_okc 191 (az_cd 191) = true := az_ok_191_0
theorem az_ok_192_155 : az_okc 192 zX0_sizeAs1_155 = true := az_okp_ok 192 8 _ (by decide +kernel) rfl
theorem az_ok_192_143 : az_okc 192 zX0_sizeAs1_143 = true := az_okp_ok 192 9 _ (by decide +kernel) az_ok_192_155
theorem az_ok_192_123 : az_okc 192 zX0_sizeAs1_123 = true := az_okp_ok 192 14 _ (by decide +kernel) az_ok_192_143
theorem az_ok_192_102 : az_okc 192 zX0_sizeAs1_102 = true := az_okp_ok 192 14 _ (by decide +kernel) az_ok_192_123
theorem az_ok_192_83 : az_okc 192 zX0_sizeAs1_83 = true := az_okp_ok 192 13 _ (by decide +kernel) az_ok_192_102
theorem az_ok_192_44 : az_okc 192 zX0_sizeAs1_44 = true := az_okp_ok 192 26 _ (by decide +kernel) az_ok_192_83
theorem az_ok_192_9 : az_okc 192 zX0_sizeAs1_9 = true := az_okp_ok 192 2 _ (by decide +kernel) az_ok_192_44
theorem az_ok_192_0 : az_okc 192 zX0_sizeAs1_0 = true := az_okp_ok 192 5 _ (by decide +kernel) az_ok_192_9
theorem az_ok_192 : az_okc 192 (az_cd 192) = true := az_ok_192_0
theorem az_ok_193_162 : az_okc 193 zX0_markAs2_162 = true := az_okp_ok 193 5 _ (by decide +kernel) rfl
theorem az_ok_193_150 : az_okc 193 zX0_markAs2_150 = true := az_okp_ok 193 9 _ (by decide +kernel) az_ok_193_162
theorem az_ok_193_111 : az_okc 193 zX0_markAs2_111 = true := az_okp_ok 193 26 _ (by decide +kernel) az_ok_193_150
theorem az_ok_193_89 : az_okc 193 zX0_markAs2_89 = true := az_okp_ok 193 14 _ (by decide +kernel) az_ok_193_111
theorem az_ok_193_69 : az_okc 193 zX0_markAs2_69 = true := az_okp_ok 193 14 _ (by decide +kernel) az_ok_193_89
theorem az_ok_193_44 : az_okc 193 zX0_markAs2_44 = true := az_okp_ok 193 17 _ (by decide +kernel) az_ok_193_69
theorem az_ok_193_9 : az_okc 193 zX0_markAs2_9 = true := az_okp_ok 193 2 _ (by decide +kernel) az_ok_193_44
theorem az_ok_193_0 : az_okc 193 zX0_markAs2_0 = true := az_okp_ok 193 5 _ (by decide +kernel) az_ok_193_9
theorem az_ok_193 : az_okc 193 (az_cd 193) = true := az_ok_193_0
theorem az_ok_194_155 : az_okc 194 zX0_sizeAs2_155 = true := az_okp_ok 194 8 _ (by decide +kernel) rfl
theorem az_ok_194_143 : az_okc 194 zX0_sizeAs2_143 = true := az_okp_ok 194 9 _ (by decide +kernel) az_ok_194_155
theorem az_ok_194_123 : az_okc 194 zX0_sizeAs2_123 = true := az_okp_ok 194 14 _ (by decide +kernel) az_ok_194_143
theorem az_ok_194_102 : az_okc 194 zX0_sizeAs2_102 = true := az_okp_ok 194 14 _ (by decide +kernel) az_ok_194_123
theorem az_ok_194_83 : az_okc 194 zX0_sizeAs2_83 = true := az_okp_ok 194 13 _ (by decide +kernel) az_ok_194_102
theorem az_ok_194_44 : az_okc 194 zX0_sizeAs2_44 = true := az_okp_ok 194 26 _ (by decide +kernel) az_ok_194_83
theorem az_ok_194_9 : az_okc 194 zX0_sizeAs2_9 = true := az_okp_ok 194 2 _ (by decide +kernel) az_ok_194_44
theorem az_ok_194_0 : az_okc 194 zX0_sizeAs2_0 = true := az_okp_ok 194 5 _ (by decide +kernel) az_ok_194_9
theorem az_ok_194 : az_okc 194 (az_cd 194) = true := az_ok_194_0
theorem az_ok_195_162 : az_okc 195 zX0_markAs3_162 = true := az_okp_ok 195 5 _ (by decide +kernel) rfl
theorem az_ok_195_150 : az_okc 195 zX0_markAs3_150 = true := az_okp_ok 195 9 _ (by decide +kernel) az_ok_195_162
theorem az_ok_195_111 : az_okc 195 zX0_markAs3_111 = true := az_okp_ok 195 26 _ (by decide +kernel) az_ok_195_150
theorem az_ok_195_89 : az_okc 195 zX0_markAs3_89 = true := az_okp_ok 195 14 _ (by decide +kernel) az_ok_195_111
theorem az_ok_195_69 : az_okc 195 zX0_markAs3_69 = true := az_okp_ok 195 14 _ (by decide +kernel) az_ok_195_89
theorem az_ok_195_44 : az_okc 195 zX0_markAs3_44 = true := az_okp_ok 195 17 _ (by decide +kernel) az_ok_195_69
theorem az_ok_195_9 : az_okc 195 zX0_markAs3_9 = true := az_okp_ok 195 2 _ (by decide +kernel) az_ok_195_44
theorem az_ok_195_0 : az_okc 195 zX0_markAs3_0 = true := az_okp_ok 195 5 _ (by decide +kernel) az_ok_195_9
theorem az_ok_195 : az_okc 195 (az_cd 195) = true := az_ok_195_0
theorem az_ok_196_155 : az_okc 196 zX0_sizeAs3_155 = true := az_okp_ok 196 8 _ (by decide +kernel) rfl
theorem az_ok_196_143 : az_okc 196 zX0_sizeAs3_143 = true := az_okp_ok 196 9 _ (by decide +kernel) az_ok_196_155
theorem az_ok_196_123 : az_okc 196 zX0_sizeAs3_123 = true := az_okp_ok 196 14 _ (by decide +kernel) az_ok_196_143
theorem az_ok_196_102 : az_okc 196 zX0_sizeAs3_102 = true := az_okp_ok 196 14 _ (by decide +kernel) az_ok_196_123
theorem az_ok_196_83 : az_okc 196 zX0_sizeAs3_83 = true := az_okp_ok 196 13 _ (by decide +kernel) az_ok_196_102
theorem az_ok_196_44 : az_okc 196 zX0_sizeAs3_44 = true := az_okp_ok 196 26 _ (by decide +kernel) az_ok_196_83
theorem az_ok_196_9 : az_okc 196 zX0_sizeAs3_9 = true := az_okp_ok 196 2 _ (by decide +kernel) az_ok_196_44
theorem az_ok_196_0 : az_okc 196 zX0_sizeAs3_0 = true := az_okp_ok 196 5 _ (by decide +kernel) az_ok_196_9
theorem az_ok_196 : az_okc 196 (az_cd 196) = true := az_ok_196_0
theorem az_ok_197_162 : az_okc 197 zX0_markAs4_162 = true := az_okp_ok 197 5 _ (by decide +kernel) rfl
theorem az_ok_197_150 : az_okc 197 zX0_markAs4_150 = true := az_okp_ok 197 9 _ (by decide +kernel) az_ok_197_162
theorem az_ok_197_111 : az_okc 197 zX0_markAs4_111 = true := az_okp_ok 197 26 _ (by decide +kernel) az_ok_197_150
theorem az_ok_197_89 : az_okc 197 zX0_markAs4_89 = true := az_okp_ok 197 14 _ (by decide +kernel) az_ok_197_111
theorem az_ok_197_69 : az_okc 197 zX0_markAs4_69 = true := az_okp_ok 197 14 _ (by decide +kernel) az_ok_197_89
theorem az_ok_197_44 : az_okc 197 zX0_markAs4_44 = true := az_okp_ok 197 17 _ (by decide +kernel) az_ok_197_69
theorem az_ok_197_9 : az_okc 197 zX0_markAs4_9 = true := az_okp_ok 197 2 _ (by decide +kernel) az_ok_197_44
theorem az_ok_197_0 : az_okc 197 zX0_markAs4_0 = true := az_okp_ok 197 5 _ (by decide +kernel) az_ok_197_9
theorem az_ok_197 : az_okc 197 (az_cd 197) = true := az_ok_197_0
theorem az_ok_198_155 : az_okc 198 zX0_sizeAs4_155 = true := az_okp_ok 198 8 _ (by decide +kernel) rfl
theorem az_ok_198_143 : az_okc 198 zX0_sizeAs4_143 = true := az_okp_ok 198 9 _ (by decide +kernel) az_ok_198_155
theorem az_ok_198_123 : az_okc 198 zX0_sizeAs4_123 = true := az_okp_ok 198 14 _ (by decide +kernel) az_ok_198_143
theorem az_ok_198_102 : az_okc 198 zX0_sizeAs4_102 = true := az_okp_ok 198 14 _ (by decide +kernel) az_ok_198_123
theorem az_ok_198_83 : az_okc 198 zX0_sizeAs4_83 = true := az_okp_ok 198 13 _ (by decide +kernel) az_ok_198_102
theorem az_ok_198_44 : az_okc 198 zX0_sizeAs4_44 = true := az_okp_ok 198 26 _ (by decide +kernel) az_ok_198_83
theorem az_ok_198_9 : az_okc 198 zX0_sizeAs4_9 = true := az_okp_ok 198 2 _ (by decide +kernel) az_ok_198_44
theorem az_ok_198_0 : az_okc 198 zX0_sizeAs4_0 = true := az_okp_ok 198 5 _ (by decide +kernel) az_ok_198_9
theorem az_ok_198 : az_okc 198 (az_cd 198) = true := az_ok_198_0
theorem az_ok_199_162 : az_okc 199 zX0_markAs5_162 = true := az_okp_ok 199 5 _ (by decide +kernel) rfl
theorem az_ok_199_150 : az_okc 199 zX0_markAs5_150 = true := az_okp_ok 199 9 _ (by decide +kernel) az_ok_199_162
theorem az_ok_199_111 : az_okc 199 zX0_markAs5_111 = true := az_okp_ok 199 26 _ (by decide +kernel) az_ok_199_150
theorem az_ok_199_89 : az_okc 199 zX0_markAs5_89 = true := az_okp_ok 199 14 _ (by decide +kernel) az_ok_199_111
theorem az_ok_199_69 : az_okc 199 zX0_markAs5_69 = true := az_okp_ok 199 14 _ (by decide +kernel) az_ok_199_89
theorem az_ok_199_44 : az_okc 199 zX0_markAs5_44 = true := az_okp_ok 199 17 _ (by decide +kernel) az_ok_199_69
theorem az_ok_199_9 : az_okc 199 zX0_markAs5_9 = true := az_okp_ok 199 2 _ (by decide +kernel) az_ok_199_44
theorem az_ok_199_0 : az_okc 199 zX0_markAs5_0 = true := az_okp_ok 199 5 _ (by decide +kernel) az_ok_199_9
theorem az_ok_199 : az_okc 199 (az_cd 199) = true := az_ok_199_0
theorem az_ok_200_155 : az_okc 200 zX0_sizeAs5_155 = true := az_okp_ok 200 8 _ (by decide +kernel) rfl
theorem az_ok_200_143 : az_okc 200 zX0_sizeAs5_143 = true := az_okp_ok 200 9 _ (by decide +kernel) az_ok_200_155
theorem az_ok_200_123 : az_okc 200 zX0_sizeAs5_123 = true := az_okp_ok 200 14 _ (by decide +kernel) az_ok_200_143
theorem az_ok_200_102 : az_okc 200 zX0_sizeAs5_102 = true := az_okp_ok 200 14 _ (by decide +kernel) az_ok_200_123
theorem az_ok_200_83 : az_okc 200 zX0_sizeAs5_83 = true := az_okp_ok 200 13 _ (by decide +kernel) az_ok_200_102
theorem az_ok_200_44 : az_okc 200 zX0_sizeAs5_44 = true := az_okp_ok 200 26 _ (by decide +kernel) az_ok_200_83
theorem az_ok_200_9 : az_okc 200 zX0_sizeAs5_9 = true := az_okp_ok 200 2 _ (by decide +kernel) az_ok_200_44
theorem az_ok_200_0 : az_okc 200 zX0_sizeAs5_0 = true := az_okp_ok 200 5 _ (by decide +kernel) az_ok_200_9
theorem az_ok_200 : az_okc 200 (az_cd 200) = true := az_ok_200_0
theorem az_ok_201_162 : az_okc 201 zX0_markAs6_162 = true := az_okp_ok 201 5 _ (by decide +kernel) rfl
theorem az_ok_201_150 : az_okc 201 zX0_markAs6_150 = true := az_okp_ok 201 9 _ (by decide +kernel) az_ok_201_162
theorem az_ok_201_111 : az_okc 201 zX0_markAs6_111 = true := az_okp_ok 201 26 _ (by decide +kernel) az_ok_201_150
theorem az_ok_201_89 : az_okc 201 zX0_markAs6_89 = true := az_okp_ok 201 14 _ (by decide +kernel) az_ok_201_111
theorem az_ok_201_69 : az_okc 201 zX0_markAs6_69 = true := az_okp_ok 201 14 _ (by decide +kernel) az_ok_201_89
theorem az_ok_201_44 : az_okc 201 zX0_markAs6_44 = true := az_okp_ok 201 17 _ (by decide +kernel) az_ok_201_69
theorem az_ok_201_9 : az_okc 201 zX0_markAs6_9 = true := az_okp_ok 201 2 _ (by decide +kernel) az_ok_201_44
theorem az_ok_201_0 : az_okc 201 zX0_markAs6_0 = true := az_okp_ok 201 5 _ (by decide +kernel) az_ok_201_9
theorem az_ok_201 : az_okc 201 (az_cd 201) = true := az_ok_201_0
theorem az_ok_202_155 : az_okc 202 zX0_sizeAs6_155 = true := az_okp_ok 202 8 _ (by decide +kernel) rfl
theorem az_ok_202_143 : az_okc 202 zX0_sizeAs6_143 = true := az_okp_ok 202 9 _ (by decide +kernel) az_ok_202_155
theorem az_ok_202_123 : az_okc 202 zX0_sizeAs6_123 = true := az_okp_ok 202 14 _ (by decide +kernel) az_ok_202_143
theorem az_ok_202_102 : az_okc 202 zX0_sizeAs6_102 = true := az_okp_ok 202 14 _ (by decide +kernel) az_ok_202_123
theorem az_ok_202_83 : az_okc 202 zX0_sizeAs6_83 = true := az_okp_ok 202 13 _ (by decide +kernel) az_ok_202_102
theorem az_ok_202_44 : az_okc 202 zX0_sizeAs6_44 = true := az_okp_ok 202 26 _ (by decide +kernel) az_ok_202_83
theorem az_ok_202_9 : az_okc 202 zX0_sizeAs6_9 = true := az_okp_ok 202 2 _ (by decide +kernel) az_ok_202_44
theorem az_ok_202_0 : az_okc 202 zX0_sizeAs6_0 = true := az_okp_ok 202 5 _ (by decide +kernel) az_ok_202_9
theorem az_ok_202 : az_okc 202 (az_cd 202) = true := az_ok_202_0
theorem az_ok_203 : az_okc 203 (az_cd 203) = true := by decide +kernel
theorem az_ok_204 : az_okc 204 (az_cd 204) = true := by decide +kernel
theorem az_ok_205 : az_okc 205 (az_cd 205) = true := by decide +kernel
theorem az_ok_206 : az_okc 206 (az_cd 206) = true := by decide +kernel
theorem az_ok_207 : az_okc 207 (az_cd 207) = true := by decide +kernel
theorem az_ok_208_111 : az_okc 208 zX8_ask_111 = true := az_okp_ok 208 9 _ (by decide +kernel) rfl
theorem az_ok_208_101 : az_okc 208 zX8_ask_101 = true := az_okp_ok 208 6 _ (by decide +kernel) az_ok_208_111
theorem az_ok_208_100 : az_okc 208 zX8_ask_100 = true := az_okp_ok 208 1 _ (by decide +kernel) az_ok_208_101
theorem az_ok_208_98 : az_okc 208 zX8_ask_98 = true := az_okp_ok 208 1 _ (by decide +kernel) az_ok_208_100
theorem az_ok_208_67 : az_okc 208 zX8_ask_67 = true := az_okp_ok 208 18 _ (by decide +kernel) az_ok_208_98
theorem az_ok_208_64 : az_okc 208 zX8_ask_64 = true := az_okp_ok 208 1 _ (by decide +kernel) az_ok_208_67
theorem az_ok_208_52 : az_okc 208 zX8_ask_52 = true := az_okp_ok 208 6 _ (by decide +kernel) az_ok_208_64
theorem az_ok_208_21 : az_okc 208 zX8_ask_21 = true := az_okp_ok 208 20 _ (by decide +kernel) az_ok_208_52
theorem az_ok_208_18 : az_okc 208 zX8_ask_18 = true := az_okp_ok 208 2 _ (by decide +kernel) az_ok_208_21
theorem az_ok_208_0 : az_okc 208 zX8_ask_0 = true := az_okp_ok 208 10 _ (by decide +kernel) az_ok_208_18
theorem az_ok_208 : az_okc 208 (az_cd 208) = true := az_ok_208_0
theorem az_ok_209 : az_okc 209 (az_cd 209) = true := by decide +kernel
theorem az_ok_210 : az_okc 210 (az_cd 210) = true := by decide +kernel
theorem az_ok_211 : az_okc 211 (az_cd 211) = true := by decide +kernel
theorem az_ok_212 : az_okc 212 (az_cd 212) = true := by decide +kernel
theorem az_ok_213 : az_okc 213 (az_cd 213) = true := by decide +kernel
theorem az_ok_214 : az_okc 214 (az_cd 214) = true := by decide +kernel
theorem az_ok_215_178 : az_okc 215 zX8_count_178 = true := az_okp_ok 215 2 _ (by decide +kernel) rfl
theorem az_ok_215_173 : az_okc 215 zX8_count_173 = true := az_okp_ok 215 3 _ (by decide +kernel) az_ok_215_178
theorem az_ok_215_170 : az_okc 215 zX8_count_170 = true := az_okp_ok 215 2 _ (by decide +kernel) az_ok_215_173
theorem az_ok_215_168 : az_okc 215 zX8_count_168 = true := az_okp_ok 215 2 _ (by decide +kernel) az_ok_215_170
theorem az_ok_215_163 : az_okc 215 zX8_count_163 = true := az_okp_ok 215 3 _ (by decide +kernel) az_ok_215_168
theorem az_ok_215_156 : az_okc 215 zX8_count_156 = true := az_okp_ok 215 5 _ (by decide +kernel) az_ok_215_163
theorem az_ok_215_149 : az_okc 215 zX8_count_149 = true := az_okp_ok 215 5 _ (by decide +kernel) az_ok_215_156
theorem az_ok_215_142 : az_okc 215 zX8_count_142 = true := az_okp_ok 215 5 _ (by decide +kernel) az_ok_215_149
theorem az_ok_215_140 : az_okc 215 zX8_count_140 = true := az_okp_ok 215 2 _ (by decide +kernel) az_ok_215_142
theorem az_ok_215_91 : az_okc 215 zX8_count_91 = true := az_okp_ok 215 2 _ (by decide +kernel) az_ok_215_140
theorem az_ok_215_44 : az_okc 215 zX8_count_44 = true := az_okp_ok 215 28 _ (by decide +kernel) az_ok_215_91
theorem az_ok_215_41 : az_okc 215 zX8_count_41 = true := az_okp_ok 215 2 _ (by decide +kernel) az_ok_215_44
theorem az_ok_215_33 : az_okc 215 zX8_count_33 = true := az_okp_ok 215 4 _ (by decide +kernel) az_ok_215_41
theorem az_ok_215_32 : az_okc 215 zX8_count_32 = true := az_okp_ok 215 1 _ (by decide +kernel) az_ok_215_33
theorem az_ok_215_10 : az_okc 215 zX8_count_10 = true := az_okp_ok 215 11 _ (by decide +kernel) az_ok_215_32
theorem az_ok_215_0 : az_okc 215 zX8_count_0 = true := az_okp_ok 215 8 _ (by decide +kernel) az_ok_215_10
theorem az_ok_215 : az_okc 215 (az_cd 215) = true := az_ok_215_0
theorem az_ok_216 : az_okc 216 (az_cd 216) = true := by decide +kernel
theorem az_ok_217 : az_okc 217 (az_cd 217) = true := by decide +kernel
theorem az_ok_218_1212 : az_okc 218 zL_law_1212 = true := az_okp_ok 218 2 _ (by decide +kernel) rfl
theorem az_ok_218_1206 : az_okc 218 zL_law_1206 = true := az_okp_ok 218 2 _ (by decide +kernel) az_ok_218_1212
theorem az_ok_218_1193 : az_okc 218 zL_law_1193 = true := az_okp_ok 218 7 _ (by decide +kernel) az_ok_218_1206
theorem az_ok_218_1170 : az_okc 218 zL_law_1170 = true := az_okp_ok 218 17 _ (by decide +kernel) az_ok_218_1193
theorem az_ok_218_1147 : az_okc 218 zL_law_1147 = true := az_okp_ok 218 17 _ (by decide +kernel) az_ok_218_1170
theorem az_ok_218_1114 : az_okc 218 zL_law_1114 = true := az_okp_ok 218 27 _ (by decide +kernel) az_ok_218_1147
theorem az_ok_218_1081 : az_okc 218 zL_law_1081 = true := az_okp_ok 218 27 _ (by decide +kernel) az_ok_218_1114
theorem az_ok_218_1058 : az_okc 218 zL_law_1058 = true := az_okp_ok 218 17 _ (by decide +kernel) az_ok_218_1081
theorem az_ok_218_1035 : az_okc 218 zL_law_1035 = true := az_okp_ok 218 17 _ (by decide +kernel) az_ok_218_1058
theorem az_ok_218_1012 : az_okc 218 zL_law_1012 = true := az_okp_ok 218 17 _ (by decide +kernel) az_ok_218_1035
theorem az_ok_218_979 : az_okc 218 zL_law_979 = true := az_okp_ok 218 27 _ (by decide +kernel) az_ok_218_1012
theorem az_ok_218_946 : az_okc 218 zL_law_946 = true := az_okp_ok 218 27 _ (by decide +kernel) az_ok_218_979
theorem az_ok_218_913 : az_okc 218 zL_law_913 = true := az_okp_ok 218 27 _ (by decide +kernel) az_ok_218_946
theorem az_ok_218_880 : az_okc 218 zL_law_880 = true := az_okp_ok 218 27 _ (by decide +kernel) az_ok_218_913
theorem az_ok_218_837 : az_okc 218 zL_law_837 = true := az_okp_ok 218 37 _ (by decide +kernel) az_ok_218_880
theorem az_ok_218_784 : az_okc 218 zL_law_784 = true := az_okp_ok 218 47 _ (by decide +kernel) az_ok_218_837
theorem az_ok_218_761 : az_okc 218 zL_law_761 = true := az_okp_ok 218 17 _ (by decide +kernel) az_ok_218_784
theorem az_ok_218_728 : az_okc 218 zL_law_728 = true := az_okp_ok 218 27 _ (by decide +kernel) az_ok_218_761
theorem az_ok_218_695 : az_okc 218 zL_law_695 = true := az_okp_ok 218 27 _ (by decide +kernel) az_ok_218_728
theorem az_ok_218_652 : az_okc 218 zL_law_652 = true := az_okp_ok 218 37 _ (by decide +kernel) az_ok_218_695
theorem az_ok_218_629 : az_okc 218 zL_law_629 = true := az_okp_ok 218 17 _ (by decide +kernel) az_ok_218_652
theorem az_ok_218_596 : az_okc 218 zL_law_596 = true := az_okp_ok 218 27 _ (by decide +kernel) az_ok_218_629
theorem az_ok_218_583 : az_okc 218 zL_law_583 = true := az_okp_ok 218 7 _ (by decide +kernel) az_ok_218_596
theorem az_ok_218_570 : az_okc 218 zL_law_570 = true := az_okp_ok 218 7 _ (by decide +kernel) az_ok_218_583
theorem az_ok_218_537 : az_okc 218 zL_law_537 = true := az_okp_ok 218 27 _ (by decide +kernel) az_ok_218_570
theorem az_ok_218_504 : az_okc 218 zL_law_504 = true := az_okp_ok 218 27 _ (by decide +kernel) az_ok_218_537
theorem az_ok_218_481 : az_okc 218 zL_law_481 = true := az_okp_ok 218 17 _ (by decide +kernel) az_ok_218_504
theorem az_ok_218_458 : az_okc 218 zL_law_458 = true := az_okp_ok 218 17 _ (by decide +kernel) az_ok_218_481
theorem az_ok_218_445 : az_okc 218 zL_law_445 = true := az_okp_ok 218 7 _ (by decide +kernel) az_ok_218_458
theorem az_ok_218_432 : az_okc 218 zL_law_432 = true := az_okp_ok 218 7 _ (by decide +kernel) az_ok_218_445
theorem az_ok_218_419 : az_okc 218 zL_law_419 = true := az_okp_ok 218 7 _ (by decide +kernel) az_ok_218_432
theorem az_ok_218_356 : az_okc 218 zL_law_356 = true := az_okp_ok 218 51 _ (by decide +kernel) az_ok_218_419
theorem az_ok_218_333 : az_okc 218 zL_law_333 = true := az_okp_ok 218 17 _ (by decide +kernel) az_ok_218_356
theorem az_ok_218_270 : az_okc 218 zL_law_270 = true := az_okp_ok 218 57 _ (by decide +kernel) az_ok_218_333
theorem az_ok_218_227 : az_okc 218 zL_law_227 = true := az_okp_ok 218 37 _ (by decide +kernel) az_ok_218_270
theorem az_ok_218_184 : az_okc 218 zL_law_184 = true := az_okp_ok 218 37 _ (by decide +kernel) az_ok_218_227
theorem az_ok_218_18 : az_okc 218 zL_law_18 = true := az_okp_ok 218 12 _ (by decide +kernel) az_ok_218_184
theorem az_ok_218_0 : az_okc 218 zL_law_0 = true := az_okp_ok 218 10 _ (by decide +kernel) az_ok_218_18
theorem az_ok_218 : az_okc 218 (az_cd 218) = true := az_ok_218_0
theorem az_oks : ∀ M, az_okc M (az_cd M) = true
  | 0 => az_ok_0
  | 1 => az_ok_1
  | 2 => az_ok_2
  | 3 => az_ok_3
  | 4 => az_ok_4
  | 5 => az_ok_5
  | 6 => az_ok_6
  | 7 => az_ok_7
  | 8 => az_ok_8
  | 9 => az_ok_9
  | 10 => az_ok_10
  | 11 => az_ok_11
  | 12 => az_ok_12
  | 13 => az_ok_13
  | 14 => az_ok_14
  | 15 => az_ok_15
  | 16 => az_ok_16
  | 17 => az_ok_17
  | 18 => az_ok_18
  | 19 => az_ok_19
  | 20 => az_ok_20
  | 21 => az_ok_21
  | 22 => az_ok_22
  | 23 => az_ok_23
  | 24 => az_ok_24
  | 25 => az_ok_25
  | 26 => az_ok_26
  | 27 => az_ok_27
  | 28 => az_ok_28
  | 29 => az_ok_29
  | 30 => az_ok_30
  | 31 => az_ok_31
  | 32 => az_ok_32
  | 33 => az_ok_33
  | 34 => az_ok_34
  | 35 => az_ok_35
  | 36 => az_ok_36
  | 37 => az_ok_37
  | 38 => az_ok_38
  | 39 => az_ok_39
  | 40 => az_ok_40
  | 41 => az_ok_41
  | 42 => az_ok_42
  | 43 => az_ok_43
  | 44 => az_ok_44
  | 45 => az_ok_45
  | 46 => az_ok_46
  | 47 => az_ok_47
  | 48 => az_ok_48
  | 49 => az_ok_49
  | 50 => az_ok_50
  | 51 => az_ok_51
  | 52 => az_ok_52
  | 53 => az_ok_53
  | 54 => az_ok_54
  | 55 => az_ok_55
  | 56 => az_ok_56
  | 57 => az_ok_57
  | 58 => az_ok_58
  | 59 => az_ok_59
  | 60 => az_ok_60
  | 61 => az_ok_61
  | 62 => az_ok_62
  | 63 => az_ok_63
  | 64 => az_ok_64
  | 65 => az_ok_65
  | 66 => az_ok_66
  | 67 => az_ok_67
  | 68 => az_ok_68
  | 69 => az_ok_69
  | 70 => az_ok_70
  | 71 => az_ok_71
  | 72 => az_ok_72
  | 73 => az_ok_73
  | 74 => az_ok_74
  | 75 => az_ok_75
  | 76 => az_ok_76
  | 77 => az_ok_77
  | 78 => az_ok_78
  | 79 => az_ok_79
  | 80 => az_ok_80
  | 81 => az_ok_81
  | 82 => az_ok_82
  | 83 => az_ok_83
  | 84 => az_ok_84
  | 85 => az_ok_85
  | 86 => az_ok_86
  | 87 => az_ok_87
  | 88 => az_ok_88
  | 89 => az_ok_89
  | 90 => az_ok_90
  | 91 => az_ok_91
  | 92 => az_ok_92
  | 93 => az_ok_93
  | 94 => az_ok_94
  | 95 => az_ok_95
  | 96 => az_ok_96
  | 97 => az_ok_97
  | 98 => az_ok_98
  | 99 => az_ok_99
  | 100 => az_ok_100
  | 101 => az_ok_101
  | 102 => az_ok_102
  | 103 => az_ok_103
  | 104 => az_ok_104
  | 105 => az_ok_105
  | 106 => az_ok_106
  | 107 => az_ok_107
  | 108 => az_ok_108
  | 109 => az_ok_109
  | 110 => az_ok_110
  | 111 => az_ok_111
  | 112 => az_ok_112
  | 113 => az_ok_113
  | 114 => az_ok_114
  | 115 => az_ok_115
  | 116 => az_ok_116
  | 117 => az_ok_117
  | 118 => az_ok_118
  | 119 => az_ok_119
  | 120 => az_ok_120
  | 121 => az_ok_121
  | 122 => az_ok_122
  | 123 => az_ok_123
  | 124 => az_ok_124
  | 125 => az_ok_125
  | 126 => az_ok_126
  | 127 => az_ok_127
  | 128 => az_ok_128
  | 129 => az_ok_129
  | 130 => az_ok_130
  | 131 => az_ok_131
  | 132 => az_ok_132
  | 133 => az_ok_133
  | 134 => az_ok_134
  | 135 => az_ok_135
  | 136 => az_ok_136
  | 137 => az_ok_137
  | 138 => az_ok_138
  | 139 => az_ok_139
  | 140 => az_ok_140
  | 141 => az_ok_141
  | 142 => az_ok_142
  | 143 => az_ok_143
  | 144 => az_ok_144
  | 145 => az_ok_145
  | 146 => az_ok_146
  | 147 => az_ok_147
  | 148 => az_ok_148
  | 149 => az_ok_149
  | 150 => az_ok_150
  | 151 => az_ok_151
  | 152 => az_ok_152
  | 153 => az_ok_153
  | 154 => az_ok_154
  | 155 => az_ok_155
  | 156 => az_ok_156
  | 157 => az_ok_157
  | 158 => az_ok_158
  | 159 => az_ok_159
  | 160 => az_ok_160
  | 161 => az_ok_161
  | 162 => az_ok_162
  | 163 => az_ok_163
  | 164 => az_ok_164
  | 165 => az_ok_165
  | 166 => az_ok_166
  | 167 => az_ok_167
  | 168 => az_ok_168
  | 169 => az_ok_169
  | 170 => az_ok_170
  | 171 => az_ok_171
  | 172 => az_ok_172
  | 173 => az_ok_173
  | 174 => az_ok_174
  | 175 => az_ok_175
  | 176 => az_ok_176
  | 177 => az_ok_177
  | 178 => az_ok_178
  | 179 => az_ok_179
  | 180 => az_ok_180
  | 181 => az_ok_181
  | 182 => az_ok_182
  | 183 => az_ok_183
  | 184 => az_ok_184
  | 185 => az_ok_185
  | 186 => az_ok_186
  | 187 => az_ok_187
  | 188 => az_ok_188
  | 189 => az_ok_189
  | 190 => az_ok_190
  | 191 => az_ok_191
  | 192 => az_ok_192
  | 193 => az_ok_193
  | 194 => az_ok_194
  | 195 => az_ok_195
  | 196 => az_ok_196
  | 197 => az_ok_197
  | 198 => az_ok_198
  | 199 => az_ok_199
  | 200 => az_ok_200
  | 201 => az_ok_201
  | 202 => az_ok_202
  | 203 => az_ok_203
  | 204 => az_ok_204
  | 205 => az_ok_205
  | 206 => az_ok_206
  | 207 => az_ok_207
  | 208 => az_ok_208
  | 209 => az_ok_209
  | 210 => az_ok_210
  | 211 => az_ok_211
  | 212 => az_ok_212
  | 213 => az_ok_213
  | 214 => az_ok_214
  | 215 => az_ok_215
  | 216 => az_ok_216
  | 217 => az_ok_217
  | 218 => az_ok_218
  | _ + 219 => rfl
theorem az_cws : ∀ M, M < 218 → az_cw M
  | 0, _ => az_cw_0
  | 1, _ => az_cw_1
  | 2, _ => az_cw_2
  | 3, _ => az_cw_3
  | 4, _ => az_cw_4
  | 5, _ => az_cw_5
  | 6, _ => az_cw_6
  | 7, _ => az_cw_7
  | 8, _ => az_cw_8
  | 9, _ => az_cw_9
  | 10, _ => az_cw_10
  | 11, _ => az_cw_11
  | 12, _ => az_cw_12
  | 13, _ => az_cw_13
  | 14, _ => az_cw_14
  | 15, _ => az_cw_15
  | 16, _ => az_cw_16
  | 17, _ => az_cw_17
  | 18, _ => az_cw_18
  | 19, _ => az_cw_19
  | 20, _ => az_cw_20
  | 21, _ => az_cw_21
  | 22, _ => az_cw_22
  | 23, _ => az_cw_23
  | 24, _ => az_cw_24
  | 25, _ => az_cw_25
  | 26, _ => az_cw_26
  | 27, _ => az_cw_27
  | 28, _ => az_cw_28
  | 29, _ => az_cw_29
  | 30, _ => az_cw_30
  | 31, _ => az_cw_31
  | 32, _ => az_cw_32
  | 33, _ => az_cw_33
  | 34, _ => az_cw_34
  | 35, _ => az_cw_35
  | 36, _ => az_cw_36
  | 37, _ => az_cw_37
  | 38, _ => az_cw_38
  | 39, _ => az_cw_39
  | 40, _ => az_cw_40
  | 41, _ => az_cw_41
  | 42, _ => az_cw_42
  | 43, _ => az_cw_43
  | 44, _ => az_cw_44
  | 45, _ => az_cw_45
  | 46, _ => az_cw_46
  | 47, _ => az_cw_47
  | 48, _ => az_cw_48
  | 49, _ => az_cw_49
  | 50, _ => az_cw_50
  | 51, _ => az_cw_51
  | 52, _ => az_cw_52
  | 53, _ => az_cw_53
  | 54, _ => az_cw_54
  | 55, _ => az_cw_55
  | 56, _ => az_cw_56
  | 57, _ => az_cw_57
  | 58, _ => az_cw_58
  | 59, _ => az_cw_59
  | 60, _ => az_cw_60
  | 61, _ => az_cw_61
  | 62, _ => az_cw_62
  | 63, _ => az_cw_63
  | 64, _ => az_cw_64
  | 65, _ => az_cw_65
  | 66, _ => az_cw_66
  | 67, _ => az_cw_67
  | 68, _ => az_cw_68
  | 69, _ => az_cw_69
  | 70, _ => az_cw_70
  | 71, _ => az_cw_71
  | 72, _ => az_cw_72
  | 73, _ => az_cw_73
  | 74, _ => az_cw_74
  | 75, _ => az_cw_75
  | 76, _ => az_cw_76
  | 77, _ => az_cw_77
  | 78, _ => az_cw_78
  | 79, _ => az_cw_79
  | 80, _ => az_cw_80
  | 81, _ => az_cw_81
  | 82, _ => az_cw_82
  | 83, _ => az_cw_83
  | 84, _ => az_cw_84
  | 85, _ => az_cw_85
  | 86, _ => az_cw_86
  | 87, _ => az_cw_87
  | 88, _ => az_cw_88
  | 89, _ => az_cw_89
  | 90, _ => az_cw_90
  | 91, _ => az_cw_91
  | 92, _ => az_cw_92
  | 93, _ => az_cw_93
  | 94, _ => az_cw_94
  | 95, _ => az_cw_95
  | 96, _ => az_cw_96
  | 97, _ => az_cw_97
  | 98, _ => az_cw_98
  | 99, _ => az_cw_99
  | 100, _ => az_cw_100
  | 101, _ => az_cw_101
  | 102, _ => az_cw_102
  | 103, _ => az_cw_103
  | 104, _ => az_cw_104
  | 105, _ => az_cw_105
  | 106, _ => az_cw_106
  | 107, _ => az_cw_107
  | 108, _ => az_cw_108
  | 109, _ => az_cw_109
  | 110, _ => az_cw_110
  | 111, _ => az_cw_111
  | 112, _ => az_cw_112
  | 113, _ => az_cw_113
  | 114, _ => az_cw_114
  | 115, _ => az_cw_115
  | 116, _ => az_cw_116
  | 117, _ => az_cw_117
  | 118, _ => az_cw_118
  | 119, _ => az_cw_119
  | 120, _ => az_cw_120
  | 121, _ => az_cw_121
  | 122, _ => az_cw_122
  | 123, _ => az_cw_123
  | 124, _ => az_cw_124
  | 125, _ => az_cw_125
  | 126, _ => az_cw_126
  | 127, _ => az_cw_127
  | 128, _ => az_cw_128
  | 129, _ => az_cw_129
  | 130, _ => az_cw_130
  | 131, _ => az_cw_131
  | 132, _ => az_cw_132
  | 133, _ => az_cw_133
  | 134, _ => az_cw_134
  | 135, _ => az_cw_135
  | 136, _ => az_cw_136
  | 137, _ => az_cw_137
  | 138, _ => az_cw_138
  | 139, _ => az_cw_139
  | 140, _ => az_cw_140
  | 141, _ => az_cw_141
  | 142, _ => az_cw_142
  | 143, _ => az_cw_143
  | 144, _ => az_cw_144
  | 145, _ => az_cw_145
  | 146, _ => az_cw_146
  | 147, _ => az_cw_147
  | 148, _ => az_cw_148
  | 149, _ => az_cw_149
  | 150, _ => az_cw_150
  | 151, _ => az_cw_151
  | 152, _ => az_cw_152
  | 153, _ => az_cw_153
  | 154, _ => az_cw_154
  | 155, _ => az_cw_155
  | 156, _ => az_cw_156
  | 157, _ => az_cw_157
  | 158, _ => az_cw_158
  | 159, _ => az_cw_159
  | 160, _ => az_cw_160
  | 161, _ => az_cw_161
  | 162, _ => az_cw_162
  | 163, _ => az_cw_163
  | 164, _ => az_cw_164
  | 165, _ => az_cw_165
  | 166, _ => az_cw_166
  | 167, _ => az_cw_167
  | 168, _ => az_cw_168
  | 169, _ => az_cw_169
  | 170, _ => az_cw_170
  | 171, _ => az_cw_171
  | 172, _ => az_cw_172
  | 173, _ => az_cw_173
  | 174, _ => az_cw_174
  | 175, _ => az_cw_175
  | 176, _ => az_cw_176
  | 177, _ => az_cw_177
  | 178, _ => az_cw_178
  | 179, _ => az_cw_179
  | 180, _ => az_cw_180
  | 181, _ => az_cw_181
  | 182, _ => az_cw_182
  | 183, _ => az_cw_183
  | 184, _ => az_cw_184
  | 185, _ => az_cw_185
  | 186, _ => az_cw_186
  | 187, _ => az_cw_187
  | 188, _ => az_cw_188
  | 189, _ => az_cw_189
  | 190, _ => az_cw_190
  | 191, _ => az_cw_191
  | 192, _ => az_cw_192
  | 193, _ => az_cw_193
  | 194, _ => az_cw_194
  | 195, _ => az_cw_195
  | 196, _ => az_cw_196
  | 197, _ => az_cw_197
  | 198, _ => az_cw_198
  | 199, _ => az_cw_199
  | 200, _ => az_cw_200
  | 201, _ => az_cw_201
  | 202, _ => az_cw_202
  | 203, _ => az_cw_203
  | 204, _ => az_cw_204
  | 205, _ => az_cw_205
  | 206, _ => az_cw_206
  | 207, _ => az_cw_207
  | 208, _ => az_cw_208
  | 209, _ => az_cw_209
  | 210, _ => az_cw_210
  | 211, _ => az_cw_211
  | 212, _ => az_cw_212
  | 213, _ => az_cw_213
  | 214, _ => az_cw_214
  | 215, _ => az_cw_215
  | 216, _ => az_cw_216
  | 217, _ => az_cw_217
  | _ + 218, h => absurd h (by omega)
end
section
/-! WHAT THE MACHINE'S STATE HAS TO DO WITH THE INTERPRETER'S -/
/-- a world: the address of the first new cell; the addresses of the cells ahead; the opaque reference; the classes -/
abbrev aW : Type := Nat × (Nat → Nat) × Value × va_G
def az_ad (w : aW) (a : Nat) : Nat := if a < 19 then w.2.1 a else w.1 + (a - 19)
def az_rf (w : aW) (r : Nat) : Value := if r = 0 then .null else if r = 2 then w.2.2.1 else .ref (az_ad w (r - 1))
def az_rv (w : aW) (v : aV) (x : Value) : Prop := match v with
  | .inl i => ∃ z : Int32, x = .int z ∧ z.toInt = i
  | .inr (.inl j) => ∃ z : Int64, x = .long z ∧ z.toInt = j
  | .inr (.inr r) => x = az_rf w r
def az_SR (w : aW) : List Value → aS → Prop
  | [], [] => True
  | x :: xs, v :: vs => az_rv w v x ∧ az_SR w xs vs
  | _, _ => False
def az_LR (w : aW) (ls : Array Slot) (n : Nat) (l : aL) : Prop := ls.size = n ∧ lv_wf ls ∧ l.length = n ∧ ∀ (i : Nat) (v : aV), l[i]? = some (some v) → ∃ x, ls[i]? = some (.val x) ∧ az_rv w v x
def az_fv (w : aW) (tc : Nat) (z : Int) (r : Nat) (x : Value) : Prop := if tc = 1 then (∃ y : Int64, x = .long y ∧ y.toInt = z) else if tc = 2 then x = az_rf w r else (∃ y : Int32, x = .int y ∧ y.toInt = z)
def az_ty (t : Nat) : FieldType := if t = 20 then .int else if t = 21 then .byte else if t = 22 then .boolean else if t = 23 then .object "LastSun$Row" else .object "LastSun$Beach"
def az_RC (w : aW) (s : State) (H : Heap) (m : aM) (a t n : Nat) (rs : List Nat) : Prop :=
  (t < 9 ∧ rs.length = az_N t ∧ n = az_N t ∧ ∃ fs : List Value, fs.length = az_N t ∧ t_OB (az_ad w a) (w.2.2.2.1 t) (az_N t) (w.2.2.2.2 t) H (vp_V fs) ∧ ∀ k, k < az_N t → az_fv w (az_tc t k) (m a k) (rs.getD k 0) (vp_V fs k)) ∨
  (20 ≤ t ∧ t ≤ 24 ∧ n ≤ 2000 ∧ (23 ≤ t → rs.length = n) ∧ ∃ (cA : ClassId) (f : Nat → Value), H[az_ad w a]? = some (arrV cA n f) ∧ ArrOfT s cA (az_ty t) ∧ va_RA s cA (az_ty t) ∧ (t < 23 → ∀ j : Nat, j < n → ∃ y : Int32, f j = .int y ∧ y.toInt = m a j) ∧ (23 ≤ t → ∀ j : Nat, j < n → f j = az_rf w (rs.getD j 0)))
def az_A (w : aW) : Nat → Prop := fun q => w.1 ≤ q
def az_byt : List (List Int32) := [[108, 97, 119], [115, 117, 110], [103, 117, 101, 115, 116], [108, 111, 110, 101], [97, 117, 110, 116], [99, 104, 105, 108, 100], [98, 97, 110, 100], [99, 108, 97, 110]]
def az_Tb (w : aW) (s : State) (H : Heap) : Prop :=
  va_T .int (w.2.1 2) 6 (fun j => .int (Int32.ofInt (az_abv.getD j 0))) (az_A w) s H ∧
  va_Z "LastSun$Asks" "ABOVE" "[I" (.ref (w.2.1 2)) (az_A w) s H ∧
  va_Z "java/lang/String" "COMPACT_STRINGS" "Z" (.int 1) (az_A w) s H ∧
  va_Z "jdk/internal/util/Preconditions" "SIOOBE_FORMATTER" "Ljava/util/function/BiFunction;" w.2.2.1 (az_A w) s H ∧
  vk_S 8 [3, 3, 5, 4, 4, 5, 4, 4] az_byt (fun i => w.2.1 (3 + i)) (fun i => w.2.1 (11 + i)) (az_A w) s H
def az_Xs (w : aW) (sc : aX) (s : State) (H : Heap) : Prop := ∀ (L : Nat) (xs : Int → Int), sc = some (L, xs) → ∃ x32 : Nat → Int32, va_X (w.2.1 0) L x32 s H ∧ (∀ j : Nat, j < L → (x32 j).toInt = xs j) ∧ w.2.1 0 < w.1 ∧ L < 2 ^ 31
def az_Rh (w : aW) (sc : aX) (s : State) (H : Heap) (g : aG) (m : aM) : Prop :=
  va_K w.2.2.2 az_cls [] s ∧ az_Tb w s H ∧ az_Xs w sc s H ∧ 19 ≤ g.length ∧ H.size = w.1 + (g.length - 19) ∧ (∀ a, a < 19 → g[a]? = az_g0[a]? ∧ ∀ j, m a j = az_m0 a j) ∧ ∀ (a t n : Nat) (rs : List Nat), 19 ≤ a → g[a]? = some (t, n, rs) → az_RC w s H m a t n rs
def az_Tt (w : aW) (s : State) : Prop := (∀ q ∈ az_nests, va_Nw (.methodLinkNest q.1 q.2.1 q.2.2 "LastSun") s) ∧ (∀ (i : Nat) (q : Nat × String), az_six[i]? = some q → vk_R "LastSun$Tape" q.1 q.2 (w.2.1 (3 + i)) s) ∧ va_AO "LastSun$Row" s ∧ va_AO "LastSun$Beach" s
def az_wok (w : aW) : Prop := w.2.2.1 = .null ∨ ∃ t, w.2.2.1 = .ref t
theorem az_ad_hi {w : aW} {a : Nat} (h : 19 ≤ a) : az_ad w a = w.1 + (a - 19) := by simp [az_ad, Nat.not_lt.mpr h]
theorem az_ad_lo {w : aW} {a : Nat} (h : a < 19) : az_ad w a = w.2.1 a := by simp [az_ad, h]
theorem az_ad_inj {w : aW} {a b : Nat} (ha : 19 ≤ a) (hb : 19 ≤ b) (h : az_ad w a = az_ad w b) : a = b := by
  rw [az_ad_hi ha, az_ad_hi hb] at h
  omega
theorem az_rf_s {w : aW} {a : Nat} (h : a ≠ 1) : az_rf w (a + 1) = .ref (az_ad w a) := by
  have h2 : a + 1 ≠ 2 := by omega
  simp [az_rf, h]
theorem az_rf_cat {w : aW} (hw : az_wok w) (r : Nat) : (az_rf w r).category = 1 := by
  unfold az_rf
  split
  · rfl
  · split
    · rcases hw with h | ⟨t, h⟩ <;> rw [h] <;> rfl
    · rfl
theorem az_SR_I {w : aW} {st : List Value} {x : Int} {s : aS} (h : az_SR w st (.inl x :: s)) : ∃ (z : Int32) (st' : List Value), st = .int z :: st' ∧ z.toInt = x ∧ az_SR w st' s := by
  cases st with
  | nil => exact h.elim
  | cons a st' =>
    obtain ⟨⟨z, h1, h2⟩, h3⟩ := h
    exact ⟨z, st', by rw [h1], h2, h3⟩
theorem az_SR_L {w : aW} {st : List Value} {x : Int} {s : aS} (h : az_SR w st (.inr (.inl x) :: s)) : ∃ (z : Int64) (st' : List Value), st = .long z :: st' ∧ z.toInt = x ∧ az_SR w st' s := by
  cases st with
  | nil => exact h.elim
  | cons a st' =>
    obtain ⟨⟨z, h1, h2⟩, h3⟩ := h
    exact ⟨z, st', by rw [h1], h2, h3⟩
theorem az_SR_R {w : aW} {st : List Value} {r : Nat} {s : aS} (h : az_SR w st (.inr (.inr r) :: s)) : ∃ st' : List Value, st = az_rf w r :: st' ∧ az_SR w st' s := by
  cases st with
  | nil => exact h.elim
  | cons a st' =>
    obtain ⟨h1, h3⟩ := h
    exact ⟨st', by rw [show a = az_rf w r from h1], h3⟩
theorem az_SR_i {w : aW} {st : List Value} {s : aS} (z : Int32) (h : az_SR w st s) : az_SR w (.int z :: st) (.inl z.toInt :: s) := ⟨⟨z, rfl, rfl⟩, h⟩
theorem az_SR_l {w : aW} {st : List Value} {s : aS} (z : Int64) (h : az_SR w st s) : az_SR w (.long z :: st) (.inr (.inl z.toInt) :: s) := ⟨⟨z, rfl, rfl⟩, h⟩
theorem az_SR_r {w : aW} {st : List Value} {s : aS} (r : Nat) (h : az_SR w st s) : az_SR w (az_rf w r :: st) (.inr (.inr r) :: s) := ⟨rfl, h⟩
theorem az_SR_len {w : aW} : ∀ {st : List Value} {s : aS}, az_SR w st s → st.length = s.length
  | [], [], _ => rfl
  | _ :: _, [], h => h.elim
  | [], _ :: _, h => h.elim
  | _ :: st, _ :: s, h => by simp [az_SR_len h.2]
def az_cat : aV → Nat
  | .inr (.inl _) => 2
  | _ => 1
theorem az_rv_cat {w : aW} (hw : az_wok w) {v : aV} {x : Value} (h : az_rv w v x) : x.category = az_cat v := by
  rcases v with i | j | r
  · obtain ⟨z, h, -⟩ := h
    rw [h]; rfl
  · obtain ⟨z, h, -⟩ := h
    rw [h]; rfl
  · rw [show x = az_rf w r from h]
    exact az_rf_cat hw r
theorem az_rv_le {w : aW} (hw : az_wok w) {v : aV} {x : Value} (h : az_rv w v x) : x.category ≤ 2 := by
  rw [az_rv_cat hw h]
  rcases v with i | j | r <;> simp [az_cat]
theorem az_SR_words {w : aW} (hw : az_wok w) : ∀ {st : List Value} {s : aS}, az_SR w st s → (st.map fun v => v.category).sum ≤ 2 * s.length
  | [], [], _ => by simp
  | _ :: _, [], h => h.elim
  | [], _ :: _, h => h.elim
  | x :: st, v :: s, h => by
    have h1 := az_SR_words hw h.2
    have h2 := az_rv_le hw h.1
    simp only [List.map_cons, List.sum_cons, List.length_cons]
    omega
/-- all that the locals hold, as the kit lists it -/
def az_lv (ls : Array Slot) : List (Nat × Value) := (List.range ls.size).filterMap fun i => match (ls[i]? : Option Slot) with
  | some (Slot.val x) => some (i, x)
  | _ => none
theorem az_lv_mem {ls : Array Slot} {i : Nat} {x : Value} (h : ls[i]? = some (.val x)) : (i, x) ∈ az_lv ls := by
  refine List.mem_filterMap.mpr ⟨i, List.mem_range.mpr (Array.getElem?_eq_some_iff.mp h).1, ?_⟩
  rw [h]
theorem az_lv_of {ls : Array Slot} {q : Nat × Value} (h : q ∈ az_lv ls) : ls[q.1]? = some (.val q.2) := by
  obtain ⟨i, -, h2⟩ := List.mem_filterMap.mp h
  cases hi : ls[i]? with
  | none => rw [hi] at h2; cases h2
  | some v =>
    rw [hi] at h2
    cases v with
    | val x => cases h2; exact hi
    | _ => cases h2
theorem az_lv_has {ls : Array Slot} {n : Nat} (h1 : ls.size = n) (h2 : lv_wf ls) : lv_has ls n (az_lv ls) := ⟨h1, h2, fun _ h => az_lv_of h⟩
end
section
/-! how the state's picture moves: other tables, a cell written, a cell made; locals stored -/
theorem az_RC_kept {w : aW} {s : State} {H H' : Heap} {m m' : aM} {a t n : Nat} {rs : List Nat} (h : az_RC w s H m a t n rs) (hq : H'[az_ad w a]? = H[az_ad w a]?) (hm : ∀ j, m' a j = m a j) : az_RC w s H' m' a t n rs := by
  rcases h with ⟨h1, h2, h3, fs, h4, h5, h6⟩ | ⟨h1, h2, h3, h4, cA, f, h5, h6, h7, h8, h9⟩
  · exact Or.inl ⟨h1, h2, h3, fs, h4, h5.kept hq, fun k hk => by rw [hm]; exact h6 k hk⟩
  · exact Or.inr ⟨h1, h2, h3, h4, cA, f, by rw [hq]; exact h5, h6, h7, fun ht j hj => by rw [hm]; exact h8 ht j hj, h9⟩
theorem az_RC_moved {w : aW} {u U : State} (hvm : u.vm.Alike U.vm) {H : Heap} {m : aM} {a t n : Nat} {rs : List Nat} (h : az_RC w u H m a t n rs) : az_RC w U H m a t n rs := by
  rcases h with h | ⟨h1, h2, h3, h4, cA, f, h5, h6, h7, h8, h9⟩
  · exact Or.inl h
  · exact Or.inr ⟨h1, h2, h3, h4, cA, f, h5, arrOfT_moved hvm h6, h7.moved hvm, h8, h9⟩
theorem az_Tb_moved {w : aW} {u U : State} (hvm : u.vm.Alike U.vm) {H : Heap} (h : az_Tb w u H) : az_Tb w U H :=
  ⟨h.1.moved hvm, h.2.1.moved hvm, h.2.2.1.moved hvm, h.2.2.2.1.moved hvm, h.2.2.2.2.moved hvm⟩
theorem az_Tb_kept {w : aW} {s : State} {H H' : Heap} (hq : ∀ q : Nat, q < H.size → ¬ az_A w q → H'[q]? = H[q]?) (h : az_Tb w s H) : az_Tb w s H' :=
  ⟨h.1.kept hq, h.2.1.kept hq, h.2.2.1.kept hq, h.2.2.2.1.kept hq, h.2.2.2.2.kept hq⟩
theorem az_Xs_moved {w : aW} {sc : aX} {u U : State} (hvm : u.vm.Alike U.vm) {H : Heap} (h : az_Xs w sc u H) : az_Xs w sc U H := fun L xs e => by
  obtain ⟨x32, h1, h2⟩ := h L xs e
  exact ⟨x32, h1.moved hvm, h2⟩
theorem az_Xs_kept {w : aW} {sc : aX} {s : State} {H H' : Heap} (hq : ∀ q : Nat, q < w.1 → H'[q]? = H[q]?) (h : az_Xs w sc s H) : az_Xs w sc s H' := fun L xs e => by
  obtain ⟨x32, h1, h2, h3, h4⟩ := h L xs e
  exact ⟨x32, h1.kept (hq _ h3), h2, h3, h4⟩
theorem az_Rh_moved {w : aW} {sc : aX} {u U : State} (hvm : u.vm.Alike U.vm) {H : Heap} {g : aG} {m : aM} (h : az_Rh w sc u H g m) : az_Rh w sc U H g m := by
  obtain ⟨h1, h2, h3, h4, h5, h6, h7⟩ := h
  exact ⟨h1.moved hvm, az_Tb_moved hvm h2, az_Xs_moved hvm h3, h4, h5, h6, fun a t n rs ha hg => az_RC_moved hvm (h7 a t n rs ha hg)⟩
/-- one cell is written -/
theorem az_Rh_set {w : aW} {sc : aX} {s : State} {H H' : Heap} {g : aG} {m m' : aM} {a t n n' : Nat} {rs rs' : List Nat} (h : az_Rh w sc s H g m) (ha : 19 ≤ a) (hg : g[a]? = some (t, n, rs)) (z : H'.size = H.size) (oq : ∀ q : Nat, q ≠ az_ad w a → H'[q]? = H[q]?) (hm : ∀ (b : Nat) (j : Int), b ≠ a → m' b j = m b j) (hnew : az_RC w s H' m' a t n' rs') : az_Rh w sc s H' (g.set a (t, n', rs')) m' := by
  obtain ⟨h1, h2, h3, h4, h5, h6, h7⟩ := h
  have hlo : ∀ q : Nat, q < w.1 → H'[q]? = H[q]? := fun q hq => oq q (by rw [az_ad_hi ha]; omega)
  have hal := (List.getElem?_eq_some_iff.mp hg).1
  refine ⟨h1, az_Tb_kept (fun q _ hA => hlo q (Nat.not_le.mp hA)) h2, az_Xs_kept hlo h3, by rw [List.length_set]; exact h4, by rw [z, List.length_set]; exact h5, fun b hb => ?_, fun b t2 n2 rs2 hb hgb => ?_⟩
  · have hba : b ≠ a := by omega
    refine ⟨by rw [List.getElem?_set_ne (Ne.symm hba)]; exact (h6 b hb).1, fun j => by rw [hm b j hba]; exact (h6 b hb).2 j⟩
  · by_cases hba : b = a
    · subst hba
      rw [List.getElem?_set_self hal] at hgb
      cases hgb
      exact hnew
    · rw [List.getElem?_set_ne (Ne.symm hba)] at hgb
      exact az_RC_kept (h7 b t2 n2 rs2 hb hgb) (oq _ (fun e => hba (az_ad_inj hb ha e))) (fun j => hm b j hba)
theorem az_set_self {g : aG} {a : Nat} {q : Nat × Nat × List Nat} (h : g[a]? = some q) : g.set a q = g := by
  apply List.ext_getElem?
  intro i
  by_cases hi : i = a
  · subst hi
    rw [List.getElem?_set_self (List.getElem?_eq_some_iff.mp h).1, h]
  · rw [List.getElem?_set_ne (Ne.symm hi)]
theorem az_Rh_put {w : aW} {sc : aX} {s : State} {H H' : Heap} {g : aG} {m m' : aM} {a t n : Nat} {rs : List Nat} (h : az_Rh w sc s H g m) (ha : 19 ≤ a) (hg : g[a]? = some (t, n, rs)) (z : H'.size = H.size) (oq : ∀ q : Nat, q ≠ az_ad w a → H'[q]? = H[q]?) (hm : ∀ (b : Nat) (j : Int), b ≠ a → m' b j = m b j) (hnew : az_RC w s H' m' a t n rs) : az_Rh w sc s H' g m' := by
  have := az_Rh_set h ha hg z oq hm hnew
  rw [az_set_self hg] at this
  exact this
/-- one cell is made -/
theorem az_Rh_push {w : aW} {sc : aX} {s : State} {H H' : Heap} {g : aG} {m : aM} {t n : Nat} {rs : List Nat} (h : az_Rh w sc s H g m) (z : H'.size = H.size + 1) (oq : ∀ q : Nat, q < H.size → H'[q]? = H[q]?) (hnew : az_RC w s H' (az_bl m g.length) g.length t n rs) : az_Rh w sc s H' (g ++ [(t, n, rs)]) (az_bl m g.length) := by
  obtain ⟨h1, h2, h3, h4, h5, h6, h7⟩ := h
  have hlo : ∀ q : Nat, q < w.1 → H'[q]? = H[q]? := fun q hq => oq q (by omega)
  refine ⟨h1, az_Tb_kept (fun q _ hA => hlo q (Nat.not_le.mp hA)) h2, az_Xs_kept hlo h3, by simp; omega, by rw [z, h5]; simp; omega, fun b hb => ?_, fun b t2 n2 rs2 hb hgb => ?_⟩
  · refine ⟨by rw [List.getElem?_append_left (by omega)]; exact (h6 b hb).1, fun j => ?_⟩
    have : b ≠ g.length := by omega
    simp only [az_bl, if_neg this]
    exact (h6 b hb).2 j
  · by_cases hbl : b < g.length
    · rw [List.getElem?_append_left hbl] at hgb
      refine az_RC_kept (h7 b t2 n2 rs2 hb hgb) (oq _ (by rw [az_ad_hi hb, h5]; omega)) (fun j => ?_)
      have : b ≠ g.length := by omega
      simp only [az_bl, if_neg this]
    · rw [List.getElem?_append_right (by omega)] at hgb
      have hz : b - g.length < 1 := (List.getElem?_eq_some_iff.mp hgb).1
      have hb2 : b = g.length := by omega
      subst hb2
      rw [Nat.sub_self] at hgb
      cases hgb
      exact hnew
theorem az_ad_new {w : aW} {sc : aX} {s : State} {H : Heap} {g : aG} {m : aM} (h : az_Rh w sc s H g m) : az_ad w g.length = H.size := by
  rw [az_ad_hi h.2.2.2.1, h.2.2.2.2.1]
/-- the stores of locals -/
theorem az_st1_len : ∀ (l : aL) (k : Nat) (v : aV), (az_st1 l k v).length = l.length
  | [], _, _ => rfl
  | o :: l, 0, v => by cases o <;> simp [az_st1]
  | o :: l, 1, v => by
    rcases o with _ | i | j | r <;> simp [az_st1, az_st1_len l 0 v]
  | o :: l, k + 2, v => by
    rcases o with _ | i | j | r <;> simp [az_st1, az_st1_len l (k + 1) v]
theorem az_st1_at : ∀ (l : aL) (k : Nat) (v : aV) (i : Nat) (u : aV), (az_st1 l k v)[i]? = some (some u) → (i = k ∧ u = v) ∨ (i ≠ k ∧ l[i]? = some (some u) ∧ ¬ (i + 1 = k ∧ az_cat u = 2))
  | [], k, v, i, u, h => by simp [az_st1] at h
  | o :: l, 0, v, i, u, h => by
    have h' : (some v :: l)[i]? = some (some u) := by cases o <;> exact h
    cases i with
    | zero => left; simp at h'; exact ⟨rfl, h'.symm⟩
    | succ i => right; simp at h'; exact ⟨by omega, by simpa using h', by omega⟩
  | o :: l, 1, v, i, u, h => by
    cases i with
    | zero =>
      right
      refine ⟨by omega, ?_⟩
      rcases o with _ | x | y | r <;> simp [az_st1] at h ⊢
      · subst h; simp [az_cat]
      · subst h; simp [az_cat]
    | succ i =>
      have h' : (az_st1 l 0 v)[i]? = some (some u) := by
        rcases o with _ | x | y | r <;> simpa [az_st1] using h
      rcases az_st1_at l 0 v i u h' with ⟨a, b⟩ | ⟨a, b, c⟩
      · left; exact ⟨by omega, b⟩
      · right; exact ⟨by omega, by simpa using b, by omega⟩
  | o :: l, k + 2, v, i, u, h => by
    cases i with
    | zero =>
      right
      refine ⟨by omega, ?_, by omega⟩
      rcases o with _ | x | y | r <;> simpa [az_st1] using h
    | succ i =>
      have h' : (az_st1 l (k + 1) v)[i]? = some (some u) := by
        rcases o with _ | x | y | r <;> simpa [az_st1] using h
      rcases az_st1_at l (k + 1) v i u h' with ⟨a, b⟩ | ⟨a, b, c⟩
      · left; exact ⟨by omega, b⟩
      · right; exact ⟨by omega, by simpa using b, fun q => c ⟨by omega, q.2⟩⟩
theorem az_st2_len : ∀ (l : aL) (k : Nat) (v : aV), k + 1 < l.length → (az_st2 l k v).length = l.length
  | [], _, _, h => by simp at h
  | [_], _, _, h => by simp at h
  | o :: o2 :: l, 0, v, _ => by rcases o with _ | i | j | r <;> simp [az_st2]
  | o :: o2 :: l, 1, v, h => by
    have := az_st2_len (o2 :: l) 0 v (by simp at h ⊢; omega)
    rcases o with _ | i | j | r <;> simp [az_st2, this]
  | o :: o2 :: l, k + 2, v, h => by
    have := az_st2_len (o2 :: l) (k + 1) v (by simp at h ⊢; omega)
    rcases o with _ | i | j | r <;> simp [az_st2, this]
theorem az_st2_at : ∀ (l : aL) (k : Nat) (v : aV) (i : Nat) (u : aV), (az_st2 l k v)[i]? = some (some u) → (i = k ∧ u = v) ∨ (i ≠ k ∧ i ≠ k + 1 ∧ l[i]? = some (some u) ∧ ¬ (i + 1 = k ∧ az_cat u = 2))
  | [], k, v, i, u, h => by simp [az_st2] at h
  | [_], k, v, i, u, h => by simp [az_st2] at h
  | o :: o2 :: l, 0, v, i, u, h => by
    have h' : (some v :: none :: l)[i]? = some (some u) := by rcases o with _ | x | y | r <;> exact h
    match i, h' with
    | 0, h' => left; simp at h'; exact ⟨rfl, h'.symm⟩
    | 1, h' => simp at h'
    | i + 2, h' => right; simp at h'; exact ⟨by omega, by omega, by simpa using h', by omega⟩
  | o :: o2 :: l, 1, v, i, u, h => by
    cases i with
    | zero =>
      right
      refine ⟨by omega, by omega, ?_⟩
      rcases o with _ | x | y | r <;> simp [az_st2] at h ⊢
      · subst h; simp [az_cat]
      · subst h; simp [az_cat]
    | succ i =>
      have h' : (az_st2 (o2 :: l) 0 v)[i]? = some (some u) := by
        rcases o with _ | x | y | r <;> simpa [az_st2] using h
      rcases az_st2_at (o2 :: l) 0 v i u h' with ⟨a, b⟩ | ⟨a, b, c, d⟩
      · left; exact ⟨by omega, b⟩
      · right; exact ⟨by omega, by omega, by simpa using c, by omega⟩
  | o :: o2 :: l, k + 2, v, i, u, h => by
    cases i with
    | zero =>
      right
      refine ⟨by omega, by omega, ?_, by omega⟩
      rcases o with _ | x | y | r <;> simpa [az_st2] using h
    | succ i =>
      have h' : (az_st2 (o2 :: l) (k + 1) v)[i]? = some (some u) := by
        rcases o with _ | x | y | r <;> simpa [az_st2] using h
      rcases az_st2_at (o2 :: l) (k + 1) v i u h' with ⟨a, b⟩ | ⟨a, b, c, d⟩
      · left; exact ⟨by omega, b⟩
      · right; exact ⟨by omega, by omega, by simpa using c, fun q => d ⟨by omega, q.2⟩⟩
theorem az_LR_st1 {w : aW} (hw : az_wok w) {ls ls' : Array Slot} {n : Nat} {l : aL} {k : Nat} {v : aV} {x : Value} (h : az_LR w ls n l) (hv : az_rv w v x) (h' : lv_has ls' n ((k, x) :: (az_lv ls).filter (fun q => !(q.1 == k) && !(q.1 + 1 == k && q.2.category == 2)))) : az_LR w ls' n (az_st1 l k v) := by
  refine ⟨h'.1, h'.2.1, by rw [az_st1_len]; exact h.2.2.1, fun i u hi => ?_⟩
  rcases az_st1_at l k v i u hi with ⟨rfl, rfl⟩ | ⟨h1, h2, h3⟩
  · exact ⟨x, h'.2.2 (i, x) List.mem_cons_self, hv⟩
  · obtain ⟨y, hy, hr⟩ := h.2.2.2 i u h2
    refine ⟨y, h'.2.2 (i, y) (List.mem_cons_of_mem _ (List.mem_filter.mpr ⟨az_lv_mem hy, ?_⟩)), hr⟩
    have hc := az_rv_cat hw hr
    by_cases e1 : i + 1 = k
    · have e2 : ¬ y.category = 2 := fun e => h3 ⟨e1, by rw [← hc]; exact e⟩
      simp [h1, e2]
    · simp [h1, e1]
theorem az_LR_st2 {w : aW} (hw : az_wok w) {ls ls' : Array Slot} {n : Nat} {l : aL} {k : Nat} {v : aV} {x : Value} (h : az_LR w ls n l) (hk : k + 1 < l.length) (hv : az_rv w v x) (h' : lv_has ls' n ((k, x) :: (az_lv ls).filter (fun q => !(q.1 == k) && (!(q.1 == k + 1) && !(q.1 + 1 == k && q.2.category == 2))))) : az_LR w ls' n (az_st2 l k v) := by
  refine ⟨h'.1, h'.2.1, by rw [az_st2_len l k v hk]; exact h.2.2.1, fun i u hi => ?_⟩
  rcases az_st2_at l k v i u hi with ⟨rfl, rfl⟩ | ⟨h1, h1', h2, h3⟩
  · exact ⟨x, h'.2.2 (i, x) List.mem_cons_self, hv⟩
  · obtain ⟨y, hy, hr⟩ := h.2.2.2 i u h2
    refine ⟨y, h'.2.2 (i, y) (List.mem_cons_of_mem _ (List.mem_filter.mpr ⟨az_lv_mem hy, ?_⟩)), hr⟩
    have hc := az_rv_cat hw hr
    by_cases e1 : i + 1 = k
    · have e2 : ¬ y.category = 2 := fun e => h3 ⟨e1, by rw [← hc]; exact e⟩
      simp [h1, h1', e2]
    · simp [h1, h1', e1]
end
section
/-! machine numbers as ints; what each step says of its start -/
theorem az_bm32 {z : Int} (h1 : -2147483648 ≤ z) (h2 : z < 2147483648) : z.bmod (2 ^ 32) = z := by
  rw [Int.bmod_eq_of_le (by omega) (by omega)]
theorem az_bm64 {z : Int} (h1 : -9223372036854775808 ≤ z) (h2 : z < 9223372036854775808) : z.bmod (2 ^ 64) = z := by
  rw [Int.bmod_eq_of_le (by omega) (by omega)]
theorem az_rg32 (x : Int32) : -2147483648 ≤ x.toInt ∧ x.toInt < 2147483648 := by
  have h1 := Int32.le_toInt x
  have h2 := Int32.toInt_lt x
  constructor <;> omega
theorem az_rg64 (x : Int64) : -9223372036854775808 ≤ x.toInt ∧ x.toInt < 9223372036854775808 := by
  have h1 := Int64.le_toInt x
  have h2 := Int64.toInt_lt x
  constructor <;> omega
theorem az_n_add (x y : Int32) : (x + y).toInt = az_w (x.toInt + y.toInt) := Int32.toInt_add x y
theorem az_n_sub (x y : Int32) : (x - y).toInt = az_w (x.toInt - y.toInt) := Int32.toInt_sub x y
theorem az_n_mul (x y : Int32) : (x * y).toInt = az_w (x.toInt * y.toInt) := Int32.toInt_mul x y
theorem az_n_neg (x : Int32) : (-x).toInt = az_w (-x.toInt) := Int32.toInt_neg x
theorem az_n_div (x y : Int32) : (x / y).toInt = az_w (x.toInt.tdiv y.toInt) := Int32.toInt_div x y
theorem az_tmod_rg {x y : Int} {M : Int} (hx : -M ≤ x) (hx2 : x < M) : -M ≤ x.tmod y ∧ x.tmod y < M := by
  have h := Int.natAbs_tmod x y
  have h2 : x.natAbs % y.natAbs ≤ x.natAbs := Nat.mod_le _ _
  have h3 : 0 ≤ x → 0 ≤ x.tmod y := fun h => Int.tmod_nonneg y h
  have h4 : x ≤ 0 → x.tmod y ≤ 0 := fun h => by
    have := Int.tmod_nonneg y (show 0 ≤ -x by omega)
    rw [Int.neg_tmod] at this
    omega
  omega
theorem az_n_rem (x y : Int32) : (x - x / y * y).toInt = x.toInt.tmod y.toInt := by
  have hr := az_rg32 x
  have h := az_tmod_rg (y := y.toInt) hr.1 hr.2
  rw [Int32.toInt_sub, Int32.toInt_mul, Int32.toInt_div, Int.bmod_mul_bmod, Int.sub_bmod_bmod]
  rw [Int.tmod_def] at h ⊢
  rw [Int.mul_comm (x.toInt.tdiv y.toInt)]
  exact az_bm32 h.1 h.2
theorem az_n_ladd (x y : Int64) : (x + y).toInt = az_wl (x.toInt + y.toInt) := Int64.toInt_add x y
theorem az_n_lsub (x y : Int64) : (x - y).toInt = az_wl (x.toInt - y.toInt) := Int64.toInt_sub x y
theorem az_n_lmul (x y : Int64) : (x * y).toInt = az_wl (x.toInt * y.toInt) := Int64.toInt_mul x y
theorem az_n_ldiv (x y : Int64) : (x / y).toInt = az_wl (x.toInt.tdiv y.toInt) := Int64.toInt_div x y
theorem az_n_lrem (x y : Int64) : (x - x / y * y).toInt = x.toInt.tmod y.toInt := by
  have hr := az_rg64 x
  have h := az_tmod_rg (y := y.toInt) hr.1 hr.2
  rw [Int64.toInt_sub, Int64.toInt_mul, Int64.toInt_div, Int.bmod_mul_bmod, Int.sub_bmod_bmod]
  rw [Int.tmod_def] at h ⊢
  rw [Int.mul_comm (x.toInt.tdiv y.toInt)]
  exact az_bm64 h.1 h.2
theorem az_n_and (x y : Int32) : (x &&& y).toInt = az_and x.toInt y.toInt := by simp [az_and]
theorem az_n_or (x y : Int32) : (x ||| y).toInt = az_or x.toInt y.toInt := by simp [az_or]
theorem az_n_xor (x y : Int32) : (x ^^^ y).toInt = az_xor x.toInt y.toInt := by simp [az_xor]
theorem az_n_shl (x y : Int32) : (x <<< (y &&& 31)).toInt = az_shl x.toInt y.toInt := by simp [az_shl]
theorem az_n_shr (x y : Int32) : (x >>> (y &&& 31)).toInt = az_shr x.toInt y.toInt := by simp [az_shr]
theorem az_n_ush (x y : Int32) : ((x.toUInt32 >>> (y.toUInt32 &&& Int32.toUInt32 31)).toInt32).toInt = az_ush x.toInt y.toInt := by
  unfold az_ush
  rw [Int32.ofInt_toInt, Int32.ofInt_toInt]
theorem az_n_land (x y : Int64) : (x &&& y).toInt = az_land x.toInt y.toInt := by simp [az_land]
theorem az_n_lor (x y : Int64) : (x ||| y).toInt = az_lor x.toInt y.toInt := by simp [az_lor]
theorem az_n_lshl (x : Int64) (y : Int32) : (x <<< (y.toInt64 &&& 63)).toInt = az_lshl x.toInt y.toInt := by
  unfold az_lshl
  rw [Int32.ofInt_toInt, Int64.ofInt_toInt]
theorem az_n_lshr (x : Int64) (y : Int32) : (x >>> (y.toInt64 &&& 63)).toInt = az_lshr x.toInt y.toInt := by
  unfold az_lshr
  rw [Int32.ofInt_toInt, Int64.ofInt_toInt]
theorem az_n_i2b (x : Int32) : x.toInt8.toInt32.toInt = az_i2b x.toInt := by
  unfold az_i2b
  rw [Int32.ofInt_toInt]
theorem az_n_i2s (x : Int32) : x.toInt16.toInt32.toInt = az_i2s x.toInt := by
  unfold az_i2s
  rw [Int32.ofInt_toInt]
theorem az_n_i2c (x : Int32) : (x.toUInt32 % 65536).toInt32.toInt = az_i2c x.toInt := by
  unfold az_i2c
  rw [Int32.ofInt_toInt]
theorem az_n_i2l (x : Int32) : x.toInt64.toInt = x.toInt := Int32.toInt_toInt64 x
theorem az_n_l2i (x : Int64) : x.toInt32.toInt = az_w x.toInt := Int64.toInt_toInt32 x
theorem az_n_cmp (x y : Int64) : (lg_cmp x y).toInt = az_cmp x.toInt y.toInt := by
  unfold lg_cmp az_cmp
  simp only [gt_iff_lt, Int64.lt_iff_toInt_lt, ← Int64.toInt_inj]
  repeat' split
  all_goals first | rfl | omega
theorem az_n_lit {n : Int} (h1 : -2147483648 ≤ n) (h2 : n < 2147483648) : (Int32.ofInt n).toInt = n := by
  rw [Int32.toInt_ofInt, az_bm32 h1 h2]
theorem az_n_litL {n : Int} (h1 : -9223372036854775808 ≤ n) (h2 : n < 9223372036854775808) : (Int64.ofInt n).toInt = n := by
  rw [Int64.toInt_ofInt, az_bm64 h1 h2]
theorem az_n_lit8 {n : Int} (h1 : -128 ≤ n) (h2 : n < 128) : (Int8.ofInt n).toInt32.toInt = n := by
  rw [Int8.toInt_toInt32, Int8.toInt_ofInt, show Int8.size = 256 from rfl, Int.bmod_eq_of_le (by omega) (by omega)]
theorem az_n_lit16 {n : Int} (h1 : -32768 ≤ n) (h2 : n < 32768) : (Int16.ofInt n).toInt32.toInt = n := by
  rw [Int16.toInt_toInt32, Int16.toInt_ofInt, show Int16.size = 65536 from rfl, Int.bmod_eq_of_le (by omega) (by omega)]
theorem az_n_0 {y : Int32} (h : ¬ y.toInt = 0) : ¬ y = 0 := fun e => h (by rw [e]; rfl)
theorem az_n_0L {y : Int64} (h : ¬ y.toInt = 0) : ¬ y = 0 := fun e => h (by rw [e]; rfl)
theorem az_n_in {j : Int32} {n : Nat} (h0 : 0 ≤ j.toInt) (h1 : j.toInt < (n : Int)) : ¬ (j < 0 ∨ n ≤ j.toNatClampNeg) := by
  have e : j.toNatClampNeg = j.toInt.toNat := rfl
  rintro (h | h)
  · have := Int32.lt_iff_toInt_lt.mp h
    have z : (0 : Int32).toInt = 0 := rfl
    omega
  · omega
theorem az_n_cl {j : Int32} : j.toNatClampNeg = j.toInt.toNat := rfl
theorem az_n_pos {j : Int32} (h0 : 0 ≤ j.toInt) : ¬ j < 0 := fun h => by
  have := Int32.lt_iff_toInt_lt.mp h
  have z : (0 : Int32).toInt = 0 := rfl
  omega
theorem az_n_max (x y : Int32) : (if x < y then y else x).toInt = (if x.toInt < y.toInt then y.toInt else x.toInt) := by
  simp only [Int32.lt_iff_toInt_lt]
  split <;> rfl
theorem az_n_min (x y : Int32) : (if y < x then y else x).toInt = (if y.toInt < x.toInt then y.toInt else x.toInt) := by
  simp only [Int32.lt_iff_toInt_lt]
  split <;> rfl
theorem az_n_maxL (x y : Int64) : (if y < x then x else y).toInt = (if x.toInt < y.toInt then y.toInt else x.toInt) := by
  simp only [Int64.lt_iff_toInt_lt]
  repeat' split
  all_goals omega
theorem az_dec_ok {b : ByteArray} {pc : Nat} {i : Instr} (h : az_dec b pc i = true) (hl : az_len i ≠ 0) : decode b pc = .ok (i, az_len i) := by
  unfold az_dec at h
  split at h
  · next q hq =>
    simp only [Bool.and_eq_true, Bool.or_eq_true, decide_eq_true_eq] at h
    rcases h with ⟨h1, h2 | h2⟩
    · exact absurd h2 hl
    · subst h1
      rw [hq, ← h2]
  · cases h
theorem az_dec_ok0 {b : ByteArray} {pc : Nat} {i : Instr} (h : az_dec b pc i = true) : ∃ n, decode b pc = .ok (i, n) := by
  unfold az_dec at h
  split at h
  · next q hq =>
    simp only [Bool.and_eq_true, decide_eq_true_eq] at h
    exact ⟨q.2, by rw [hq, ← h.1]⟩
  · cases h
end
section
/-! what a step's success says of its start -/
theorem az_i_nx {l l' : aL} {s s' : aS} {g g' : aG} {m m' : aM} (h : az_nx l s g m = some (.inl (l', s', g', m'))) : l' = l ∧ s' = s ∧ g' = g ∧ m' = m := by
  simp only [az_nx, Option.some.injEq, Sum.inl.injEq, Prod.mk.injEq] at h
  exact ⟨h.1.symm, h.2.1.symm, h.2.2.1.symm, h.2.2.2.symm⟩
section INV
variable {sc : aX} {M k : Nat} {l l' : aL} {s s' : aS} {g g' : aG} {m m' : aM} {f : List Int} {F : Int → Int → Int}
theorem az_i_ldI (h : az_ldI l s g m k = some (.inl (l', s', g', m'))) : ∃ x, l[k]? = some (some (.inl x)) ∧ l' = l ∧ s' = .inl x :: s ∧ g' = g ∧ m' = m := by
  unfold az_ldI at h
  split at h
  · next x hx => exact ⟨x, hx, az_i_nx h⟩
  · cases h
theorem az_i_ldL (h : az_ldL l s g m k = some (.inl (l', s', g', m'))) : ∃ x, l[k]? = some (some (.inr (.inl x))) ∧ l' = l ∧ s' = .inr (.inl x) :: s ∧ g' = g ∧ m' = m := by
  unfold az_ldL at h
  split at h
  · next x hx => exact ⟨x, hx, az_i_nx h⟩
  · cases h
theorem az_i_ldA (h : az_ldA l s g m k = some (.inl (l', s', g', m'))) : ∃ x, l[k]? = some (some (.inr (.inr x))) ∧ l' = l ∧ s' = .inr (.inr x) :: s ∧ g' = g ∧ m' = m := by
  unfold az_ldA at h
  split at h
  · next x hx => exact ⟨x, hx, az_i_nx h⟩
  · cases h
theorem az_i_stI (h : az_stI l s g m k = some (.inl (l', s', g', m'))) : ∃ x, s = .inl x :: s' ∧ k < l.length ∧ l' = az_st1 l k (.inl x) ∧ g' = g ∧ m' = m := by
  unfold az_stI at h
  split at h
  · next x s1 =>
    split at h
    · next hk =>
      obtain ⟨h1, h2, h3, h4⟩ := az_i_nx h
      exact ⟨x, by rw [h2], hk, h1, h3, h4⟩
    · cases h
  · cases h
theorem az_i_stA (h : az_stA l s g m k = some (.inl (l', s', g', m'))) : ∃ x, s = .inr (.inr x) :: s' ∧ k < l.length ∧ l' = az_st1 l k (.inr (.inr x)) ∧ g' = g ∧ m' = m := by
  unfold az_stA at h
  split at h
  · next x s1 =>
    split at h
    · next hk =>
      obtain ⟨h1, h2, h3, h4⟩ := az_i_nx h
      exact ⟨x, by rw [h2], hk, h1, h3, h4⟩
    · cases h
  · cases h
theorem az_i_stL (h : az_stL l s g m k = some (.inl (l', s', g', m'))) : ∃ x, s = .inr (.inl x) :: s' ∧ k + 1 < l.length ∧ l' = az_st2 l k (.inr (.inl x)) ∧ g' = g ∧ m' = m := by
  unfold az_stL at h
  split at h
  · next x s1 =>
    split at h
    · next hk =>
      obtain ⟨h1, h2, h3, h4⟩ := az_i_nx h
      exact ⟨x, by rw [h2], hk, h1, h3, h4⟩
    · cases h
  · cases h
theorem az_i_b2 (h : az_b2 l s g m F = some (.inl (l', s', g', m'))) : ∃ y x s1, s = .inl y :: .inl x :: s1 ∧ l' = l ∧ s' = .inl (F x y) :: s1 ∧ g' = g ∧ m' = m := by
  unfold az_b2 at h
  split at h
  · next y x s1 => exact ⟨y, x, s1, rfl, az_i_nx h⟩
  · cases h
theorem az_i_l2 (h : az_l2 l s g m F = some (.inl (l', s', g', m'))) : ∃ y x s1, s = .inr (.inl y) :: .inr (.inl x) :: s1 ∧ l' = l ∧ s' = .inr (.inl (F x y)) :: s1 ∧ g' = g ∧ m' = m := by
  unfold az_l2 at h
  split at h
  · next y x s1 => exact ⟨y, x, s1, rfl, az_i_nx h⟩
  · cases h
theorem az_i_li (h : az_li l s g m F = some (.inl (l', s', g', m'))) : ∃ y x s1, s = .inl y :: .inr (.inl x) :: s1 ∧ l' = l ∧ s' = .inr (.inl (F x y)) :: s1 ∧ g' = g ∧ m' = m := by
  unfold az_li at h
  split at h
  · next y x s1 => exact ⟨y, x, s1, rfl, az_i_nx h⟩
  · cases h
theorem az_i_u1 {G : Int → Int} (h : az_u1 l s g m G = some (.inl (l', s', g', m'))) : ∃ x s1, s = .inl x :: s1 ∧ l' = l ∧ s' = .inl (G x) :: s1 ∧ g' = g ∧ m' = m := by
  unfold az_u1 at h
  split at h
  · next x s1 => exact ⟨x, s1, rfl, az_i_nx h⟩
  · cases h
theorem az_i_d2 (h : az_d2 l s g m F = some (.inl (l', s', g', m'))) : ∃ y x s1, s = .inl y :: .inl x :: s1 ∧ ¬ y = 0 ∧ l' = l ∧ s' = .inl (F x y) :: s1 ∧ g' = g ∧ m' = m := by
  unfold az_d2 at h
  split at h
  · next y x s1 =>
    split at h
    · cases h
    · next hy => exact ⟨y, x, s1, rfl, hy, az_i_nx h⟩
  · cases h
theorem az_i_dl2 (h : az_dl2 l s g m F = some (.inl (l', s', g', m'))) : ∃ y x s1, s = .inr (.inl y) :: .inr (.inl x) :: s1 ∧ ¬ y = 0 ∧ l' = l ∧ s' = .inr (.inl (F x y)) :: s1 ∧ g' = g ∧ m' = m := by
  unfold az_dl2 at h
  split at h
  · next y x s1 =>
    split at h
    · cases h
    · next hy => exact ⟨y, x, s1, rfl, hy, az_i_nx h⟩
  · cases h
theorem az_i_if2 {c : ClassFile.Cond} (h : az_if2 l s g m f c = some (.inl (l', s', g', m'))) : ∃ y x, s = .inl y :: .inl x :: s' ∧ az_cnd c x y = false ∧ l' = l ∧ g' = g ∧ m' = m := by
  unfold az_if2 at h
  split at h
  · next y x s1 =>
    split at h
    · simp [az_jmp] at h
    · next hc =>
      obtain ⟨h1, h2, h3, h4⟩ := az_i_nx h
      exact ⟨y, x, by rw [h2], by simpa using hc, h1, h3, h4⟩
  · cases h
theorem az_i_if1 {c : ClassFile.Cond} (h : az_if1 l s g m f c = some (.inl (l', s', g', m'))) : ∃ x, s = .inl x :: s' ∧ az_cnd c x 0 = false ∧ l' = l ∧ g' = g ∧ m' = m := by
  unfold az_if1 at h
  split at h
  · next x s1 =>
    split at h
    · simp [az_jmp] at h
    · next hc =>
      obtain ⟨h1, h2, h3, h4⟩ := az_i_nx h
      exact ⟨x, by rw [h2], by simpa using hc, h1, h3, h4⟩
  · cases h
theorem az_i_ald {ts : List Nat} (h : az_ald sc l s g m ts = some (.inl (l', s', g', m'))) : ∃ j a s1, s = .inl j :: .inr (.inr (a + 1)) :: s1 ∧ l' = l ∧ g' = g ∧ m' = m ∧
    ((a = 0 ∧ ∃ L xs, sc = some (L, xs) ∧ ts = [20] ∧ 0 ≤ j ∧ j < (L : Int) ∧ s' = .inl (xs j) :: s1) ∨ (a ≠ 0 ∧ ∃ t n rs, g[a]? = some (t, n, rs) ∧ t ∈ ts ∧ 0 ≤ j ∧ j < (n : Int) ∧ s' = .inl (m a j) :: s1)) := by
  unfold az_ald at h
  split at h
  · next j a s1 =>
    split at h
    · next ha =>
      split at h
      · next L xs =>
        split at h
        · next hc =>
          obtain ⟨h1, h2, h3, h4⟩ := az_i_nx h
          exact ⟨j, a, s1, rfl, h1, h3, h4, Or.inl ⟨ha, L, xs, rfl, hc.1, hc.2.1, hc.2.2, h2⟩⟩
        · cases h
      · cases h
    · next ha =>
      split at h
      · next t n rs hg =>
        split at h
        · next hc =>
          obtain ⟨h1, h2, h3, h4⟩ := az_i_nx h
          exact ⟨j, a, s1, rfl, h1, h3, h4, Or.inr ⟨ha, t, n, rs, hg, hc.1, hc.2.1, hc.2.2, h2⟩⟩
        · cases h
      · cases h
  · cases h
theorem az_i_aald (h : az_aald l s g m = some (.inl (l', s', g', m'))) : ∃ j a s1 t n rs, s = .inl j :: .inr (.inr (a + 1)) :: s1 ∧ g[a]? = some (t, n, rs) ∧ 23 ≤ t ∧ t ≤ 24 ∧ 0 ≤ j ∧ j < (n : Int) ∧ l' = l ∧ s' = .inr (.inr (rs.getD j.toNat 0)) :: s1 ∧ g' = g ∧ m' = m := by
  unfold az_aald at h
  split at h
  · next j a s1 =>
    split at h
    · next t n rs hg =>
      split at h
      · next hc => exact ⟨j, a, s1, t, n, rs, rfl, hg, hc.1, hc.2.1, hc.2.2.1, hc.2.2.2, az_i_nx h⟩
      · cases h
    · cases h
  · cases h
theorem az_i_aln (h : az_aln sc l s g m = some (.inl (l', s', g', m'))) : ∃ a s1, s = .inr (.inr (a + 1)) :: s1 ∧ l' = l ∧ g' = g ∧ m' = m ∧
    ((a = 0 ∧ ∃ L xs, sc = some (L, xs) ∧ s' = .inl (L : Int) :: s1) ∨ (a ≠ 0 ∧ ∃ t n rs, g[a]? = some (t, n, rs) ∧ 20 ≤ t ∧ t ≤ 24 ∧ s' = .inl (n : Int) :: s1)) := by
  unfold az_aln at h
  split at h
  · next a s1 =>
    split at h
    · next ha =>
      split at h
      · next L xs =>
        obtain ⟨h1, h2, h3, h4⟩ := az_i_nx h
        exact ⟨a, s1, rfl, h1, h3, h4, Or.inl ⟨ha, L, xs, rfl, h2⟩⟩
      · cases h
    · next ha =>
      split at h
      · next t n rs hg =>
        split at h
        · next hc =>
          obtain ⟨h1, h2, h3, h4⟩ := az_i_nx h
          exact ⟨a, s1, rfl, h1, h3, h4, Or.inr ⟨ha, t, n, rs, hg, hc.1, hc.2, h2⟩⟩
        · cases h
      · cases h
  · cases h
theorem az_i_iast (h : az_iast l s g m = some (.inl (l', s', g', m'))) : ∃ v j a t n rs, s = .inl v :: .inl j :: .inr (.inr (a + 1)) :: s' ∧ g[a]? = some (t, n, rs) ∧ 19 ≤ a ∧ t = 20 ∧ 0 ≤ j ∧ j < (n : Int) ∧ l' = l ∧ g' = g ∧ m' = az_up m a j v := by
  unfold az_iast at h
  split at h
  · next v j a s1 =>
    split at h
    · next t n rs hg =>
      split at h
      · next hc =>
        obtain ⟨h1, h2, h3, h4⟩ := az_i_nx h
        exact ⟨v, j, a, t, n, rs, by rw [h2], hg, hc.1, hc.2.1, hc.2.2.1, hc.2.2.2, h1, h3, h4⟩
      · cases h
    · cases h
  · cases h
theorem az_i_bast (h : az_bast l s g m = some (.inl (l', s', g', m'))) : ∃ v j a t n rs, s = .inl v :: .inl j :: .inr (.inr (a + 1)) :: s' ∧ g[a]? = some (t, n, rs) ∧ 19 ≤ a ∧ ((t = 21 ∧ -128 ≤ v ∧ v < 128) ∨ (t = 22 ∧ 0 ≤ v ∧ v < 2)) ∧ 0 ≤ j ∧ j < (n : Int) ∧ l' = l ∧ g' = g ∧ m' = az_up m a j v := by
  unfold az_bast at h
  split at h
  · next v j a s1 =>
    split at h
    · next t n rs hg =>
      split at h
      · next hc =>
        obtain ⟨h1, h2, h3, h4⟩ := az_i_nx h
        exact ⟨v, j, a, t, n, rs, by rw [h2], hg, hc.1, hc.2.1, hc.2.2.1, hc.2.2.2, h1, h3, h4⟩
      · cases h
    · cases h
  · cases h
theorem az_i_aast (h : az_aast l s g m = some (.inl (l', s', g', m'))) : ∃ b j a t n rs t2 n2 rs2, s = .inr (.inr (b + 1)) :: .inl j :: .inr (.inr (a + 1)) :: s' ∧ g[a]? = some (t, n, rs) ∧ g[b]? = some (t2, n2, rs2) ∧ 19 ≤ a ∧ 19 ≤ b ∧ ((t = 23 ∧ t2 = 5) ∨ (t = 24 ∧ t2 = 1)) ∧ 0 ≤ j ∧ j < (n : Int) ∧ l' = l ∧ g' = g.set a (t, n, rs.set j.toNat (b + 1)) ∧ m' = m := by
  unfold az_aast at h
  split at h
  · next b j a s1 =>
    split at h
    · next t n rs t2 n2 rs2 hg hg2 =>
      split at h
      · next hc =>
        obtain ⟨h1, h2, h3, h4⟩ := az_i_nx h
        exact ⟨b, j, a, t, n, rs, t2, n2, rs2, by rw [h2], hg, hg2, hc.1, hc.2.1, hc.2.2.1, hc.2.2.2.1, hc.2.2.2.2, h1, h3, h4⟩
      · cases h
    · cases h
  · cases h
theorem az_i_get (h : az_get l s g m f = some (.inl (l', s', g', m'))) : ∃ a s1 c k t q tg n rs, s = .inr (.inr (a + 1)) :: s1 ∧ f = c :: k :: t :: q ∧ g[a]? = some (tg, n, rs) ∧ (tg : Int) = c ∧ l' = l ∧ g' = g ∧ m' = m ∧
    ((t = 1 ∧ s' = .inr (.inl (m a k)) :: s1) ∨ (t = 2 ∧ s' = .inr (.inr (rs.getD k.toNat 0)) :: s1) ∨ (t ≠ 1 ∧ t ≠ 2 ∧ s' = .inl (m a k) :: s1)) := by
  unfold az_get at h
  split at h
  · next a s1 c k t q =>
    split at h
    · next tg n rs hg =>
      split at h
      · next hc =>
        refine ⟨a, s1, c, k, t, q, tg, n, rs, rfl, rfl, hg, hc, ?_⟩
        split at h
        · next ht =>
          obtain ⟨h1, h2, h3, h4⟩ := az_i_nx h
          exact ⟨h1, h3, h4, Or.inl ⟨ht, h2⟩⟩
        · next ht =>
          split at h
          · next ht2 =>
            obtain ⟨h1, h2, h3, h4⟩ := az_i_nx h
            exact ⟨h1, h3, h4, Or.inr (Or.inl ⟨ht2, h2⟩)⟩
          · next ht2 =>
            obtain ⟨h1, h2, h3, h4⟩ := az_i_nx h
            exact ⟨h1, h3, h4, Or.inr (Or.inr ⟨ht, ht2, h2⟩)⟩
      · cases h
    · cases h
  · cases h
theorem az_i_put (h : az_put l s g m f = some (.inl (l', s', g', m'))) : ∃ (a : Nat) (c k t : Int) (q : List Int) (tg n : Nat) (rs : List Nat), f = c :: k :: t :: q ∧ g[a]? = some (tg, n, rs) ∧ 19 ≤ a ∧ (tg : Int) = c ∧ l' = l ∧
    ((∃ v, s = .inl v :: .inr (.inr (a + 1)) :: s' ∧ (t = 0 ∨ (t = 3 ∧ 0 ≤ v ∧ v < 2)) ∧ g' = g ∧ m' = az_up m a k v) ∨ (∃ v, s = .inr (.inl v) :: .inr (.inr (a + 1)) :: s' ∧ t = 1 ∧ g' = g ∧ m' = az_up m a k v) ∨ (∃ r, s = .inr (.inr r) :: .inr (.inr (a + 1)) :: s' ∧ t = 2 ∧ r ≤ g.length ∧ g' = g.set a (tg, n, rs.set k.toNat r) ∧ m' = m)) := by
  unfold az_put at h
  split at h
  · next v a s1 c k t q =>
    split at h
    · next tg n rs hg =>
      split at h
      · next hc =>
        obtain ⟨h1, h2, h3, h4⟩ := az_i_nx h
        exact ⟨a, c, k, t, q, tg, n, rs, rfl, hg, hc.1, hc.2.1, h1, Or.inl ⟨v, by rw [h2], hc.2.2, h3, h4⟩⟩
      · cases h
    · cases h
  · next v a s1 c k t q =>
    split at h
    · next tg n rs hg =>
      split at h
      · next hc =>
        obtain ⟨h1, h2, h3, h4⟩ := az_i_nx h
        exact ⟨a, c, k, t, q, tg, n, rs, rfl, hg, hc.1, hc.2.1, h1, Or.inr (Or.inl ⟨v, by rw [h2], hc.2.2, h3, h4⟩)⟩
      · cases h
    · cases h
  · next r a s1 c k t q =>
    split at h
    · next tg n rs hg =>
      split at h
      · next hc =>
        obtain ⟨h1, h2, h3, h4⟩ := az_i_nx h
        exact ⟨a, c, k, t, q, tg, n, rs, rfl, hg, hc.1, hc.2.1, h1, Or.inr (Or.inr ⟨r, by rw [h2], hc.2.2.1, hc.2.2.2, h3, h4⟩)⟩
      · cases h
    · cases h
  · cases h
theorem az_i_gst (h : az_gst l s g m f = some (.inl (l', s', g', m'))) : ∃ q, l' = l ∧ g' = g ∧ m' = m ∧ ((f = 0 :: q ∧ s' = .inr (.inr 3) :: s) ∨ (f = 1 :: q ∧ s' = .inl 1 :: s) ∨ (f = 2 :: q ∧ s' = .inr (.inr 2) :: s)) := by
  unfold az_gst at h
  split at h
  · next q =>
    obtain ⟨h1, h2, h3, h4⟩ := az_i_nx h
    exact ⟨q, h1, h3, h4, Or.inl ⟨rfl, h2⟩⟩
  · next q =>
    obtain ⟨h1, h2, h3, h4⟩ := az_i_nx h
    exact ⟨q, h1, h3, h4, Or.inr (Or.inl ⟨rfl, h2⟩)⟩
  · next q =>
    obtain ⟨h1, h2, h3, h4⟩ := az_i_nx h
    exact ⟨q, h1, h3, h4, Or.inr (Or.inr ⟨rfl, h2⟩)⟩
  · cases h
theorem az_i_new (h : az_new l s g m f = some (.inl (l', s', g', m'))) : ∃ c n q, f = c :: n :: q ∧ 19 ≤ g.length ∧ l' = l ∧ s' = .inr (.inr (g.length + 1)) :: s ∧ g' = g ++ [(c.toNat, n.toNat, List.replicate n.toNat 0)] ∧ m' = az_bl m g.length := by
  unfold az_new at h
  split at h
  · next c n q =>
    split at h
    · next hc => exact ⟨c, n, q, rfl, hc, az_i_nx h⟩
    · cases h
  · cases h
theorem az_i_nwa (h : az_nwa l s g m f = some (.inl (l', s', g', m'))) : ∃ n s1 t q, s = .inl n :: s1 ∧ f = t :: q ∧ 0 ≤ n ∧ n ≤ 2000 ∧ 19 ≤ g.length ∧ l' = l ∧ s' = .inr (.inr (g.length + 1)) :: s1 ∧ g' = g ++ [(t.toNat, n.toNat, if 23 ≤ t then List.replicate n.toNat 0 else [])] ∧ m' = az_bl m g.length := by
  unfold az_nwa at h
  split at h
  · next n s1 t q =>
    split at h
    · next hc => exact ⟨n, s1, t, q, rfl, rfl, hc.1, hc.2.1, hc.2.2, az_i_nx h⟩
    · cases h
  · cases h
theorem az_i_cpy (h : az_cpy l s g m = some (.inl (l', s', g', m'))) : ∃ n dp d sp a t n0 rs t2 n1 rs2, s = .inl n :: .inl dp :: .inr (.inr (d + 1)) :: .inl sp :: .inr (.inr (a + 1)) :: s' ∧ g[a]? = some (t, n0, rs) ∧ g[d]? = some (t2, n1, rs2) ∧ 19 ≤ a ∧ 19 ≤ d ∧ t = 20 ∧ t2 = 20 ∧ 0 ≤ n ∧ 0 ≤ sp ∧ 0 ≤ dp ∧ sp + n ≤ (n0 : Int) ∧ dp + n ≤ (n1 : Int) ∧ s'.length ≤ 4 ∧ l' = l ∧ g' = g ∧ m' = az_cp m a sp d dp n := by
  unfold az_cpy at h
  split at h
  · next n dp d sp a s1 =>
    split at h
    · next t n0 rs t2 n1 rs2 hg hg2 =>
      split at h
      · next hc =>
        obtain ⟨c1, c2, c3, c4, c5, c6, c7, c8, c9, c10⟩ := hc
        obtain ⟨h1, h2, h3, h4⟩ := az_i_nx h
        subst h2
        exact ⟨n, dp, d, sp, a, t, n0, rs, t2, n1, rs2, rfl, hg, hg2, c1, c2, c3, c4, c5, c6, c7, c8, c9, c10, h1, h3, h4⟩
      · cases h
    · cases h
  · cases h
theorem az_i_ldc (h : az_ldc l s g m f = some (.inl (l', s', g', m'))) : ∃ v q, l' = l ∧ g' = g ∧ m' = m ∧ ((f = 0 :: v :: q ∧ s' = .inl v :: s) ∨ (f = 1 :: v :: q ∧ s' = .inr (.inr (v.toNat + 1)) :: s)) := by
  unfold az_ldc at h
  split at h
  · next v q =>
    obtain ⟨h1, h2, h3, h4⟩ := az_i_nx h
    exact ⟨v, q, h1, h3, h4, Or.inl ⟨rfl, h2⟩⟩
  · next v q =>
    obtain ⟨h1, h2, h3, h4⟩ := az_i_nx h
    exact ⟨v, q, h1, h3, h4, Or.inr ⟨rfl, h2⟩⟩
  · cases h
theorem az_i_ldc2 (h : az_ldc2 l s g m f = some (.inl (l', s', g', m'))) : ∃ v q, f = 0 :: v :: q ∧ l' = l ∧ s' = .inr (.inl v) :: s ∧ g' = g ∧ m' = m := by
  unfold az_ldc2 at h
  split at h
  · next v q => exact ⟨v, q, rfl, az_i_nx h⟩
  · cases h
theorem az_i_iinc {c : Int} (h : az_iinc l s g m k c = some (.inl (l', s', g', m'))) : ∃ x, l[k]? = some (some (.inl x)) ∧ l' = az_st1 l k (.inl (az_w (x + c))) ∧ s' = s ∧ g' = g ∧ m' = m := by
  unfold az_iinc at h
  split at h
  · next x hx => exact ⟨x, hx, az_i_nx h⟩
  · cases h
end INV
end
section
/-! ONE STEP OF THE INTERPRETER IS ONE STEP OF THE MACHINE -/
def az_sl (g : aG) : Nat := (g.map fun q => q.2.1).sum
theorem az_sl_push (g : aG) (q : Nat × Nat × List Nat) : az_sl (g ++ [q]) = az_sl g + q.2.1 := by simp [az_sl]
theorem az_sl_set {g : aG} {a : Nat} {t n : Nat} {rs rs' : List Nat} (h : g[a]? = some (t, n, rs)) : az_sl (g.set a (t, n, rs')) = az_sl g := by
  unfold az_sl
  rw [List.map_set]
  congr 1
  apply List.ext_getElem?
  intro i
  by_cases hi : i = a
  · subst hi
    rw [List.getElem?_set_self (by rw [List.length_map]; exact (List.getElem?_eq_some_iff.mp h).1), List.getElem?_map, h]
    rfl
  · rw [List.getElem?_set_ne (Ne.symm hi)]
def az_Cx (M : Nat) (p : Program) (s : State) (mid : MethodId) (args : Array Value) (meth : Method) (cd : Code) : Prop :=
  p.tables.exec = Jvm.exec ∧ cd.code = az_by M ∧ cd.maxLocals = az_ml M ∧ s.vm.findClass (az_y M).cls = some mid.cls ∧ (∀ w ∈ az_good, w.before args s = true) ∧ ((az_y M).name = "<init>" → meth.name = "<init>")
section NX
variable {p : Program} {la : Launch} {e : Env} {R : Room} {s : State} {mid : MethodId} {args : Array Value} {below : List Frame} {meth : Method} {cd : Code} {H : Heap} {locs : List Loc} {cells slots : Nat} {Q : State → Prop}
variable {w : aW} {sc : aX} {M pc : Nat} {ls : Array Slot} {xs : List Value} {l : aL} {st : aS} {g : aG} {m : aM}
theorem az_x_ldI {n k : Nat} {x : Int} (hL : az_LR w ls n l) (h : l[k]? = some (some (.inl x))) : ∃ z : Int32, ls[k]? = some (.val (.int z)) ∧ z.toInt = x := by
  obtain ⟨y, h1, z, h2, h3⟩ := hL.2.2.2 k _ h
  exact ⟨z, by rw [h1, h2], h3⟩
theorem az_x_ldL {n k : Nat} {x : Int} (hL : az_LR w ls n l) (h : l[k]? = some (some (.inr (.inl x)))) : ∃ z : Int64, ls[k]? = some (.val (.long z)) ∧ z.toInt = x := by
  obtain ⟨y, h1, z, h2, h3⟩ := hL.2.2.2 k _ h
  exact ⟨z, by rw [h1, h2], h3⟩
theorem az_x_ldA {n k : Nat} {r : Nat} (hL : az_LR w ls n l) (h : l[k]? = some (some (.inr (.inr r)))) : ls[k]? = some (.val (az_rf w r)) := by
  obtain ⟨y, h1, h2⟩ := hL.2.2.2 k _ h
  rw [h1, show y = az_rf w r from h2]
/-- a reference is null or an address -/
theorem az_rf_or (hw : az_wok w) (r : Nat) : az_rf w r = .null ∨ ∃ a, az_rf w r = .ref a := by
  unfold az_rf
  split
  · exact Or.inl rfl
  · split
    · exact hw
    · exact Or.inr ⟨_, rfl⟩
/-- aload of a reference or null -/
theorem az_aload {cc : ByteArray} (hexec : p.tables.exec = Jvm.exec) (hb : cd.code = cc) (hw : az_wok w) {i : Nat} {r : Nat} {rest : List Value} (hdg : decode cc pc = .ok (.aload i, 2)) (hl : ls[i]? = some (.val (az_rf w r)))
    (k : W p la e R s mid args below meth cd H locs cells slots Q (F0 mid (pc + 2) ls (az_rf w r :: rest))) : W p la e R s mid args below meth cd H locs cells slots Q (F0 mid pc ls rest) := by
  rcases az_rf_or hw r with h | ⟨a, h⟩
  · rw [h] at hl k
    exact lv_aloadN hexec hb hdg hl k
  · rw [h] at hl k
    exact lv_aload hexec hb hdg hl k
theorem az_aload_n {cc : ByteArray} (hexec : p.tables.exec = Jvm.exec) (hb : cd.code = cc) (hw : az_wok w) {j : Fin 4} {r : Nat} {rest : List Value} (hdg : decode cc pc = .ok (.aload_n j, 1)) (hl : ls[(j : Nat)]? = some (.val (az_rf w r)))
    (k : W p la e R s mid args below meth cd H locs cells slots Q (F0 mid (pc + 1) ls (az_rf w r :: rest))) : W p la e R s mid args below meth cd H locs cells slots Q (F0 mid pc ls rest) := by
  rcases az_rf_or hw r with h | ⟨a, h⟩
  · rw [h] at hl k
    exact lv_aload_nN hexec hb hdg rfl hl k
  · rw [h] at hl k
    exact lv_aload_n hexec hb hdg rfl hl k
end NX
end
section
/-! steps that read or write cells -/
section CE
variable {p : Program} {la : Launch} {e : Env} {R : Room} {s : State} {mid : MethodId} {args : Array Value} {below : List Frame} {meth : Method} {cd : Code} {H : Heap} {locs : List Loc} {cells slots : Nat} {Q : State → Prop}
variable {w : aW} {sc : aX} {M pc : Nat} {ls : Array Slot} {rest : List Value} {g : aG} {m : aM} {cc : ByteArray}
/-- which cells lie ahead -/
theorem az_g0_tags : ∀ a, a < 19 → ∀ t n rs, az_g0[a]? = some (t, n, rs) → (a = 2 ∧ t = 20 ∧ n = 6) ∨ (∃ i, i < 8 ∧ a = 11 + i ∧ t = 21 ∧ n = [3, 3, 5, 4, 4, 5, 4, 4].getD i 0) ∨ (∃ i, i < 8 ∧ a = 3 + i ∧ t = 9 ∧ rs = [12 + i, 0]) ∨ (a < 2 ∧ t = 99) := by
  intro a ha t n rs h
  have h2 : (List.range 19).all (fun a => match az_g0[a]? with
    | some (t, n, rs) => decide (a = 2 ∧ t = 20 ∧ n = 6) || decide (11 ≤ a ∧ a < 19 ∧ t = 21 ∧ n = [3, 3, 5, 4, 4, 5, 4, 4].getD (a - 11) 0) || decide (3 ≤ a ∧ a < 11 ∧ t = 9 ∧ rs = [12 + (a - 3), 0]) || decide (a < 2 ∧ t = 99)
    | none => false) = true := by decide +kernel
  have h3 := List.all_eq_true.mp h2 a (List.mem_range.mpr ha)
  rw [h] at h3
  simp only [Bool.or_eq_true, decide_eq_true_eq] at h3
  rcases h3 with ((h3 | h3) | h3) | h3
  · exact Or.inl h3
  · exact Or.inr (Or.inl ⟨a - 11, by omega, by omega, h3.2.2.1, h3.2.2.2⟩)
  · exact Or.inr (Or.inr (Or.inl ⟨a - 3, by omega, by omega, h3.2.2.1, h3.2.2.2⟩))
  · exact Or.inr (Or.inr (Or.inr h3))
theorem az_abv_ok : ∀ j, j < 6 → (Int32.ofInt (az_abv.getD j 0)).toInt = az_m0 2 (j : Int) := by decide +kernel
theorem az_txt_ok : (List.range 8).all (fun i => (List.range ([3, 3, 5, 4, 4, 5, 4, 4].getD i 0)).all (fun j => decide (((az_byt.getD i []).getD j 0).toInt = az_m0 (11 + i) (j : Int)))) = true := by decide +kernel
/-- a row of ints -/
theorem az_arr {a t n : Nat} {rs : List Nat} (h : az_Rh w sc s H g m) (hg : g[a]? = some (t, n, rs)) (ht : 20 ≤ t ∧ t ≤ 22) : ∃ cell : Cell, H[az_ad w a]? = some cell ∧ s.isArrayOf cell (az_ty t) ∧ cell.vm ≠ .unknown ∧ n ≤ cell.slots.size ∧ cell.slots.size.toInt32 = Int32.ofNat n ∧ n ≤ 2000 ∧ ∀ j : Nat, j < n → ∃ y : Int32, cell.slots[j]? = some (.int y) ∧ y.toInt = m a j := by
  obtain ⟨h1, h2, h3, h4, h5, h6, h7⟩ := h
  by_cases ha : a < 19
  · have hm := (h6 a ha).2
    rw [(h6 a ha).1] at hg
    rcases az_g0_tags a ha t n rs hg with ⟨e1, e2, e3⟩ | ⟨i, hi, e1, e2, e3⟩ | ⟨i, hi, e1, e2, e3⟩ | ⟨e1, e2⟩
    · subst e1; subst e2; subst e3
      obtain ⟨cell, c1, c2, c3, c4, c5, c6, c7⟩ := h2.1
      exact ⟨cell, c1, c2, c3, c4, c5, by omega, fun j hj => ⟨_, c6 j hj, by rw [hm]; exact az_abv_ok j hj⟩⟩
    · obtain ⟨-, -, -, cell, c1, c2, c3, c4, c5, c6, c7⟩ := h2.2.2.2.2.1 i hi
      subst e1; subst e2
      rw [← e3] at c4 c5 c6
      rw [az_ad_lo ha]
      refine ⟨cell, c1, c2, c3, c4, c5, ?_, fun j hj => ⟨_, c6 j hj, ?_⟩⟩
      · have : ∀ i, i < 8 → ([3, 3, 5, 4, 4, 5, 4, 4] : List Nat).getD i 0 ≤ 2000 := by decide
        rw [e3]; exact this i hi
      · have q := List.all_eq_true.mp (List.all_eq_true.mp az_txt_ok i (List.mem_range.mpr hi)) j (List.mem_range.mpr (by rw [← e3]; exact hj))
        rw [hm]
        exact decide_eq_true_eq.mp q
    · omega
    · omega
  · rcases h7 a t n rs (by omega) hg with ⟨h8, -⟩ | ⟨g1, g2, g3, g4, cA, f, g5, g6, g7, g8, g9⟩
    · omega
    · refine ⟨_, g5, g6 n f, fun q => (by cases q), by rw [arrV_size]; exact Nat.le_refl _, by rw [arrV_size], g3, fun j hj => ?_⟩
      obtain ⟨y, hy, hy2⟩ := g8 (by omega) j hj
      exact ⟨y, by rw [arrV_read _ _ hj, hy], hy2⟩
theorem az_ad_ne1 {a : Nat} {t n : Nat} {rs : List Nat} (h : az_Rh w sc s H g m) (hg : g[a]? = some (t, n, rs)) (ht : t ≠ 99) : a ≠ 1 := by
  intro e
  subst e
  rw [(h.2.2.2.2.2.1 1 (by omega)).1] at hg
  rcases az_g0_tags 1 (by omega) t n rs hg with ⟨e1, -⟩ | ⟨i, hi, e1, -⟩ | ⟨i, hi, e1, -⟩ | ⟨-, e2⟩
  all_goals omega
/-- a row of references -/
theorem az_arrq {a t n : Nat} {rs : List Nat} (h : az_Rh w sc s H g m) (hg : g[a]? = some (t, n, rs)) (ht : 23 ≤ t ∧ t ≤ 24) : 19 ≤ a ∧ rs.length = n ∧ n ≤ 2000 ∧ ∃ (cA : ClassId) (f : Nat → Value), H[az_ad w a]? = some (arrV cA n f) ∧ ArrOfT s cA (az_ty t) ∧ va_RA s cA (az_ty t) ∧ ∀ j : Nat, j < n → f j = az_rf w (rs.getD j 0) := by
  by_cases ha : a < 19
  · rw [(h.2.2.2.2.2.1 a ha).1] at hg
    rcases az_g0_tags a ha t n rs hg with ⟨-, e2, -⟩ | ⟨i, hi, -, e2, -⟩ | ⟨i, hi, -, e2, -⟩ | ⟨-, e2⟩
    all_goals omega
  · rcases h.2.2.2.2.2.2 a t n rs (by omega) hg with ⟨h8, -⟩ | ⟨g1, g2, g3, g4, cA, f, g5, g6, g7, g8, g9⟩
    · omega
    · exact ⟨by omega, g4 ht.1, g3, cA, f, g5, g6, g7, g9 ht.1⟩
/-- an object of ours -/
theorem az_obj {a t n : Nat} {rs : List Nat} (h : az_Rh w sc s H g m) (hg : g[a]? = some (t, n, rs)) (ht : t < 9) : 19 ≤ a ∧ rs.length = az_N t ∧ n = az_N t ∧ ∃ fs : List Value, fs.length = az_N t ∧ t_OB (az_ad w a) (w.2.2.2.1 t) (az_N t) (w.2.2.2.2 t) H (vp_V fs) ∧ ∀ k, k < az_N t → az_fv w (az_tc t k) (m a k) (rs.getD k 0) (vp_V fs k) := by
  by_cases ha : a < 19
  · rw [(h.2.2.2.2.2.1 a ha).1] at hg
    rcases az_g0_tags a ha t n rs hg with ⟨-, e2, -⟩ | ⟨i, hi, -, e2, -⟩ | ⟨i, hi, -, e2, -⟩ | ⟨-, e2⟩
    all_goals omega
  · rcases h.2.2.2.2.2.2 a t n rs (by omega) hg with ⟨g1, g2, g3, g4⟩ | ⟨h8, -⟩
    · exact ⟨by omega, g2, g3, g4⟩
    · omega
theorem az_c_iald {a n : Nat} {rs : List Nat} {j : Int32} (X : p.tables.exec = Jvm.exec) (hb : cd.code = cc) (h : az_Rh w sc s H g m) (hg : g[a]? = some (20, n, rs)) (h0 : 0 ≤ j.toInt) (h1 : j.toInt < (n : Int)) (hdg : decode cc pc = .ok (.iaload, 1))
    (k : ∀ z : Int32, z.toInt = m a j.toInt → W p la e R s mid args below meth cd H locs cells slots Q (F0 mid (pc + 1) ls (.int z :: rest))) : W p la e R s mid args below meth cd H locs cells slots Q (F0 mid pc ls (.int j :: az_rf w (a + 1) :: rest)) := by
  rw [az_rf_s (az_ad_ne1 h hg (by omega))]
  obtain ⟨cell, c1, c2, c3, c4, c5, -, c6⟩ := az_arr h hg (by omega)
  obtain ⟨y, y1, y2⟩ := c6 j.toInt.toNat (by omega)
  refine W.iald (v := .int y) X hb c1 c2 c3 (az_n_in h0 (by omega)) (by rw [az_n_cl]; exact y1) rfl rfl hdg (k y ?_)
  rw [y2, Int.toNat_of_nonneg h0]
theorem az_c_sld {L : Nat} {xs : Int → Int} {j : Int32} (X : p.tables.exec = Jvm.exec) (hb : cd.code = cc) (h : az_Rh w (some (L, xs)) s H g m) (h0 : 0 ≤ j.toInt) (h1 : j.toInt < (L : Int)) (hdg : decode cc pc = .ok (.iaload, 1))
    (k : ∀ z : Int32, z.toInt = xs j.toInt → W p la e R s mid args below meth cd H locs cells slots Q (F0 mid (pc + 1) ls (.int z :: rest))) : W p la e R s mid args below meth cd H locs cells slots Q (F0 mid pc ls (.int j :: az_rf w (0 + 1) :: rest)) := by
  rw [az_rf_s (by omega), az_ad_lo (by omega)]
  obtain ⟨x32, ⟨scr, c1, c2, c3, c4, c5⟩, x2, x3, x4⟩ := h.2.2.1 L xs rfl
  refine W.iald (v := .int (x32 j.toInt.toNat)) X hb c1 c2 c3 (az_n_in h0 (by omega)) (by rw [az_n_cl]; exact c5 _ (by omega)) rfl rfl hdg (k _ ?_)
  rw [x2 _ (by omega), Int.toNat_of_nonneg h0]
theorem az_c_bald {a t n : Nat} {rs : List Nat} {j : Int32} (X : p.tables.exec = Jvm.exec) (hb : cd.code = cc) (h : az_Rh w sc s H g m) (hg : g[a]? = some (t, n, rs)) (ht : t = 21 ∨ t = 22) (h0 : 0 ≤ j.toInt) (h1 : j.toInt < (n : Int)) (hdg : decode cc pc = .ok (.baload, 1))
    (k : ∀ z : Int32, z.toInt = m a j.toInt → W p la e R s mid args below meth cd H locs cells slots Q (F0 mid (pc + 1) ls (.int z :: rest))) : W p la e R s mid args below meth cd H locs cells slots Q (F0 mid pc ls (.int j :: az_rf w (a + 1) :: rest)) := by
  rw [az_rf_s (az_ad_ne1 h hg (by omega))]
  obtain ⟨cell, c1, c2, c3, c4, c5, -, c6⟩ := az_arr h hg (by omega)
  obtain ⟨y, y1, y2⟩ := c6 j.toInt.toNat (by omega)
  have hk : y.toInt = m a j.toInt := by rw [y2, Int.toNat_of_nonneg h0]
  rcases ht with rfl | rfl
  · exact W.bald (v := .int y) X hb c1 c2 c3 (az_n_in h0 (by omega)) (by rw [az_n_cl]; exact y1) rfl rfl hdg (k y hk)
  · exact W.zald (v := .int y) X hb c1 c2 c3 (az_n_in h0 (by omega)) (by rw [az_n_cl]; exact y1) rfl rfl hdg (k y hk)
theorem az_c_aald {a t n : Nat} {rs : List Nat} {j : Int32} (X : p.tables.exec = Jvm.exec) (hb : cd.code = cc) (h : az_Rh w sc s H g m) (hg : g[a]? = some (t, n, rs)) (ht : 23 ≤ t ∧ t ≤ 24) (h0 : 0 ≤ j.toInt) (h1 : j.toInt < (n : Int)) (hdg : decode cc pc = .ok (.aaload, 1))
    (k : W p la e R s mid args below meth cd H locs cells slots Q (F0 mid (pc + 1) ls (az_rf w (rs.getD j.toInt.toNat 0) :: rest))) : W p la e R s mid args below meth cd H locs cells slots Q (F0 mid pc ls (.int j :: az_rf w (a + 1) :: rest)) := by
  rw [az_rf_s (az_ad_ne1 h hg (by omega))]
  obtain ⟨ha, -, -, cA, f, c1, c2, -, c3⟩ := az_arrq h hg ht
  have hj : j.toInt.toNat < n := by omega
  refine W.aald (v := az_rf w (rs.getD j.toInt.toNat 0)) X hb c1 (c2 n f) ?_ (fun q => by cases q) (by rw [arrV_size]; exact az_n_in h0 h1) (by rw [az_n_cl, arrV_read _ _ hj, c3 _ hj]) rfl rfl hdg k
  rcases (show t = 23 ∨ t = 24 by omega) with rfl | rfl <;> rfl
theorem az_c_alen {a t n : Nat} {rs : List Nat} (X : p.tables.exec = Jvm.exec) (hb : cd.code = cc) (h : az_Rh w sc s H g m) (hg : g[a]? = some (t, n, rs)) (ht : 20 ≤ t ∧ t ≤ 24) (hdg : decode cc pc = .ok (.arraylength, 1))
    (k : ∀ z : Int32, z.toInt = (n : Int) → W p la e R s mid args below meth cd H locs cells slots Q (F0 mid (pc + 1) ls (.int z :: rest))) : W p la e R s mid args below meth cd H locs cells slots Q (F0 mid pc ls (az_rf w (a + 1) :: rest)) := by
  rw [az_rf_s (az_ad_ne1 h hg (by omega))]
  by_cases h2 : t ≤ 22
  · obtain ⟨cell, c1, c2, c3, c4, c5, c7, c6⟩ := az_arr h hg ⟨ht.1, h2⟩
    exact W.alen X hb c1 c2 c5 rfl rfl hdg (k _ (Int32.toInt_ofNat_of_lt (by omega)))
  · obtain ⟨ha, -, c7, cA, f, c1, c2, -, c3⟩ := az_arrq h hg (by omega)
    exact W.alen (n := Int32.ofNat n) X hb c1 (c2 n f) (by rw [arrV_size]) rfl rfl hdg (k _ (Int32.toInt_ofNat_of_lt (by omega)))
theorem az_c_slen {L : Nat} {xs : Int → Int} (X : p.tables.exec = Jvm.exec) (hb : cd.code = cc) (h : az_Rh w (some (L, xs)) s H g m) (hdg : decode cc pc = .ok (.arraylength, 1))
    (k : ∀ z : Int32, z.toInt = (L : Int) → W p la e R s mid args below meth cd H locs cells slots Q (F0 mid (pc + 1) ls (.int z :: rest))) : W p la e R s mid args below meth cd H locs cells slots Q (F0 mid pc ls (az_rf w (0 + 1) :: rest)) := by
  rw [az_rf_s (by omega), az_ad_lo (by omega)]
  obtain ⟨x32, ⟨scr, c1, c2, c3, c4, c5⟩, x2, x3, x4⟩ := h.2.2.1 L xs rfl
  exact W.alen (n := Int32.ofNat L) X hb c1 c2 (by rw [c4]) rfl rfl hdg (k _ (Int32.toInt_ofNat_of_lt x4))
end CE
end
section
/-! steps that write or make cells -/
theorem az_up_at (m : aM) (a : Nat) (i v : Int) : az_up m a i v a i = v := by simp [az_up]
theorem az_up_i (m : aM) (a : Nat) {i j : Int} (v : Int) (h : j ≠ i) : az_up m a i v a j = m a j := by simp [az_up, h]
theorem az_up_a (m : aM) {a b : Nat} (i v j : Int) (h : b ≠ a) : az_up m a i v b j = m b j := by simp [az_up, h]
section ST
variable {p : Program} {la : Launch} {e : Env} {R : Room} {s : State} {mid : MethodId} {args : Array Value} {below : List Frame} {meth : Method} {cd : Code} {H : Heap} {locs : List Loc} {cells slots : Nat} {Q : State → Prop}
variable {w : aW} {sc : aX} {M pc : Nat} {ls : Array Slot} {rest : List Value} {g : aG} {m : aM} {cc : ByteArray}
theorem az_loc1 {a k : Nat} (ha : 19 ≤ a) (hl : ∀ q ∈ locs, w.1 ≤ q.base) : ∀ q ∈ locs ++ [(⟨az_ad w a, k⟩ : Loc)], w.1 ≤ q.base := by
  intro q hq
  rcases List.mem_append.mp hq with h | h
  · exact hl q h
  · rw [List.mem_singleton.mp h]
    show w.1 ≤ az_ad w a
    rw [az_ad_hi ha]
    omega
/-- the row behind a store -/
theorem az_RC_arr {H' : Heap} {a t n : Nat} {rs : List Nat} {cA : ClassId} {f : Nat → Value} {j : Nat} {x : Int32} (ht : 20 ≤ t ∧ t ≤ 22) (hn : n ≤ 2000) (hA : ArrOfT s cA (az_ty t)) (hRA : va_RA s cA (az_ty t)) (hf : ∀ j : Nat, j < n → ∃ y : Int32, f j = .int y ∧ y.toInt = m a j) (e : H'[az_ad w a]? = some ((arrV cA n f).setSlot j (.int x))) : az_RC w s H' (az_up m a j x.toInt) a t n rs := by
  refine Or.inr ⟨ht.1, by omega, hn, fun h => by omega, cA, updV f j (.int x), by rw [e, arrV_store], hA, hRA, fun _ i hi => ?_, fun h => by omega⟩
  by_cases hij : i = j
  · subst hij
    exact ⟨x, by simp [updV], by rw [az_up_at]⟩
  · obtain ⟨y, h1, h2⟩ := hf i hi
    exact ⟨y, by simp [updV, hij, h1], by rw [az_up_i _ _ _ (by omega)]; exact h2⟩
theorem az_new_arr {a t n : Nat} {rs : List Nat} (h : az_Rh w sc s H g m) (ha : 19 ≤ a) (hg : g[a]? = some (t, n, rs)) (ht : 20 ≤ t ∧ t ≤ 22) : n ≤ 2000 ∧ ∃ (cA : ClassId) (f : Nat → Value), H[az_ad w a]? = some (arrV cA n f) ∧ ArrOfT s cA (az_ty t) ∧ va_RA s cA (az_ty t) ∧ ∀ j : Nat, j < n → ∃ y : Int32, f j = .int y ∧ y.toInt = m a j := by
  rcases h.2.2.2.2.2.2 a t n rs ha hg with ⟨h8, -⟩ | ⟨g1, g2, g3, g4, cA, f, g5, g6, g7, g8, g9⟩
  · omega
  · exact ⟨g3, cA, f, g5, g6, g7, g8 (by omega)⟩
theorem az_c_iast {a n : Nat} {rs : List Nat} {x j : Int32} (X : p.tables.exec = Jvm.exec) (hb : cd.code = cc) (h : az_Rh w sc s H g m) (hl : ∀ q ∈ locs, w.1 ≤ q.base) (ha : 19 ≤ a) (hg : g[a]? = some (20, n, rs)) (h0 : 0 ≤ j.toInt) (h1 : j.toInt < (n : Int)) (hdg : decode cc pc = .ok (.iastore, 1))
    (k : ∀ H' locs', az_Rh w sc s H' g (az_up m a j.toInt x.toInt) → (∀ q ∈ locs', w.1 ≤ q.base) → W p la e R s mid args below meth cd H' locs' cells slots Q (F0 mid (pc + 1) ls rest)) : W p la e R s mid args below meth cd H locs cells slots Q (F0 mid pc ls (.int x :: .int j :: az_rf w (a + 1) :: rest)) := by
  rw [az_rf_s (by omega)]
  obtain ⟨hn, cA, f, c1, c2, c3, c4⟩ := az_new_arr h ha hg (by omega)
  refine W.iast X hb c1 (c2 n f) (fun q => by cases q) (by rw [arrV_size]; exact az_n_in h0 h1) rfl rfl hdg fun H' e z oq => ?_
  refine k H' _ (az_Rh_put h ha hg z oq (fun b i hb => az_up_a _ _ _ _ hb) ?_) (az_loc1 ha hl)
  have := az_RC_arr (m := m) (rs := rs) (by omega) hn c2 c3 c4 e
  rw [az_n_cl, Int.toNat_of_nonneg h0] at this
  exact this
theorem az_nb {x : Int32} (h1 : -128 ≤ x.toInt) (h2 : x.toInt < 128) : narrow .byte (.int x) = .int x := by
  show Value.int x.toInt8.toInt32 = _
  congr 1
  apply Int32.toInt_inj.mp
  rw [Int8.toInt_toInt32, Int32.toInt_toInt8, Int.bmod_eq_of_le (by omega) (by omega)]
theorem az_nz {x : Int32} (h1 : 0 ≤ x.toInt) (h2 : x.toInt < 2) : x = 0 ∨ x = 1 := by
  rcases (show x.toInt = 0 ∨ x.toInt = 1 by omega) with h | h
  · exact Or.inl (Int32.toInt_inj.mp h)
  · exact Or.inr (Int32.toInt_inj.mp h)
theorem az_nzn {x : Int32} (h1 : 0 ≤ x.toInt) (h2 : x.toInt < 2) : narrow .boolean (.int x) = .int x := by
  rcases az_nz h1 h2 with rfl | rfl <;> rfl
theorem az_c_bast {a t n : Nat} {rs : List Nat} {x j : Int32} (X : p.tables.exec = Jvm.exec) (hb : cd.code = cc) (h : az_Rh w sc s H g m) (hl : ∀ q ∈ locs, w.1 ≤ q.base) (ha : 19 ≤ a) (hg : g[a]? = some (t, n, rs)) (ht : (t = 21 ∧ -128 ≤ x.toInt ∧ x.toInt < 128) ∨ (t = 22 ∧ 0 ≤ x.toInt ∧ x.toInt < 2)) (h0 : 0 ≤ j.toInt) (h1 : j.toInt < (n : Int)) (hdg : decode cc pc = .ok (.bastore, 1))
    (k : ∀ H' locs', az_Rh w sc s H' g (az_up m a j.toInt x.toInt) → (∀ q ∈ locs', w.1 ≤ q.base) → W p la e R s mid args below meth cd H' locs' cells slots Q (F0 mid (pc + 1) ls rest)) : W p la e R s mid args below meth cd H locs cells slots Q (F0 mid pc ls (.int x :: .int j :: az_rf w (a + 1) :: rest)) := by
  rw [az_rf_s (by omega)]
  obtain ⟨hn, cA, f, c1, c2, c3, c4⟩ := az_new_arr h ha hg (by omega)
  have key : ∀ (H' : Heap), H'[az_ad w a]? = some ((arrV cA n f).setSlot j.toNatClampNeg (.int x)) → H'.size = H.size → (∀ q, q ≠ az_ad w a → H'[q]? = H[q]?) → az_Rh w sc s H' g (az_up m a j.toInt x.toInt) := fun H' e z oq => by
    refine az_Rh_put h ha hg z oq (fun b i hb => az_up_a _ _ _ _ hb) ?_
    have := az_RC_arr (m := m) (rs := rs) (by omega) hn c2 c3 c4 e
    rw [az_n_cl, Int.toNat_of_nonneg h0] at this
    exact this
  rcases ht with ⟨rfl, t1, t2⟩ | ⟨rfl, t1, t2⟩
  · refine W.bast X hb c1 (c2 n f) (fun q => by cases q) (by rw [arrV_size]; exact az_n_in h0 h1) rfl rfl hdg fun H' e z oq => ?_
    rw [az_nb t1 t2] at e
    exact k H' _ (key H' e z oq) (az_loc1 ha hl)
  · refine W.zast X hb c1 (c2 n f) (fun q => by cases q) (by rw [arrV_size]; exact az_n_in h0 h1) rfl rfl hdg fun H' e z oq => ?_
    rw [az_nzn t1 t2] at e
    exact k H' _ (key H' e z oq) (az_loc1 ha hl)
theorem az_c_aast {a b t n t2 n2 : Nat} {rs rs2 : List Nat} {j : Int32} (X : p.tables.exec = Jvm.exec) (hb : cd.code = cc) (h : az_Rh w sc s H g m) (hl : ∀ q ∈ locs, w.1 ≤ q.base) (ha : 19 ≤ a) (hb2 : 19 ≤ b) (hg : g[a]? = some (t, n, rs)) (hg2 : g[b]? = some (t2, n2, rs2)) (ht : (t = 23 ∧ t2 = 5) ∨ (t = 24 ∧ t2 = 1)) (h0 : 0 ≤ j.toInt) (h1 : j.toInt < (n : Int)) (hdg : decode cc pc = .ok (.aastore, 1))
    (k : ∀ H' locs', az_Rh w sc s H' (g.set a (t, n, rs.set j.toInt.toNat (b + 1))) m → (∀ q ∈ locs', w.1 ≤ q.base) → W p la e R s mid args below meth cd H' locs' cells slots Q (F0 mid (pc + 1) ls rest)) : W p la e R s mid args below meth cd H locs cells slots Q (F0 mid pc ls (az_rf w (b + 1) :: .int j :: az_rf w (a + 1) :: rest)) := by
  rw [az_rf_s (show a ≠ 1 by omega), az_rf_s (show b ≠ 1 by omega)]
  obtain ⟨-, hrl, hn, cA, f, c1, c2, c3, c4⟩ := az_arrq h hg (by omega)
  obtain ⟨-, -, -, fs, -, ⟨cellV, g1, g2, g3, -⟩, -⟩ := az_obj h hg2 (by omega)
  have hcls : ClassAt s (az_R t2) (w.2.2.2.1 t2) := (h.1.1 t2 _ (az_cls_at (by omega))).2
  have hty : az_ty t = .object (az_R t2) := by rcases ht with ⟨rfl, rfl⟩ | ⟨rfl, rfl⟩ <;> rfl
  have c3' := c3
  rw [hty] at c3
  obtain ⟨kA, comp, k1, k2, k3, -⟩ := c3
  have hcomp : comp = w.2.2.2.1 t2 := Option.some.inj (k3.symm.trans hcls.1)
  subst hcomp
  obtain ⟨kC, hkC, -⟩ := hcls.2
  have hj : j.toInt.toNat < n := by omega
  refine W.aast X hb c1 (fun q h => by cases h) (fun h => by cases h) k1 k2 rfl hkC ⟨az_n_pos h0, by rw [arrV_size, az_n_cl]; exact hj⟩ g1 (fun q h => by rw [g3] at h; cases h) (by rw [g2]; exact hkC) (by rw [g2]; exact va_assign hcls) rfl rfl hdg fun H' e z oq => ?_
  refine k H' _ (az_Rh_set h ha hg z oq (fun _ _ _ => rfl) (Or.inr ⟨by omega, by omega, hn, fun _ => by rw [List.length_set]; exact hrl, cA, updV f j.toInt.toNat (.ref (az_ad w b)), by rw [e, arrV_store, az_n_cl], c2, c3', fun q => by omega, fun _ i hi => ?_⟩)) (az_loc1 ha hl)
  by_cases hij : i = j.toInt.toNat
  · subst hij
    rw [List.getD_eq_getElem?_getD, List.getElem?_set_self (show j.toInt.toNat < rs.length by omega)]
    show _ = az_rf w (b + 1)
    rw [az_rf_s (show b ≠ 1 by omega)]
    unfold updV
    rw [if_pos rfl]
  · simp only [updV, if_neg hij, List.getD_eq_getElem?_getD, List.getElem?_set_ne (Ne.symm hij)]
    have := c4 i hi
    rwa [List.getD_eq_getElem?_getD] at this
/-- a field of ours is read -/
theorem az_c_get {a t n k x : Nat} {rs : List Nat} {own : String} (X : p.tables.exec = Jvm.exec) (hb : cd.code = cc) (h : az_Rh w sc s H g m) (hts : ∀ v ∈ az_good, v.before args s = true) (hown : s.vm.findClass own = some mid.cls) (hg : g[a]? = some (t, n, rs)) (ht : t < 9) (hk : k < az_N t) (hlink : (Cond.fieldLink own x (az_R t) (az_T t k).2.1 (az_T t k).2.2.1).before args s = true) (hdecl : (az_T t k).1 = az_R t) (hdg : decode cc pc = .ok (.getfield x, 3))
    (K : ∀ v : Value, az_fv w (az_tc t k) (m a k) (rs.getD k 0) v → W p la e R s mid args below meth cd H locs cells slots Q (F0 mid (pc + 3) ls (v :: rest))) : W p la e R s mid args below meth cd H locs cells slots Q (F0 mid pc ls (az_rf w (a + 1) :: rest)) := by
  obtain ⟨ha, -, -, fs, hfl, hob, hfv⟩ := az_obj h hg ht
  rw [az_rf_s (by omega)]
  have hP : va_P w.2.2.2 az_cls [(az_ad w a, .inr (t, fs))] H := fun i q hq => by
    cases i with
    | zero => cases hq; exact ⟨_, az_cls_at ht, hob⟩
    | succ i => simp at hq
  have hv : fs[k]? = some (vp_V fs k) := by
    rw [vp_V, List.getD_eq_getElem?_getD, List.getElem?_eq_getElem (by omega)]
    rfl
  exact va_get X hb hts (az_lay_in ht) hown h.1 hP 0 rfl (az_cls_at ht) k hk hlink (fun q hq => by rw [← hdecl]; exact hq) hv hdg (K _ (hfv k hk))
/-- a field of ours is written -/
theorem az_c_put {a t n k x r' : Nat} {rs rs' : List Nat} {z' : Int} {own : String} {v : Value} (X : p.tables.exec = Jvm.exec) (hb : cd.code = cc) (h : az_Rh w sc s H g m) (hl : ∀ q ∈ locs, w.1 ≤ q.base) (hts : ∀ v ∈ az_good, v.before args s = true) (hown : s.vm.findClass own = some mid.cls) (ha : 19 ≤ a) (hg : g[a]? = some (t, n, rs)) (ht : t < 9) (hk : k < az_N t) (hlink : (Cond.fieldLink own x (az_R t) (az_T t k).2.1 (az_T t k).2.2.1).before args s = true) (hdecl : (az_T t k).1 = az_R t)
    (hfin : (az_T t k).2.2.2 = false ∨ (meth.name = "<init>" ∧ (az_T t k).1 = own)) (hn : narrow (az_t t k) v = v) (hfit : fits (az_t t k) v = true) (hdg : decode cc pc = .ok (.putfield x, 3))
    (hz : az_fv w (az_tc t k) z' r' v) (hrs : rs' = rs.set k r' ∨ (rs' = rs ∧ az_tc t k ≠ 2)) {m' : aM} (hm : ∀ (b : Nat) (j : Int), b ≠ a → m' b j = m b j) (hm2 : ∀ j : Nat, j ≠ k → m' a j = m a j) (hm3 : az_tc t k ≠ 2 → m' a k = z')
    (K : ∀ H' locs', az_Rh w sc s H' (g.set a (t, n, rs')) m' → (∀ q ∈ locs', w.1 ≤ q.base) → W p la e R s mid args below meth cd H' locs' cells slots Q (F0 mid (pc + 3) ls rest)) : W p la e R s mid args below meth cd H locs cells slots Q (F0 mid pc ls (v :: az_rf w (a + 1) :: rest)) := by
  obtain ⟨-, hrl, hnn, fs, hfl, ⟨cell, q1, q2, q3, q4⟩, hfv⟩ := az_obj h hg ht
  rw [az_rf_s (show a ≠ 1 by omega)]
  have hap := va_apart (own := own) hts (az_lay_in ht) (az_t t) (fun k hk => az_ty_at ht hk) (az_nm_at ht) h.1 (az_cls_at ht)
  obtain ⟨hS, hfc, kC, hkC, hkind⟩ := h.1.1 t _ (az_cls_at ht)
  obtain ⟨cf, kf, fi, f, hi, hsl⟩ := hS k hk
  have hlay := hts _ (az_lay_in ht _ (u_in_lay hk))
  have hst := (u_facts hfc hkC (u_lays hts (az_lay_in ht) hk) hi).1
  have hi2 : s.fieldFound? (az_R t) (az_T t k).2.1 (az_T t k).2.2.1 = some (cf, kf, fi, f) := by rw [← hdecl]; exact hi
  have fin : ∀ H' : Heap, H'[az_ad w a]? = some (cell.setSlot f.slot v) → H'.size = H.size → (∀ q, q ≠ az_ad w a → H'[q]? = H[q]?) → az_Rh w sc s H' (g.set a (t, n, rs')) m' := fun H' e1 e2 e3 => by
    rw [hsl] at e1
    have hrl' : rs'.length = az_N t := by
      rcases hrs with rfl | ⟨rfl, -⟩
      · rw [List.length_set]; exact hrl
      · exact hrl
    refine az_Rh_set h ha hg e2 e3 hm (Or.inl ⟨ht, hrl', hnn, fs.set k v, by rw [List.length_set]; exact hfl, t_OB.to (V := updV (vp_V fs) k v) ⟨_, e1, q2, q3, t_set q4 hap hk v⟩ (fun j _ => vp_updV_set (by omega) v j), fun j hj => ?_⟩)
    rw [← vp_updV_set (by omega) v j]
    by_cases hjk : j = k
    · subst hjk
      have : updV (vp_V fs) j v j = v := by simp [updV]
      rw [this]
      unfold az_fv at hz ⊢
      by_cases h2 : az_tc t j = 2
      · have h1 : ¬ az_tc t j = 1 := by omega
        rw [if_neg h1, if_pos h2] at hz ⊢
        rcases hrs with rfl | ⟨-, hx⟩
        · rw [List.getD_eq_getElem?_getD, List.getElem?_set_self (by omega)]
          exact hz
        · exact absurd h2 hx
      · rw [hm3 h2]
        split at hz
        · next h1 => rw [if_pos h1]; exact hz
        · next h1 =>
          rw [if_neg h1, if_neg h2]
          exact hz
    · have : updV (vp_V fs) k v j = vp_V fs j := by simp [updV, hjk]
      rw [this, hm2 j hjk]
      have hr2 : rs'.getD j 0 = rs.getD j 0 := by
        rcases hrs with rfl | ⟨rfl, -⟩
        · rw [List.getD_eq_getElem?_getD, List.getElem?_set_ne (Ne.symm hjk), List.getD_eq_getElem?_getD]
        · rfl
      rw [hr2]
      exact hfv j hj
  have hslot : f.slot < cell.slots.size := by rw [hsl]; exact k2_hasslot (q4 k hk)
  unfold u_lay at hlay
  by_cases hF : (az_T t k).2.2.2 = true
  · obtain ⟨hin2, hdo⟩ := hfin.resolve_left (by rw [hF]; decide)
    rw [if_pos hF] at hlay
    have hcf : mid.cls = cf := by
      obtain ⟨_, _, c', _, _, _, -, -, hf', -, -, -, hown2, -⟩ := Cond.laysFinal_spec hlay
      have e1 : c' = cf := by have := hi.symm.trans hf'; simp at this; exact this.1.symm
      rw [hdo] at hown2
      rw [← e1]; exact Option.some.inj (hown.symm.trans hown2)
    have h6 := u_fits hfc hkC hkind (Or.inr hlay) hi (az_ty_at ht hk) hn hfit
    refine W.putFinK X hb hown hlink hi2 hst hcf hin2 (by rw [q2]; exact h6) q1 q3 hslot rfl rfl hdg fun H' e1 e2 e3 => ?_
    exact K H' _ (fin H' e1 e2 e3) (az_loc1 ha hl)
  · rw [if_neg hF] at hlay
    have h6 := u_store hfc hkC hkind hlay hi (az_ty_at ht hk) hn hfit
    refine W.putK X hb (f := f) ⟨hown, hlink, ⟨_, _, _, hi2⟩, hst⟩ (by rw [q2]; exact h6) q1 q3 hslot rfl rfl hdg fun H' e1 e2 e3 => ?_
    exact K H' _ (fin H' e1 e2 e3) (az_loc1 ha hl)
end ST
end
section
/-! steps that make cells; the JDK's own rows -/
section MK
variable {p : Program} {la : Launch} {e : Env} {R : Room} {s : State} {mid : MethodId} {args : Array Value} {below : List Frame} {meth : Method} {cd : Code} {H : Heap} {locs : List Loc} {cells slots : Nat} {Q : State → Prop}
variable {w : aW} {sc : aX} {M pc : Nat} {ls : Array Slot} {rest : List Value} {g : aG} {m : aM} {cc : ByteArray}
theorem az_bl_at (m : aM) (a : Nat) (j : Int) : az_bl m a a j = 0 := by simp [az_bl]
/-- the default of a field -/
theorem az_def_ok : (List.range 9).all (fun c => (List.range (az_N c)).all (fun k => decide ((az_tc c k = 1 ∧ defaultValue (az_t c k) = .long 0) ∨ (az_tc c k = 2 ∧ defaultValue (az_t c k) = .null) ∨ (az_tc c k ≠ 1 ∧ az_tc c k ≠ 2 ∧ defaultValue (az_t c k) = .int 0)))) = true := by decide +kernel
theorem az_def {c k : Nat} (hc : c < 9) (hk : k < az_N c) : az_fv w (az_tc c k) 0 0 (defaultValue (az_t c k)) := by
  have h := List.all_eq_true.mp (List.all_eq_true.mp az_def_ok c (List.mem_range.mpr hc)) k (List.mem_range.mpr hk)
  rw [decide_eq_true_eq] at h
  unfold az_fv
  rcases h with ⟨h1, h2⟩ | ⟨h1, h2⟩ | ⟨h1, h2, h3⟩
  · rw [if_pos h1, h2]; exact ⟨0, rfl, rfl⟩
  · rw [if_neg (by omega), if_pos h1, h2]; rfl
  · rw [if_neg h1, if_neg h2, h3]; exact ⟨0, rfl, rfl⟩
theorem az_c_new {t x : Nat} {own : String} (X : p.tables.exec = Jvm.exec) (hb : cd.code = cc) (h : az_Rh w sc s H g m) (hts : ∀ v ∈ az_good, v.before args s = true) (hown : s.vm.findClass own = some mid.cls) (ht : t < 9) (h1 : (Cond.classLink own x (az_R t)).before args s = true) (h2 : (Cond.instantiable (az_R t) (az_N t)).before args s = true) (h3 : (Cond.initialized (az_R t)).before args s = true) (hc : cells + 1 ≤ R.cells) (hs : slots + az_N t ≤ R.slots) (hdg : decode cc pc = .ok (.new x, 3))
    (K : ∀ H', az_Rh w sc s H' (g ++ [(t, az_N t, List.replicate (az_N t) 0)]) (az_bl m g.length) → W p la e R s mid args below meth cd H' locs (cells + 1) (slots + az_N t) Q (F0 mid (pc + 3) ls (az_rf w (g.length + 1) :: rest))) : W p la e R s mid args below meth cd H locs cells slots Q (F0 mid pc ls rest) := by
  have hKn := h.1.1 t _ (az_cls_at ht)
  refine W.newcK X hb hown h1 h2 h3 rfl hdg hc hs hKn.2.1 rfl fun H' kC hkC e1 z1 o1 => ?_
  have hob := u_born (az_t t) hts (az_lay_in ht) hKn hkC e1 (fun k hk => az_ty_at ht hk)
  have had := az_ad_new h
  have h4 := h.2.2.2.1
  have := K H' (az_Rh_push h z1 o1 (Or.inl ⟨ht, by simp, rfl, (List.range (az_N t)).map (fun k => defaultValue (az_t t k)), by simp, by rw [had]; exact t_OB.to hob (fun k hk => by simp [vp_V, List.getD_eq_getElem?_getD, hk]), fun k hk => by
    have e1 : vp_V ((List.range (az_N t)).map (fun k => defaultValue (az_t t k))) k = defaultValue (az_t t k) := by simp [vp_V, List.getD_eq_getElem?_getD, hk]
    have e2 : (List.replicate (az_N t) 0).getD k 0 = 0 := by simp [List.getD_eq_getElem?_getD, hk]
    rw [e1, e2, az_bl_at]
    exact az_def ht hk⟩))
  rw [az_rf_s (by omega), had] at this
  exact this
theorem az_c_newa {at_ : ArrayType} {t : Nat} {n : Int32} (X : p.tables.exec = Jvm.exec) (hb : cd.code = cc) (h : az_Rh w sc s H g m) (ht : (t = 20 ∧ at_ = .int) ∨ (t = 21 ∧ at_ = .byte) ∨ (t = 22 ∧ at_ = .boolean)) (ha : (Cond.arrayClass (newarray.typeOf at_)).before args s = true) (h0 : 0 ≤ n.toInt) (h1 : n.toInt ≤ 2000) (hc : cells + 1 ≤ R.cells) (hs : slots + n.toInt.toNat ≤ R.slots) (hdg : decode cc pc = .ok (.newarray at_, 2))
    (K : ∀ H', az_Rh w sc s H' (g ++ [(t, n.toInt.toNat, [])]) (az_bl m g.length) → W p la e R s mid args below meth cd H' locs (cells + 1) (slots + n.toInt.toNat) Q (F0 mid (pc + 2) ls (az_rf w (g.length + 1) :: rest))) : W p la e R s mid args below meth cd H locs cells slots Q (F0 mid pc ls (.int n :: rest)) := by
  have hty : newarray.typeOf at_ = az_ty t := by rcases ht with ⟨rfl, rfl⟩ | ⟨rfl, rfl⟩ | ⟨rfl, rfl⟩ <;> rfl
  have hb2 : componentBytes (newarray.typeOf at_) ≤ 4 := by rcases ht with ⟨rfl, rfl⟩ | ⟨rfl, rfl⟩ | ⟨rfl, rfl⟩ <;> decide
  have hd : defaultValue (newarray.typeOf at_) = .int 0 := by rcases ht with ⟨rfl, rfl⟩ | ⟨rfl, rfl⟩ | ⟨rfl, rfl⟩ <;> rfl
  have hbytes : n.toInt.toNat * componentBytes (newarray.typeOf at_) ≤ 536870912 := Nat.le_trans (Nat.mul_le_mul (show n.toInt.toNat ≤ 2000 by omega) hb2) (by decide)
  refine va_newaK X hb ha rfl hdg rfl (az_n_pos h0) az_n_cl hbytes hc hs rfl fun H' cA e1 z1 o1 hAr hNm => ?_
  have had := az_ad_new h
  have h4 := h.2.2.2.1
  have := K H' (az_Rh_push h z1 o1 (Or.inr ⟨by omega, by omega, by omega, fun q => by omega, cA, _, by rw [had]; exact e1, by rw [← hty]; exact hAr, by
    rw [← hty]
    rcases ht with ⟨rfl, rfl⟩ | ⟨rfl, rfl⟩ | ⟨rfl, rfl⟩ <;> exact hNm, fun _ j hj => ⟨0, hd, by rw [az_bl_at]; rfl⟩, fun q => by omega⟩))
  rw [az_rf_s (by omega), had] at this
  exact this
theorem az_c_newq {t x : Nat} {n : Int32} {own C : String} (X : p.tables.exec = Jvm.exec) (hb : cd.code = cc) (h : az_Rh w sc s H g m) (hown : s.vm.findClass own = some mid.cls) (ht : (t = 23 ∧ C = "LastSun$Row") ∨ (t = 24 ∧ C = "LastSun$Beach")) (h2 : (Cond.classLink own x C).before args s = true) (h3 : va_AO C s) (h0 : 0 ≤ n.toInt) (h1 : n.toInt ≤ 2000) (hc : cells + 1 ≤ R.cells) (hs : slots + n.toInt.toNat ≤ R.slots) (hdg : decode cc pc = .ok (.anewarray x, 3))
    (K : ∀ H', az_Rh w sc s H' (g ++ [(t, n.toInt.toNat, List.replicate n.toInt.toNat 0)]) (az_bl m g.length) → W p la e R s mid args below meth cd H' locs (cells + 1) (slots + n.toInt.toNat) Q (F0 mid (pc + 3) ls (az_rf w (g.length + 1) :: rest))) : W p la e R s mid args below meth cd H locs cells slots Q (F0 mid pc ls (.int n :: rest)) := by
  have hty : az_ty t = .object C := by rcases ht with ⟨rfl, rfl⟩ | ⟨rfl, rfl⟩ <;> rfl
  refine W.anew X hb hown h2 (va_AO.use h3) rfl hdg rfl (az_n_pos h0) (by rw [az_n_cl]; omega) hc (by rw [az_n_cl]; exact hs) fun cA kA comp f1 f2 f3 f4 => ?_
  rw [az_n_cl]
  generalize hH1 : H.push ({ cls := cA, slots := Array.replicate n.toInt.toNat .null, vm := .none } : Cell) = H'
  have z1 : H'.size = H.size + 1 := by rw [← hH1, Array.size_push]
  have e1 : H'[H.size]? = some (arrV cA n.toInt.toNat (fun _ => .null)) := by rw [← hH1, Array.getElem?_push_size, ← arrV_new]
  have o1 : ∀ q : Nat, q < H.size → H'[q]? = H[q]? := fun q hq => by rw [← hH1, Array.getElem?_push, if_neg (Nat.ne_of_lt hq)]
  have had := az_ad_new h
  have h4 := h.2.2.2.1
  have := K H' (az_Rh_push h z1 o1 (Or.inr ⟨by omega, by omega, by omega, fun _ => by simp, cA, _, by rw [had]; exact e1, by rw [hty]; exact fun n z => ⟨fun k h => (by cases h), kA, f2, comp, f3⟩, by rw [hty]; exact ⟨kA, comp, f2, f3, f4, f1⟩, fun q => by omega, fun _ j hj => by
    have e2 : (List.replicate n.toInt.toNat 0).getD j 0 = 0 := by simp only [List.getD_eq_getElem?_getD, List.getElem?_replicate, if_pos hj]; rfl
    rw [e2]
    rfl⟩))
  rw [az_rf_s (by omega), had] at this
  exact this
theorem az_c_cpy {x a d n0 n1 : Nat} {rs rs2 : List Nat} {n dp sp : Int32} {own : String} (X : p.tables.exec = Jvm.exec) (hb : cd.code = cc) (hml : cd.maxLocals = ls.size) (h : az_Rh w sc s H g m) (hl : ∀ q ∈ locs, w.1 ≤ q.base) (hown : s.vm.findClass own = some mid.cls) (q1 : (Cond.methodLink own x arraycopyName).before args s = true) (q2 : (Cond.native arraycopyName).before args s = true) (q3 : (Cond.static arraycopyName).before args s = true) (q4 : (Cond.initialized "java/lang/System").before args s = true)
    (ha : 19 ≤ a) (hd : 19 ≤ d) (hg : g[a]? = some (20, n0, rs)) (hg2 : g[d]? = some (20, n1, rs2)) (hn : 0 ≤ n.toInt) (hsp : 0 ≤ sp.toInt) (hdp : 0 ≤ dp.toInt) (h1 : sp.toInt + n.toInt ≤ (n0 : Int)) (h2 : dp.toInt + n.toInt ≤ (n1 : Int)) (hf : 1 ≤ R.frames) (hlo : (rest.map fun v => v.category).sum + (nativeFrameWords "java/lang/System" "arraycopy" 5 + 11) ≤ R.locals) (hdg : decode cc pc = .ok (.invokestatic x, 3))
    (K : ∀ H' locs', az_Rh w sc s H' g (az_cp m a sp.toInt d dp.toInt n.toInt) → (∀ q ∈ locs', w.1 ≤ q.base) → W p la e R s mid args below meth cd H' locs' cells slots Q (F0 mid (pc + 3) ls rest)) : W p la e R s mid args below meth cd H locs cells slots Q (F0 mid pc ls (.int n :: .int dp :: az_rf w (d + 1) :: .int sp :: az_rf w (a + 1) :: rest)) := by
  rw [az_rf_s (show a ≠ 1 by omega), az_rf_s (show d ≠ 1 by omega)]
  obtain ⟨-, cA, f, c1, c2, c3, c4⟩ := az_new_arr h ha hg (by omega)
  obtain ⟨hn1, cB, f2, d1, d2, d3, d4⟩ := az_new_arr h hd hg2 (by omega)
  intro T hT XX
  obtain ⟨-, k0, hk0, cm0, hkk0⟩ := c2 n0 f
  obtain ⟨-, k1, hk1, cm1, hkk1⟩ := d2 n1 f2
  have fit : ∀ i : Nat, i < n.toNatClampNeg → (arrV cA n0 f).slots.getD (sp.toNatClampNeg + i) .null = f (sp.toNatClampNeg + i) := fun i hi => by
    rw [Array.getD_eq_getD_getElem?, arrV_read _ _ (by rw [az_n_cl] at hi ⊢; omega)]
    rfl
  obtain ⟨vm', X', step⟩ := XX.arraycopy X hown q1 q2 q3 q4 (src := az_ad w a) (dst := az_ad w d) (cs := arrV cA n0 f) (cd := arrV cB n1 f2) (srcPos := sp) (destPos := dp) (n := n) (by rw [hT]; exact c1) (by rw [hT]; exact d1)
    (fun _ h => by cases h) (fun _ h => by cases h) (fun h => by cases h) (fun h => by cases h) hk0 hk1 hkk0 hkk1 (by simp [refKind, az_ty]) (az_n_pos hsp) (az_n_pos hdp) (az_n_pos hn)
    (by rw [arrV_size]; omega) (by rw [arrV_size]; omega)
    (fun vm₁ _ i hi => by
      obtain ⟨y, hy, -⟩ := c4 (sp.toNatClampNeg + i) (by rw [az_n_cl] at hi ⊢; omega)
      rw [fit i hi, hy]
      exact ⟨rfl, trivial⟩)
    (g := F0 mid pc ls (.int n :: .int dp :: .ref (az_ad w d) :: .int sp :: .ref (az_ad w a) :: rest)) rfl (by rw [hml]) (rest := rest) rfl (by rw [hb]; exact hdg) hf (by show 2 * 0 + _ + _ ≤ _; omega)
  have e1 : copied (arrV cA n0 f) (arrV cB n1 f2) sp dp n = arrV cB n1 (va_cpy f f2 sp.toNatClampNeg dp.toNatClampNeg n.toNatClampNeg) := va_copied (fun z => z) cA cB f f2 (by simp only [az_n_cl]; omega)
  rw [e1] at X' step
  have hlt : az_ad w d < H.size := (Array.getElem?_eq_some_iff.mp d1).1
  have hheap : ((T.setVm vm').setCell (az_ad w d) (arrV cB n1 (va_cpy f f2 sp.toNatClampNeg dp.toNatClampNeg n.toNatClampNeg))).heap = H.setIfInBounds (az_ad w d) (arrV cB n1 (va_cpy f f2 sp.toNatClampNeg dp.toNatClampNeg n.toNatClampNeg)) := by rw [← hT]; rfl
  have oq : ∀ q : Nat, q ≠ az_ad w d → (H.setIfInBounds (az_ad w d) (arrV cB n1 (va_cpy f f2 sp.toNatClampNeg dp.toNatClampNeg n.toNatClampNeg)))[q]? = H[q]? := fun q hq => by simp [Array.getElem?_setIfInBounds, Ne.symm hq]
  obtain ⟨t, a1, b1⟩ := K _ _ (az_Rh_put h hd hg2 (by simp) oq (fun b j hb => by simp [az_cp, hb]) (Or.inr ⟨by omega, by omega, hn1, fun q => by omega, cB, va_cpy f f2 sp.toNatClampNeg dp.toNatClampNeg n.toNatClampNeg, (show (H.setIfInBounds (az_ad w d) _)[az_ad w d]? = some _ by simp [Array.getElem?_setIfInBounds, hlt]), d2, d3, fun _ j hj => by
      simp only [va_cpy, az_cp, az_n_cl]
      by_cases hin : dp.toInt.toNat ≤ j ∧ j < dp.toInt.toNat + n.toInt.toNat
      · rw [if_pos hin, if_pos ⟨trivial, by omega, by omega⟩]
        obtain ⟨y, hy, hy2⟩ := c4 (sp.toInt.toNat + (j - dp.toInt.toNat)) (by omega)
        refine ⟨y, hy, ?_⟩
        rw [hy2]
        congr 1
        omega
      · rw [if_neg hin, if_neg (by omega)]
        exact d4 j hj, fun q => by omega⟩)) (fun q hq => by
      rcases List.mem_append.mp hq with h5 | h5
      · exact hl q h5
      · obtain ⟨z, -, hz⟩ := List.mem_map.mp h5
        rw [← hz]
        show w.1 ≤ az_ad w d
        rw [az_ad_hi hd]
        omega) _ hheap X'
  exact ⟨t, step t a1, b1⟩
theorem az_c_str {i x : Nat} (X : p.tables.exec = Jvm.exec) (hb : cd.code = cc) (h : az_Rh w sc s H g m) {a n t : Nat} {rs : List Nat} (hg : g[a]? = some (9, n, rs)) {own : String} (hown : s.vm.findClass own = some mid.cls) (hdg : decode cc pc = .ok (.getfield x, 3))
    (hk : (i = 0 ∧ t = 2 ∧ (Cond.fieldLink own x "java/lang/String" "value" "[B").before args s = true) ∨ (i = 1 ∧ t = 0 ∧ (Cond.fieldLink own x "java/lang/String" "coder" "B").before args s = true))
    (K : ∀ v : Value, az_fv w t (m a i) (rs.getD i 0) v → W p la e R s mid args below meth cd H locs cells slots Q (F0 mid (pc + 3) ls (v :: rest))) : W p la e R s mid args below meth cd H locs cells slots Q (F0 mid pc ls (az_rf w (a + 1) :: rest)) := by
  have ha : a < 19 := Nat.not_le.mp fun ha => by
    rcases h.2.2.2.2.2.2 a 9 n rs ha hg with ⟨h8, -⟩ | ⟨h8, -⟩ <;> omega
  rw [az_rf_s (az_ad_ne1 h hg (by omega)), az_ad_lo ha]
  have hm := (h.2.2.2.2.2.1 a ha).2
  rw [(h.2.2.2.2.2.1 a ha).1] at hg
  rcases az_g0_tags a ha 9 n rs hg with ⟨-, e2, -⟩ | ⟨i, hi, -, e2, -⟩ | ⟨j, hj, e1, -, e3⟩ | ⟨-, e2⟩
  · omega
  · omega
  · obtain ⟨-, hco, hva, -⟩ := h.2.1.2.2.2.2.1 j hj
    subst e1
    rcases hk with ⟨rfl, rfl, hlk⟩ | ⟨rfl, rfl, hlk⟩
    · obtain ⟨cf, k, fi, f, cell, h1, h2, h3, h4, h5, h6⟩ := hva
      refine W.getf X hb hown hlk h1 h2 h3 h4 (v := .ref (w.2.1 (11 + j))) h5 rfl rfl hdg (K _ ?_)
      unfold az_fv
      rw [if_neg (by omega), if_pos rfl, e3]
      show _ = az_rf w (12 + j)
      rw [show 12 + j = (11 + j) + 1 by omega, az_rf_s (by omega), az_ad_lo (by omega)]
    · obtain ⟨cf, k, fi, f, cell, h1, h2, h3, h4, h5, h6⟩ := hco
      refine W.getf X hb hown hlk h1 h2 h3 h4 (v := .int 0) h5 rfl rfl hdg (K _ ?_)
      unfold az_fv
      rw [if_neg (by omega), if_neg (by omega), hm]
      refine ⟨0, rfl, ?_⟩
      unfold az_m0
      rw [if_neg (show ¬ (3 + j = 2) by omega), if_neg (show ¬ (11 ≤ 3 + j ∧ 3 + j < 19) by omega)]
      rfl
  · omega
end MK
end
section
/-! types of fields; calls that are no calls of ours -/
def az_tyk (tc : Nat) (ty : FieldType) : Bool := match tc with
  | 0 => decide (ty = .int)
  | 1 => decide (ty = .long)
  | 2 => (match ty with
    | .object _ => true
    | .array _ => true
    | _ => false)
  | _ => decide (tc = 3 ∧ ty = .boolean)
theorem az_tyk_ok : (List.range 9).all (fun c => (List.range (az_N c)).all (fun k => az_tyk (az_tc c k) (az_t c k))) = true := by decide +kernel
theorem az_tcty {c k : Nat} (hc : c < 9) (hk : k < az_N c) : az_tyk (az_tc c k) (az_t c k) = true := List.all_eq_true.mp (List.all_eq_true.mp az_tyk_ok c (List.mem_range.mpr hc)) k (List.mem_range.mpr hk)
theorem az_fit_i {tc : Nat} {t : FieldType} {z : Int32} (h : az_tyk tc t = true) (hz : tc = 0 ∨ (tc = 3 ∧ 0 ≤ z.toInt ∧ z.toInt < 2)) : narrow t (.int z) = .int z ∧ fits t (.int z) = true := by
  rcases hz with rfl | ⟨rfl, h1, h2⟩
  · have ht : t = .int := by simpa [az_tyk] using h
    subst ht
    exact ⟨rfl, rfl⟩
  · have ht : t = .boolean := by simpa [az_tyk] using h
    subst ht
    rcases az_nz h1 h2 with rfl | rfl <;> exact ⟨rfl, rfl⟩
theorem az_fit_l {tc : Nat} {t : FieldType} {z : Int64} (h : az_tyk tc t = true) (hz : tc = 1) : narrow t (.long z) = .long z ∧ fits t (.long z) = true := by
  subst hz
  have ht : t = .long := by simpa [az_tyk] using h
  subst ht
  exact ⟨rfl, rfl⟩
theorem az_fit_r {w : aW} (hw : az_wok w) {tc : Nat} {t : FieldType} {r : Nat} (h : az_tyk tc t = true) (hz : tc = 2) : narrow t (az_rf w r) = az_rf w r ∧ fits t (az_rf w r) = true := by
  subst hz
  rcases az_rf_or hw r with e | ⟨a, e⟩ <;> rw [e] <;> cases t <;> first | exact ⟨rfl, rfl⟩ | simp [az_tyk] at h
section IV
variable {p : Program} {la : Launch} {e : Env} {R : Room} {s : State} {mid : MethodId} {args : Array Value} {below : List Frame} {meth : Method} {cd : Code} {H : Heap} {locs : List Loc} {cells slots : Nat} {Q : State → Prop}
variable {w : aW} {sc : aX} {M pc : Nat} {ls : Array Slot} {xs rest : List Value} {l l' : aL} {st st' : aS} {g g' : aG} {m m' : aM} {cc : ByteArray} {c0 s0 : Nat} {f : List Int}
theorem az_i_inv (h : az_inv l st g m f = some (.inl (l', st', g', m'))) : (∃ q1 q2 a, f = [0, q1, q2] ∧ st = .inr (.inr (a + 1)) :: st' ∧ 19 ≤ a ∧ st'.length ≤ 4 ∧ l' = l ∧ g' = g ∧ m' = m) ∨ (∃ q, f = 9 :: q ∧ az_cpy l st g m = some (.inl (l', st', g', m'))) ∨
    (∃ k q, f = 7 :: k :: q ∧ l' = l ∧ g' = g ∧ m' = m ∧ ((∃ y x s1, st = .inl y :: .inl x :: s1 ∧ s1.length ≤ 4 ∧ ((k = 0 ∧ st' = .inl (if x < y then y else x) :: s1) ∨ (k = 1 ∧ st' = .inl (if y < x then y else x) :: s1))) ∨ (∃ y x s1, st = .inr (.inl y) :: .inr (.inl x) :: s1 ∧ s1.length ≤ 4 ∧ k = 2 ∧ st' = .inr (.inl (if x < y then y else x)) :: s1))) := by
  unfold az_inv at h
  split at h
  · next q1 q2 =>
    split at h
    · next a s1 =>
      split at h
      · next hc =>
        obtain ⟨h1, h2, h3, h4⟩ := az_i_nx h
        subst h2
        exact Or.inl ⟨q1, q2, a, rfl, rfl, hc.1, hc.2, h1, h3, h4⟩
      · cases h
    · cases h
  · next q => exact Or.inr (Or.inl ⟨q, rfl, h⟩)
  · next k q =>
    refine Or.inr (Or.inr ⟨k, q, rfl, ?_⟩)
    split at h
    · next y x s1 =>
      split at h
      · next hs =>
        split at h
        · next hk =>
          obtain ⟨h1, h2, h3, h4⟩ := az_i_nx h
          exact ⟨h1, h3, h4, Or.inl ⟨y, x, s1, rfl, hs, Or.inl ⟨hk, h2⟩⟩⟩
        · split at h
          · next hk =>
            obtain ⟨h1, h2, h3, h4⟩ := az_i_nx h
            exact ⟨h1, h3, h4, Or.inl ⟨y, x, s1, rfl, hs, Or.inr ⟨hk, h2⟩⟩⟩
          · cases h
      · cases h
    · next y x s1 =>
      split at h
      · next hs =>
        obtain ⟨h1, h2, h3, h4⟩ := az_i_nx h
        exact ⟨h1, h3, h4, Or.inr ⟨y, x, s1, rfl, hs.1, hs.2, h2⟩⟩
      · cases h
    · cases h
  · split at h
    · split at h
      · simp at h
      · split at h
        · split at h
          · split at h
            · simp at h
            · cases h
          · cases h
        · cases h
    · cases h
  · cases h
theorem az_obj_code : Cond.code Lib.objectInit ⟨#[0xb1]⟩ 1 none ∈ az_good := List.mem_filter.mpr ⟨List.mem_of_getElem? (i := 89) (by decide +kernel), rfl⟩
theorem az_c_inv1 {x : Nat} (hx : p.tables.exec = Jvm.exec) (hb : cd.code = az_by M) (hml : cd.maxLocals = az_ml M) (hown : s.vm.findClass (az_y M).cls = some mid.cls) (hts : ∀ w ∈ az_good, w.before args s = true) (hw : az_wok w) (hR : M + 1 ≤ R.frames ∧ 64 * (M + 1) ≤ R.locals) (hcs : c0 ≤ g.length ∧ s0 ≤ az_sl g) (hrm : g'.length - c0 ≤ R.cells ∧ az_sl g' - s0 ≤ R.slots) (hRh : az_Rh w sc s H g m) (hl : ∀ q ∈ locs, w.1 ≤ q.base) (hL : az_LR w ls (az_ml M) l) (hSt : az_SR w xs st)
    (hres : az_res M pc (.invokevirtual x) f = true) (hst : az_step sc M (.invokevirtual x) f l st g m = some (.inl (l', st', g', m'))) (hd : decode (az_by M) pc = .ok (.invokevirtual x, 3))
    (K : ∀ H' locs' ls' xs', az_Rh w sc s H' g' m' → (∀ q ∈ locs', w.1 ≤ q.base) → az_LR w ls' (az_ml M) l' → az_SR w xs' st' → W p la e R s mid args below meth cd H' locs' (g'.length - c0) (az_sl g' - s0) Q (F0 mid (pc + 3) ls' xs')) : W p la e R s mid args below meth cd H locs (g.length - c0) (az_sl g - s0) Q (F0 mid pc ls xs) := by
  have hres : az_invk M (az_y M).cls x 1 f = true := hres
  rcases az_i_inv hst with ⟨q1, q2, a, rfl, -⟩ | ⟨q, rfl, -⟩ | ⟨k, q, rfl, -⟩
  · simp [az_invk] at hres
  · rcases q with _ | ⟨q1, _ | ⟨q2, _ | ⟨q3, _ | ⟨q4, _ | ⟨q5, _ | ⟨q6, _ | ⟨q7, _ | ⟨q8, q9⟩⟩⟩⟩⟩⟩⟩⟩ <;> simp [az_invk, az_invc] at hres
  · rcases q with _ | ⟨q1, _ | ⟨q2, _ | ⟨q3, _ | ⟨q4, _ | ⟨q5, _ | ⟨q6, _ | ⟨q7, _ | ⟨q8, q9⟩⟩⟩⟩⟩⟩⟩⟩ <;> simp [az_invk, az_invc] at hres
theorem az_c_inv3 {x : Nat} (hx : p.tables.exec = Jvm.exec) (hb : cd.code = az_by M) (hml : cd.maxLocals = az_ml M) (hown : s.vm.findClass (az_y M).cls = some mid.cls) (hts : ∀ w ∈ az_good, w.before args s = true) (hw : az_wok w) (hR : M + 1 ≤ R.frames ∧ 64 * (M + 1) ≤ R.locals) (hcs : c0 ≤ g.length ∧ s0 ≤ az_sl g) (hrm : g'.length - c0 ≤ R.cells ∧ az_sl g' - s0 ≤ R.slots) (hRh : az_Rh w sc s H g m) (hl : ∀ q ∈ locs, w.1 ≤ q.base) (hL : az_LR w ls (az_ml M) l) (hSt : az_SR w xs st)
    (hres : az_res M pc (.invokespecial x) f = true) (hst : az_step sc M (.invokespecial x) f l st g m = some (.inl (l', st', g', m'))) (hd : decode (az_by M) pc = .ok (.invokespecial x, 3))
    (K : ∀ H' locs' ls' xs', az_Rh w sc s H' g' m' → (∀ q ∈ locs', w.1 ≤ q.base) → az_LR w ls' (az_ml M) l' → az_SR w xs' st' → W p la e R s mid args below meth cd H' locs' (g'.length - c0) (az_sl g' - s0) Q (F0 mid (pc + 3) ls' xs')) : W p la e R s mid args below meth cd H locs (g.length - c0) (az_sl g - s0) Q (F0 mid pc ls xs) := by
  have hres : az_invk M (az_y M).cls x 3 f = true := hres
  rcases az_i_inv hst with ⟨q1, q2, a, rfl, rfl, ha, hal, rfl, rfl, rfl⟩ | ⟨q, rfl, -⟩ | ⟨k, q, rfl, -⟩
  · simp only [az_invk, Bool.and_eq_true] at hres
    obtain ⟨xs1, rfl, h1⟩ := az_SR_R hSt
    rw [az_rf_s (by omega)]
    have hwd := az_SR_words hw h1
    refine W.objInit hx hb hown (hts _ (az_hw_in hres.1.2)) (hts _ (az_hw_in hres.2)) (hts _ az_obj_code) (g := F0 mid pc ls (.ref (az_ad w a) :: xs1)) rfl (by rw [hml]; exact hL.1) rfl hd (by omega) (by show 2 * 0 + _ + 12 ≤ _; omega) ?_
    exact K _ _ _ _ hRh hl hL h1
  · rcases q with _ | ⟨q1, _ | ⟨q2, _ | ⟨q3, _ | ⟨q4, _ | ⟨q5, _ | ⟨q6, _ | ⟨q7, _ | ⟨q8, q9⟩⟩⟩⟩⟩⟩⟩⟩ <;> simp [az_invk, az_invc] at hres
  · rcases q with _ | ⟨q1, _ | ⟨q2, _ | ⟨q3, _ | ⟨q4, _ | ⟨q5, _ | ⟨q6, _ | ⟨q7, _ | ⟨q8, q9⟩⟩⟩⟩⟩⟩⟩⟩ <;> simp [az_invk, az_invc] at hres
theorem az_nfw : nativeFrameWords "java/lang/System" "arraycopy" 5 ≤ 40 := by decide +kernel
theorem az_c_inv2 {x : Nat} (hx : p.tables.exec = Jvm.exec) (hb : cd.code = az_by M) (hml : cd.maxLocals = az_ml M) (hown : s.vm.findClass (az_y M).cls = some mid.cls) (hts : ∀ w ∈ az_good, w.before args s = true) (hw : az_wok w) (hR : M + 1 ≤ R.frames ∧ 64 * (M + 1) ≤ R.locals) (hcs : c0 ≤ g.length ∧ s0 ≤ az_sl g) (hrm : g'.length - c0 ≤ R.cells ∧ az_sl g' - s0 ≤ R.slots) (hRh : az_Rh w sc s H g m) (hl : ∀ q ∈ locs, w.1 ≤ q.base) (hL : az_LR w ls (az_ml M) l) (hSt : az_SR w xs st)
    (hres : az_res M pc (.invokestatic x) f = true) (hst : az_step sc M (.invokestatic x) f l st g m = some (.inl (l', st', g', m'))) (hd : decode (az_by M) pc = .ok (.invokestatic x, 3))
    (K : ∀ H' locs' ls' xs', az_Rh w sc s H' g' m' → (∀ q ∈ locs', w.1 ≤ q.base) → az_LR w ls' (az_ml M) l' → az_SR w xs' st' → W p la e R s mid args below meth cd H' locs' (g'.length - c0) (az_sl g' - s0) Q (F0 mid (pc + 3) ls' xs')) : W p la e R s mid args below meth cd H locs (g.length - c0) (az_sl g - s0) Q (F0 mid pc ls xs) := by
  have hres : az_invk M (az_y M).cls x 2 f = true := hres
  rcases az_i_inv hst with ⟨q1, q2, a, rfl, -⟩ | ⟨q, rfl, hcp⟩ | ⟨k, q, rfl, rfl, rfl, rfl, hh⟩
  · simp [az_invk] at hres
  · obtain ⟨n, dp, d, sp, a, t, n0, rs, t2, n1, rs2, rfl, hg, hg2, ha, hdd, rfl, rfl, k1, k2, k3, k4, k5, k6, rfl, rfl, rfl⟩ := az_i_cpy hcp
    obtain ⟨z1, xs1, rfl, rfl, h1⟩ := az_SR_I hSt
    obtain ⟨z2, xs2, rfl, rfl, h2⟩ := az_SR_I h1
    obtain ⟨xs3, rfl, h3⟩ := az_SR_R h2
    obtain ⟨z4, xs4, rfl, rfl, h4⟩ := az_SR_I h3
    obtain ⟨xs5, rfl, h5⟩ := az_SR_R h4
    have hwd := az_SR_words hw h5
    have hnf := az_nfw
    have hq : ∃ q1 q2 q3 q4, q = [q1, q2, q3, q4] ∧ az_hw q1 (.methodLink (az_y M).cls x arraycopyName) = true ∧ az_hw q2 (.native arraycopyName) = true ∧ az_hw q3 (.static arraycopyName) = true ∧ az_hw q4 (.initialized "java/lang/System") = true := by
      rcases q with _ | ⟨q1, _ | ⟨q2, _ | ⟨q3, _ | ⟨q4, _ | ⟨q5, _ | ⟨q6, _ | ⟨q7, _ | ⟨q8, q9⟩⟩⟩⟩⟩⟩⟩⟩ <;> simp [az_invk, az_invc] at hres
      exact ⟨q1, q2, q3, q4, rfl, hres.1.1.1, hres.1.1.2, hres.1.2, hres.2⟩
    obtain ⟨q1, q2, q3, q4, -, c1, c2, c3, c4⟩ := hq
    exact az_c_cpy hx hb (by rw [hml]; exact hL.1.symm) hRh hl hown (hts _ (az_hw_in c1)) (hts _ (az_hw_in c2)) (hts _ (az_hw_in c3)) (hts _ (az_hw_in c4)) ha hdd hg hg2 k1 k2 k3 k4 k5 (by omega) (by omega) hd (fun H2 locs2 r1 r2 => K _ _ _ _ r1 r2 hL h5)
  · have hq : ∃ q1 q2 q3 q4, q = [q1, q2, q3, q4] ∧ az_hw q3 (.initialized "java/lang/Math") = true ∧
        ((k = 0 → az_hw q1 (.methodLink (az_y M).cls x Lib.Math.max.name) = true ∧ az_hw q2 (.static Lib.Math.max.name) = true ∧ az_hw q4 (.code Lib.Math.max.name Lib.Math.max.code 2 (some .int)) = true) ∧
         (k = 1 → az_hw q1 (.methodLink (az_y M).cls x Lib.Math.min.name) = true ∧ az_hw q2 (.static Lib.Math.min.name) = true ∧ az_hw q4 (.code Lib.Math.min.name Lib.Math.min.code 2 (some .int)) = true) ∧
         (k = 2 → az_hw q1 (.methodLink (az_y M).cls x Lib.MathLoose.max_long.x) = true ∧ az_hw q2 (.static Lib.MathLoose.max_long.x) = true ∧ az_hw q4 (.code Lib.MathLoose.max_long.x Lib.MathLoose.max_long.code 4 (some .long)) = true)) := by
      rcases q with _ | ⟨q1, _ | ⟨q2, _ | ⟨q3, _ | ⟨q4, _ | ⟨q5, _ | ⟨q6, _ | ⟨q7, _ | ⟨q8, q9⟩⟩⟩⟩⟩⟩⟩⟩ <;> simp [az_invk, az_invc] at hres
      refine ⟨q1, q2, q3, q4, rfl, hres.1, fun e => ?_, fun e => ?_, fun e => ?_⟩ <;> subst e <;> simp at hres
      · exact ⟨hres.2.1.1, hres.2.1.2, hres.2.2⟩
      · exact ⟨hres.2.1.1, hres.2.1.2, hres.2.2⟩
      · exact ⟨hres.2.1.1, hres.2.1.2, hres.2.2⟩
    obtain ⟨q1, q2, q3, q4, -, ci, cq0, cq1, cq2⟩ := hq
    rcases hh with ⟨y, x2, s1, rfl, hs, ⟨rfl, rfl⟩ | ⟨rfl, rfl⟩⟩ | ⟨y, x2, s1, rfl, hs, rfl, rfl⟩
    · obtain ⟨zy, xs1, rfl, rfl, h1⟩ := az_SR_I hSt
      obtain ⟨zx, xs2, rfl, rfl, h2⟩ := az_SR_I h1
      have hwd := az_SR_words hw h2
      obtain ⟨c1, c2, c3⟩ := cq0 rfl
      refine va_mmax hx hb (by rw [hml]; exact hL.1.symm) hown (hts _ (az_hw_in c1)) (hts _ (az_hw_in c2)) (hts _ (az_hw_in ci)) (hts _ (az_hw_in c3)) (by omega) (by omega) hrm.1 hrm.2 hd (K _ _ _ _ hRh hl hL ?_)
      rw [← az_n_max]
      exact az_SR_i _ h2
    · obtain ⟨zy, xs1, rfl, rfl, h1⟩ := az_SR_I hSt
      obtain ⟨zx, xs2, rfl, rfl, h2⟩ := az_SR_I h1
      have hwd := az_SR_words hw h2
      obtain ⟨c1, c2, c3⟩ := cq1 rfl
      refine va_mmin hx hb (by rw [hml]; exact hL.1.symm) hown (hts _ (az_hw_in c1)) (hts _ (az_hw_in c2)) (hts _ (az_hw_in ci)) (hts _ (az_hw_in c3)) (by omega) (by omega) hrm.1 hrm.2 hd (K _ _ _ _ hRh hl hL ?_)
      rw [← az_n_min]
      exact az_SR_i _ h2
    · obtain ⟨zy, xs1, rfl, rfl, h1⟩ := az_SR_L hSt
      obtain ⟨zx, xs2, rfl, rfl, h2⟩ := az_SR_L h1
      have hwd := az_SR_words hw h2
      obtain ⟨c1, c2, c3⟩ := cq2 rfl
      refine va_mmax_long hx hb (by rw [hml]; exact hL.1.symm) hown (hts _ (az_hw_in c1)) (hts _ (az_hw_in c2)) (hts _ (az_hw_in ci)) (hts _ (az_hw_in c3)) (by omega) (by omega) hrm.1 hrm.2 hd (K _ _ _ _ hRh hl hL ?_)
      rw [← az_n_maxL]
      exact az_SR_l _ h2
end IV
end
section
/-! ONE STEP: all instructions that go on to the next -/
section NS
variable {p : Program} {la : Launch} {e : Env} {R : Room} {s : State} {mid : MethodId} {args : Array Value} {below : List Frame} {meth : Method} {cd : Code} {H : Heap} {locs : List Loc} {cells slots : Nat} {Q : State → Prop}
variable {w : aW} {sc : aX} {M pc : Nat} {ls : Array Slot} {xs rest : List Value} {l l' : aL} {st st' : aS} {g g' : aG} {m m' : aM} {cc : ByteArray} {c0 s0 : Nat} {f : List Int}
theorem az_c_if2 {c : ClassFile.Cond} {x y : Int32} {off : Int} {tgt : Nat} (hx : p.tables.exec = Jvm.exec) (hb : cd.code = cc) (hd : decode cc pc = .ok (.if_icmp c off, 3)) (ht : (pc : Int) + off = (tgt : Int))
    (kt : az_cnd c x.toInt y.toInt = true → W p la e R s mid args below meth cd H locs cells slots Q (F0 mid tgt ls rest)) (kf : az_cnd c x.toInt y.toInt = false → W p la e R s mid args below meth cd H locs cells slots Q (F0 mid (pc + 3) ls rest)) : W p la e R s mid args below meth cd H locs cells slots Q (F0 mid pc ls (.int y :: .int x :: rest)) := by
  cases c with
  | eq => exact lv_icmp_eq hx hb hd ht (fun h => kt (by simp only [az_cnd, decide_eq_true_eq]; exact congrArg Int32.toInt h)) (fun h => kf (by simp only [az_cnd, decide_eq_false_iff_not]; exact fun q => h (Int32.toInt_inj.mp q)))
  | ne => exact lv_icmp_ne hx hb hd ht (fun h => kt (by simp only [az_cnd, decide_eq_true_eq]; exact fun q => h (Int32.toInt_inj.mp q))) (fun h => kf (by simp only [az_cnd, decide_eq_false_iff_not]; exact fun q => q (congrArg Int32.toInt h)))
  | lt => exact lv_icmp_lt hx hb hd ht (fun h => kt (by simp only [az_cnd, decide_eq_true_eq]; exact Int32.lt_iff_toInt_lt.mp h)) (fun h => kf (by simp only [az_cnd, decide_eq_false_iff_not]; exact fun q => h (Int32.lt_iff_toInt_lt.mpr q)))
  | ge => exact lv_icmp_ge hx hb hd ht (fun h => kt (by simp only [az_cnd, decide_eq_true_eq]; exact Int32.le_iff_toInt_le.mp h)) (fun h => kf (by simp only [az_cnd, decide_eq_false_iff_not]; exact fun q => h (Int32.le_iff_toInt_le.mpr q)))
  | gt => exact lv_icmp_gt hx hb hd ht (fun h => kt (by simp only [az_cnd, decide_eq_true_eq]; exact Int32.lt_iff_toInt_lt.mp h)) (fun h => kf (by simp only [az_cnd, decide_eq_false_iff_not]; exact fun q => h (Int32.lt_iff_toInt_lt.mpr q)))
  | le => exact lv_icmp_le hx hb hd ht (fun h => kt (by simp only [az_cnd, decide_eq_true_eq]; exact Int32.le_iff_toInt_le.mp h)) (fun h => kf (by simp only [az_cnd, decide_eq_false_iff_not]; exact fun q => h (Int32.le_iff_toInt_le.mpr q)))
theorem az_c_if1 {c : ClassFile.Cond} {x : Int32} {off : Int} {tgt : Nat} (hx : p.tables.exec = Jvm.exec) (hb : cd.code = cc) (hd : decode cc pc = .ok (.ifCond c off, 3)) (ht : (pc : Int) + off = (tgt : Int))
    (kt : az_cnd c x.toInt 0 = true → W p la e R s mid args below meth cd H locs cells slots Q (F0 mid tgt ls rest)) (kf : az_cnd c x.toInt 0 = false → W p la e R s mid args below meth cd H locs cells slots Q (F0 mid (pc + 3) ls rest)) : W p la e R s mid args below meth cd H locs cells slots Q (F0 mid pc ls (.int x :: rest)) := by
  have z : (0 : Int32).toInt = 0 := rfl
  rw [← z] at kt kf
  cases c with
  | eq => exact lv_if_eq hx hb hd ht (fun h => kt (by simp only [az_cnd, decide_eq_true_eq]; exact congrArg Int32.toInt h)) (fun h => kf (by simp only [az_cnd, decide_eq_false_iff_not]; exact fun q => h (Int32.toInt_inj.mp q)))
  | ne => exact lv_if_ne hx hb hd ht (fun h => kt (by simp only [az_cnd, decide_eq_true_eq]; exact fun q => h (Int32.toInt_inj.mp q))) (fun h => kf (by simp only [az_cnd, decide_eq_false_iff_not]; exact fun q => q (congrArg Int32.toInt h)))
  | lt => exact lv_if_lt hx hb hd ht (fun h => kt (by simp only [az_cnd, decide_eq_true_eq]; exact Int32.lt_iff_toInt_lt.mp h)) (fun h => kf (by simp only [az_cnd, decide_eq_false_iff_not]; exact fun q => h (Int32.lt_iff_toInt_lt.mpr q)))
  | ge => exact lv_if_ge hx hb hd ht (fun h => kt (by simp only [az_cnd, decide_eq_true_eq]; exact Int32.le_iff_toInt_le.mp h)) (fun h => kf (by simp only [az_cnd, decide_eq_false_iff_not]; exact fun q => h (Int32.le_iff_toInt_le.mpr q)))
  | gt => exact lv_if_gt hx hb hd ht (fun h => kt (by simp only [az_cnd, decide_eq_true_eq]; exact Int32.lt_iff_toInt_lt.mp h)) (fun h => kf (by simp only [az_cnd, decide_eq_false_iff_not]; exact fun q => h (Int32.lt_iff_toInt_lt.mpr q)))
  | le => exact lv_if_le hx hb hd ht (fun h => kt (by simp only [az_cnd, decide_eq_true_eq]; exact Int32.le_iff_toInt_le.mp h)) (fun h => kf (by simp only [az_cnd, decide_eq_false_iff_not]; exact fun q => h (Int32.le_iff_toInt_le.mpr q)))
theorem az_tail (L : aW → Prop) (h : L w) : L w := h
set_option maxHeartbeats 4000000 in
theorem az_next {i : Instr} (X : az_Cx M p s mid args meth cd) (hw : az_wok w) (hTt : az_Tt w s) (hR : M + 1 ≤ R.frames ∧ 64 * (M + 1) ≤ R.locals) (hcs : c0 ≤ g.length ∧ s0 ≤ az_sl g) (hrm : g'.length - c0 ≤ R.cells ∧ az_sl g' - s0 ≤ R.slots) (hdec : az_dec (az_by M) pc i = true) (hres : az_res M pc i f = true) (hst : az_step sc M i f l st g m = some (.inl (l', st', g', m')))
    (hRh : az_Rh w sc s H g m) (hl : ∀ q ∈ locs, w.1 ≤ q.base) (hL : az_LR w ls (az_ml M) l) (hSt : az_SR w xs st)
    (K : ∀ H' locs' ls' xs', az_Rh w sc s H' g' m' → (∀ q ∈ locs', w.1 ≤ q.base) → az_LR w ls' (az_ml M) l' → az_SR w xs' st' → W p la e R s mid args below meth cd H' locs' (g'.length - c0) (az_sl g' - s0) Q (F0 mid (pc + az_len i) ls' xs')) : W p la e R s mid args below meth cd H locs (g.length - c0) (az_sl g - s0) Q (F0 mid pc ls xs) := by
  obtain ⟨hx, hb, hml, hown, hts, hnm⟩ := X
  cases i with
  | iconst n =>
    have hd := az_dec_ok hdec (by simp [az_len])
    simp only [az_res, decide_eq_true_eq] at hres
    obtain ⟨rfl, rfl, rfl, rfl⟩ := az_i_nx hst
    exact lv_iconst hx hb hd rfl (K _ _ _ _ hRh hl hL ⟨⟨_, rfl, az_n_lit (by omega) (by omega)⟩, hSt⟩)
  | bipush n =>
    have hd := az_dec_ok hdec (by simp [az_len])
    simp only [az_res, decide_eq_true_eq] at hres
    obtain ⟨rfl, rfl, rfl, rfl⟩ := az_i_nx hst
    exact lv_bipush hx hb hd rfl (K _ _ _ _ hRh hl hL ⟨⟨_, rfl, az_n_lit8 (by omega) (by omega)⟩, hSt⟩)
  | sipush n =>
    have hd := az_dec_ok hdec (by simp [az_len])
    simp only [az_res, decide_eq_true_eq] at hres
    obtain ⟨rfl, rfl, rfl, rfl⟩ := az_i_nx hst
    exact lv_sipush hx hb hd rfl (K _ _ _ _ hRh hl hL ⟨⟨_, rfl, az_n_lit16 (by omega) (by omega)⟩, hSt⟩)
  | lconst n =>
    have hd := az_dec_ok hdec (by simp [az_len])
    obtain ⟨rfl, rfl, rfl, rfl⟩ := az_i_nx hst
    refine lv_lconst hx hb hd rfl (K _ _ _ _ hRh hl hL ?_)
    have e : ((n.val : Nat) : Int) = (Int64.ofNat n.val).toInt := by rcases n with ⟨_ | _ | n, hn⟩ <;> first | rfl | omega
    rw [e]
    exact az_SR_l _ hSt
  | ldc x =>
    have hd := az_dec_ok hdec (by simp [az_len])
    obtain ⟨v, q, rfl, rfl, rfl, ⟨rfl, rfl⟩ | ⟨rfl, rfl⟩⟩ := az_i_ldc hst
    · rcases q with _ | ⟨q, _ | ⟨q2, q3⟩⟩ <;> simp only [az_res, Bool.and_eq_true, az_r32, decide_eq_true_eq] at hres
      · cases hres
      · exact lv_ldc hx hb hown (hts _ (az_hw_in hres.2)) hd (K _ _ _ _ hRh hl hL ⟨⟨_, rfl, az_n_lit hres.1.1 hres.1.2⟩, hSt⟩)
      · cases hres
    · rcases q with _ | ⟨q, _ | ⟨q2, q3⟩⟩ <;> simp only [az_res, decide_eq_true_eq] at hres
      · cases hres
      · obtain ⟨h1, h2, h3, h4⟩ := hres
        rw [List.getElem?_map] at h4
        cases hz : az_six[v.toNat - 3]? with
        | none => rw [hz] at h4; cases h4
        | some z =>
          rw [hz] at h4
          cases h4
          have hv := hTt.2.1 _ z hz
          rw [show 3 + (v.toNat - 3) = v.toNat by omega] at hv
          refine va_ldcS hx hb (own := "LastSun$Tape") (by rw [← h1]; exact hown) hv hd ?_
          have := az_SR_r (v.toNat + 1) hSt
          have e := az_rf_s (w := w) (show v.toNat ≠ 1 by omega)
          rw [az_ad_lo (by omega)] at e
          rw [← e]
          exact K _ _ _ _ hRh hl hL this
      · cases hres
  | ldc_w x =>
    have hd := az_dec_ok hdec (by simp [az_len])
    obtain ⟨v, q, rfl, rfl, rfl, ⟨rfl, rfl⟩ | ⟨rfl, rfl⟩⟩ := az_i_ldc hst
    · rcases q with _ | ⟨q, _ | ⟨q2, q3⟩⟩ <;> simp only [az_res, Bool.and_eq_true, az_r32, decide_eq_true_eq] at hres
      · cases hres
      · exact lv_ldcw hx hb hown (hts _ (az_hw_in hres.2)) hd (K _ _ _ _ hRh hl hL ⟨⟨_, rfl, az_n_lit hres.1.1 hres.1.2⟩, hSt⟩)
      · cases hres
    · rcases q with _ | ⟨q, _ | ⟨q2, q3⟩⟩ <;> simp [az_res] at hres
  | ldc2_w x =>
    have hd := az_dec_ok hdec (by simp [az_len])
    obtain ⟨v, q, rfl, rfl, rfl, rfl, rfl⟩ := az_i_ldc2 hst
    rcases q with _ | ⟨q, _ | ⟨q2, q3⟩⟩ <;> simp only [az_res, Bool.and_eq_true, az_r64, decide_eq_true_eq] at hres
    · cases hres
    · exact lv_ldc2 hx hb hown (hts _ (az_hw_in hres.2)) hd (K _ _ _ _ hRh hl hL ⟨⟨_, rfl, az_n_litL hres.1.1 hres.1.2⟩, hSt⟩)
    · cases hres
  | iload_n k =>
    have hd := az_dec_ok hdec (by simp [az_len])
    obtain ⟨x, h1, rfl, rfl, rfl, rfl⟩ := az_i_ldI hst
    obtain ⟨z, h2, rfl⟩ := az_x_ldI hL h1
    exact lv_iload_n hx hb hd rfl h2 (K _ _ _ _ hRh hl hL (az_SR_i _ hSt))
  | iload k =>
    have hd := az_dec_ok hdec (by simp [az_len])
    obtain ⟨x, h1, rfl, rfl, rfl, rfl⟩ := az_i_ldI hst
    obtain ⟨z, h2, rfl⟩ := az_x_ldI hL h1
    exact lv_iload hx hb hd h2 (K _ _ _ _ hRh hl hL (az_SR_i _ hSt))
  | lload_n k =>
    have hd := az_dec_ok hdec (by simp [az_len])
    obtain ⟨x, h1, rfl, rfl, rfl, rfl⟩ := az_i_ldL hst
    obtain ⟨z, h2, rfl⟩ := az_x_ldL hL h1
    exact lv_lload_n hx hb hd rfl h2 (K _ _ _ _ hRh hl hL (az_SR_l _ hSt))
  | lload k =>
    have hd := az_dec_ok hdec (by simp [az_len])
    obtain ⟨x, h1, rfl, rfl, rfl, rfl⟩ := az_i_ldL hst
    obtain ⟨z, h2, rfl⟩ := az_x_ldL hL h1
    exact lv_lload hx hb hd h2 (K _ _ _ _ hRh hl hL (az_SR_l _ hSt))
  | aload_n k =>
    have hd := az_dec_ok hdec (by simp [az_len])
    obtain ⟨x, h1, rfl, rfl, rfl, rfl⟩ := az_i_ldA hst
    exact az_aload_n hx hb hw hd (az_x_ldA hL h1) (K _ _ _ _ hRh hl hL (az_SR_r _ hSt))
  | aload k =>
    have hd := az_dec_ok hdec (by simp [az_len])
    obtain ⟨x, h1, rfl, rfl, rfl, rfl⟩ := az_i_ldA hst
    exact az_aload hx hb hw hd (az_x_ldA hL h1) (K _ _ _ _ hRh hl hL (az_SR_r _ hSt))
  | istore_n k =>
    have hd := az_dec_ok hdec (by simp [az_len])
    obtain ⟨x, rfl, hk, rfl, rfl, rfl⟩ := az_i_stI hst
    obtain ⟨z, xs1, rfl, rfl, h1⟩ := az_SR_I hSt
    exact lv_istore_n hx hb hd rfl (az_lv_has hL.1 hL.2.1) (by rw [← hL.2.2.1]; exact hk) rfl (fun ls2 h2 => K _ _ _ _ hRh hl (az_LR_st1 hw hL ⟨z, rfl, rfl⟩ h2) h1)
  | lstore_n k =>
    have hd := az_dec_ok hdec (by simp [az_len])
    obtain ⟨x, rfl, hk, rfl, rfl, rfl⟩ := az_i_stL hst
    obtain ⟨z, xs1, rfl, rfl, h1⟩ := az_SR_L hSt
    exact lv_lstore_n hx hb hd rfl (az_lv_has hL.1 hL.2.1) (by rw [← hL.2.2.1]; exact hk) rfl (fun ls2 h2 => K _ _ _ _ hRh hl (az_LR_st2 hw hL hk ⟨z, rfl, rfl⟩ h2) h1)
  | astore_n k =>
    have hd := az_dec_ok hdec (by simp [az_len])
    obtain ⟨x, rfl, hk, rfl, rfl, rfl⟩ := az_i_stA hst
    obtain ⟨xs1, rfl, h1⟩ := az_SR_R hSt
    rcases az_rf_or hw x with e1 | ⟨a1, e1⟩
    · rw [e1]
      exact lv_astore_nN hx hb hd rfl (az_lv_has hL.1 hL.2.1) (by rw [← hL.2.2.1]; exact hk) rfl (fun ls2 h2 => K _ _ _ _ hRh hl (az_LR_st1 hw hL e1.symm h2) h1)
    · rw [e1]
      exact lv_astore_n hx hb hd rfl (az_lv_has hL.1 hL.2.1) (by rw [← hL.2.2.1]; exact hk) rfl (fun ls2 h2 => K _ _ _ _ hRh hl (az_LR_st1 hw hL e1.symm h2) h1)
  | istore k =>
    have hd := az_dec_ok hdec (by simp [az_len])
    obtain ⟨x, rfl, hk, rfl, rfl, rfl⟩ := az_i_stI hst
    obtain ⟨z, xs1, rfl, rfl, h1⟩ := az_SR_I hSt
    exact lv_istore hx hb hd (az_lv_has hL.1 hL.2.1) (by rw [← hL.2.2.1]; exact hk) rfl (fun ls2 h2 => K _ _ _ _ hRh hl (az_LR_st1 hw hL ⟨z, rfl, rfl⟩ h2) h1)
  | lstore k =>
    have hd := az_dec_ok hdec (by simp [az_len])
    obtain ⟨x, rfl, hk, rfl, rfl, rfl⟩ := az_i_stL hst
    obtain ⟨z, xs1, rfl, rfl, h1⟩ := az_SR_L hSt
    exact lv_lstore hx hb hd (az_lv_has hL.1 hL.2.1) (by rw [← hL.2.2.1]; exact hk) rfl (fun ls2 h2 => K _ _ _ _ hRh hl (az_LR_st2 hw hL hk ⟨z, rfl, rfl⟩ h2) h1)
  | astore k =>
    have hd := az_dec_ok hdec (by simp [az_len])
    obtain ⟨x, rfl, hk, rfl, rfl, rfl⟩ := az_i_stA hst
    obtain ⟨xs1, rfl, h1⟩ := az_SR_R hSt
    rcases az_rf_or hw x with e1 | ⟨a1, e1⟩
    · rw [e1]
      exact lv_astoreN hx hb hd (az_lv_has hL.1 hL.2.1) (by rw [← hL.2.2.1]; exact hk) rfl (fun ls2 h2 => K _ _ _ _ hRh hl (az_LR_st1 hw hL e1.symm h2) h1)
    · rw [e1]
      exact lv_astore hx hb hd (az_lv_has hL.1 hL.2.1) (by rw [← hL.2.2.1]; exact hk) rfl (fun ls2 h2 => K _ _ _ _ hRh hl (az_LR_st1 hw hL e1.symm h2) h1)
  | iinc k c =>
    have hd := az_dec_ok hdec (by simp [az_len])
    simp only [az_res, decide_eq_true_eq] at hres
    obtain ⟨x, h1, rfl, rfl, rfl, rfl⟩ := az_i_iinc hst
    obtain ⟨z, h2, rfl⟩ := az_x_ldI hL h1
    obtain ⟨q, hq⟩ := List.getElem?_of_mem (az_lv_mem h2)
    refine lv_iinc hx hb hd (az_lv_has hL.1 hL.2.1) hq rfl (by rw [← hL.1]; exact (Array.getElem?_eq_some_iff.mp h2).1) rfl (fun ls2 h3 => K _ _ _ _ hRh hl (az_LR_st1 hw hL ⟨_, rfl, ?_⟩ h3) hSt)
    rw [az_n_add, az_n_lit (by omega) (by omega)]
  | iadd =>
    have hd := az_dec_ok hdec (by simp [az_len])
    obtain ⟨y, x, s1, rfl, rfl, rfl, rfl, rfl⟩ := az_i_b2 hst
    obtain ⟨zy, xs1, rfl, rfl, h1⟩ := az_SR_I hSt
    obtain ⟨zx, xs2, rfl, rfl, h2⟩ := az_SR_I h1
    refine lv_iadd hx hb hd (K _ _ _ _ hRh hl hL ?_)
    rw [← az_n_add]
    exact az_SR_i _ h2
  | isub =>
    have hd := az_dec_ok hdec (by simp [az_len])
    obtain ⟨y, x, s1, rfl, rfl, rfl, rfl, rfl⟩ := az_i_b2 hst
    obtain ⟨zy, xs1, rfl, rfl, h1⟩ := az_SR_I hSt
    obtain ⟨zx, xs2, rfl, rfl, h2⟩ := az_SR_I h1
    refine lv_isub hx hb hd (K _ _ _ _ hRh hl hL ?_)
    rw [← az_n_sub]
    exact az_SR_i _ h2
  | imul =>
    have hd := az_dec_ok hdec (by simp [az_len])
    obtain ⟨y, x, s1, rfl, rfl, rfl, rfl, rfl⟩ := az_i_b2 hst
    obtain ⟨zy, xs1, rfl, rfl, h1⟩ := az_SR_I hSt
    obtain ⟨zx, xs2, rfl, rfl, h2⟩ := az_SR_I h1
    refine lv_imul hx hb hd (K _ _ _ _ hRh hl hL ?_)
    rw [← az_n_mul]
    exact az_SR_i _ h2
  | iand =>
    have hd := az_dec_ok hdec (by simp [az_len])
    obtain ⟨y, x, s1, rfl, rfl, rfl, rfl, rfl⟩ := az_i_b2 hst
    obtain ⟨zy, xs1, rfl, rfl, h1⟩ := az_SR_I hSt
    obtain ⟨zx, xs2, rfl, rfl, h2⟩ := az_SR_I h1
    refine lv_iand hx hb hd (K _ _ _ _ hRh hl hL ?_)
    rw [← az_n_and]
    exact az_SR_i _ h2
  | ior =>
    have hd := az_dec_ok hdec (by simp [az_len])
    obtain ⟨y, x, s1, rfl, rfl, rfl, rfl, rfl⟩ := az_i_b2 hst
    obtain ⟨zy, xs1, rfl, rfl, h1⟩ := az_SR_I hSt
    obtain ⟨zx, xs2, rfl, rfl, h2⟩ := az_SR_I h1
    refine lv_ior hx hb hd (K _ _ _ _ hRh hl hL ?_)
    rw [← az_n_or]
    exact az_SR_i _ h2
  | ixor =>
    have hd := az_dec_ok hdec (by simp [az_len])
    obtain ⟨y, x, s1, rfl, rfl, rfl, rfl, rfl⟩ := az_i_b2 hst
    obtain ⟨zy, xs1, rfl, rfl, h1⟩ := az_SR_I hSt
    obtain ⟨zx, xs2, rfl, rfl, h2⟩ := az_SR_I h1
    refine lv_ixor hx hb hd (K _ _ _ _ hRh hl hL ?_)
    rw [← az_n_xor]
    exact az_SR_i _ h2
  | ishl =>
    have hd := az_dec_ok hdec (by simp [az_len])
    obtain ⟨y, x, s1, rfl, rfl, rfl, rfl, rfl⟩ := az_i_b2 hst
    obtain ⟨zy, xs1, rfl, rfl, h1⟩ := az_SR_I hSt
    obtain ⟨zx, xs2, rfl, rfl, h2⟩ := az_SR_I h1
    refine lv_ishl hx hb hd (K _ _ _ _ hRh hl hL ?_)
    rw [← az_n_shl]
    exact az_SR_i _ h2
  | ishr =>
    have hd := az_dec_ok hdec (by simp [az_len])
    obtain ⟨y, x, s1, rfl, rfl, rfl, rfl, rfl⟩ := az_i_b2 hst
    obtain ⟨zy, xs1, rfl, rfl, h1⟩ := az_SR_I hSt
    obtain ⟨zx, xs2, rfl, rfl, h2⟩ := az_SR_I h1
    refine lv_ishr hx hb hd (K _ _ _ _ hRh hl hL ?_)
    rw [← az_n_shr]
    exact az_SR_i _ h2
  | iushr =>
    have hd := az_dec_ok hdec (by simp [az_len])
    obtain ⟨y, x, s1, rfl, rfl, rfl, rfl, rfl⟩ := az_i_b2 hst
    obtain ⟨zy, xs1, rfl, rfl, h1⟩ := az_SR_I hSt
    obtain ⟨zx, xs2, rfl, rfl, h2⟩ := az_SR_I h1
    refine lv_iushr hx hb hd rfl (K _ _ _ _ hRh hl hL ?_)
    rw [← az_n_ush]
    exact az_SR_i _ h2
  | idiv =>
    have hd := az_dec_ok hdec (by simp [az_len])
    obtain ⟨y, x, s1, rfl, hy, rfl, rfl, rfl, rfl⟩ := az_i_d2 hst
    obtain ⟨zy, xs1, rfl, rfl, h1⟩ := az_SR_I hSt
    obtain ⟨zx, xs2, rfl, rfl, h2⟩ := az_SR_I h1
    refine lv_idiv hx hb hd (az_n_0 hy) (K _ _ _ _ hRh hl hL ?_)
    rw [← az_n_div]
    exact az_SR_i _ h2
  | irem =>
    have hd := az_dec_ok hdec (by simp [az_len])
    obtain ⟨y, x, s1, rfl, hy, rfl, rfl, rfl, rfl⟩ := az_i_d2 hst
    obtain ⟨zy, xs1, rfl, rfl, h1⟩ := az_SR_I hSt
    obtain ⟨zx, xs2, rfl, rfl, h2⟩ := az_SR_I h1
    refine lv_irem hx hb hd (az_n_0 hy) (K _ _ _ _ hRh hl hL ?_)
    rw [← az_n_rem]
    exact az_SR_i _ h2
  | ineg =>
    have hd := az_dec_ok hdec (by simp [az_len])
    obtain ⟨x, s1, rfl, rfl, rfl, rfl, rfl⟩ := az_i_u1 hst
    obtain ⟨zx, xs1, rfl, rfl, h1⟩ := az_SR_I hSt
    refine lv_ineg hx hb hd (K _ _ _ _ hRh hl hL ?_)
    rw [← az_n_neg]
    exact az_SR_i _ h1
  | i2b =>
    have hd := az_dec_ok hdec (by simp [az_len])
    obtain ⟨x, s1, rfl, rfl, rfl, rfl, rfl⟩ := az_i_u1 hst
    obtain ⟨zx, xs1, rfl, rfl, h1⟩ := az_SR_I hSt
    refine lv_i2b hx hb hd rfl (K _ _ _ _ hRh hl hL ?_)
    rw [← az_n_i2b]
    exact az_SR_i _ h1
  | i2s =>
    have hd := az_dec_ok hdec (by simp [az_len])
    obtain ⟨x, s1, rfl, rfl, rfl, rfl, rfl⟩ := az_i_u1 hst
    obtain ⟨zx, xs1, rfl, rfl, h1⟩ := az_SR_I hSt
    refine lv_i2s hx hb hd rfl (K _ _ _ _ hRh hl hL ?_)
    rw [← az_n_i2s]
    exact az_SR_i _ h1
  | i2c =>
    have hd := az_dec_ok hdec (by simp [az_len])
    obtain ⟨x, s1, rfl, rfl, rfl, rfl, rfl⟩ := az_i_u1 hst
    obtain ⟨zx, xs1, rfl, rfl, h1⟩ := az_SR_I hSt
    refine lv_i2c hx hb hd rfl (K _ _ _ _ hRh hl hL ?_)
    rw [← az_n_i2c]
    exact az_SR_i _ h1
  | i2l =>
    have hd := az_dec_ok hdec (by simp [az_len])
    simp only [az_step] at hst
    split at hst
    · next x s1 =>
      obtain ⟨rfl, rfl, rfl, rfl⟩ := az_i_nx hst
      obtain ⟨zx, xs1, rfl, rfl, h1⟩ := az_SR_I hSt
      refine lv_i2l hx hb hd rfl (K _ _ _ _ hRh hl hL ?_)
      rw [← az_n_i2l]
      exact az_SR_l _ h1
    · cases hst
  | l2i =>
    have hd := az_dec_ok hdec (by simp [az_len])
    simp only [az_step] at hst
    split at hst
    · next x s1 =>
      obtain ⟨rfl, rfl, rfl, rfl⟩ := az_i_nx hst
      obtain ⟨zx, xs1, rfl, rfl, h1⟩ := az_SR_L hSt
      refine lv_l2i hx hb hd rfl (K _ _ _ _ hRh hl hL ?_)
      rw [← az_n_l2i]
      exact az_SR_i _ h1
    · cases hst
  | ladd =>
    have hd := az_dec_ok hdec (by simp [az_len])
    obtain ⟨y, x, s1, rfl, rfl, rfl, rfl, rfl⟩ := az_i_l2 hst
    obtain ⟨zy, xs1, rfl, rfl, h1⟩ := az_SR_L hSt
    obtain ⟨zx, xs2, rfl, rfl, h2⟩ := az_SR_L h1
    refine lv_ladd hx hb hd (K _ _ _ _ hRh hl hL ?_)
    rw [← az_n_ladd]
    exact az_SR_l _ h2
  | lsub =>
    have hd := az_dec_ok hdec (by simp [az_len])
    obtain ⟨y, x, s1, rfl, rfl, rfl, rfl, rfl⟩ := az_i_l2 hst
    obtain ⟨zy, xs1, rfl, rfl, h1⟩ := az_SR_L hSt
    obtain ⟨zx, xs2, rfl, rfl, h2⟩ := az_SR_L h1
    refine lv_lsub hx hb hd (K _ _ _ _ hRh hl hL ?_)
    rw [← az_n_lsub]
    exact az_SR_l _ h2
  | lmul =>
    have hd := az_dec_ok hdec (by simp [az_len])
    obtain ⟨y, x, s1, rfl, rfl, rfl, rfl, rfl⟩ := az_i_l2 hst
    obtain ⟨zy, xs1, rfl, rfl, h1⟩ := az_SR_L hSt
    obtain ⟨zx, xs2, rfl, rfl, h2⟩ := az_SR_L h1
    refine lv_lmul hx hb hd (K _ _ _ _ hRh hl hL ?_)
    rw [← az_n_lmul]
    exact az_SR_l _ h2
  | land =>
    have hd := az_dec_ok hdec (by simp [az_len])
    obtain ⟨y, x, s1, rfl, rfl, rfl, rfl, rfl⟩ := az_i_l2 hst
    obtain ⟨zy, xs1, rfl, rfl, h1⟩ := az_SR_L hSt
    obtain ⟨zx, xs2, rfl, rfl, h2⟩ := az_SR_L h1
    refine lv_land hx hb hd (K _ _ _ _ hRh hl hL ?_)
    rw [← az_n_land]
    exact az_SR_l _ h2
  | lor =>
    have hd := az_dec_ok hdec (by simp [az_len])
    obtain ⟨y, x, s1, rfl, rfl, rfl, rfl, rfl⟩ := az_i_l2 hst
    obtain ⟨zy, xs1, rfl, rfl, h1⟩ := az_SR_L hSt
    obtain ⟨zx, xs2, rfl, rfl, h2⟩ := az_SR_L h1
    refine lv_lor hx hb hd (K _ _ _ _ hRh hl hL ?_)
    rw [← az_n_lor]
    exact az_SR_l _ h2
  | ldiv =>
    have hd := az_dec_ok hdec (by simp [az_len])
    obtain ⟨y, x, s1, rfl, hy, rfl, rfl, rfl, rfl⟩ := az_i_dl2 hst
    obtain ⟨zy, xs1, rfl, rfl, h1⟩ := az_SR_L hSt
    obtain ⟨zx, xs2, rfl, rfl, h2⟩ := az_SR_L h1
    refine lv_ldiv hx hb hd (az_n_0L hy) (K _ _ _ _ hRh hl hL ?_)
    rw [← az_n_ldiv]
    exact az_SR_l _ h2
  | lrem =>
    have hd := az_dec_ok hdec (by simp [az_len])
    obtain ⟨y, x, s1, rfl, hy, rfl, rfl, rfl, rfl⟩ := az_i_dl2 hst
    obtain ⟨zy, xs1, rfl, rfl, h1⟩ := az_SR_L hSt
    obtain ⟨zx, xs2, rfl, rfl, h2⟩ := az_SR_L h1
    refine lv_lrem hx hb hd (az_n_0L hy) (K _ _ _ _ hRh hl hL ?_)
    rw [← az_n_lrem]
    exact az_SR_l _ h2
  | lshl =>
    have hd := az_dec_ok hdec (by simp [az_len])
    obtain ⟨y, x, s1, rfl, rfl, rfl, rfl, rfl⟩ := az_i_li hst
    obtain ⟨zy, xs1, rfl, rfl, h1⟩ := az_SR_I hSt
    obtain ⟨zx, xs2, rfl, rfl, h2⟩ := az_SR_L h1
    refine lv_lshl hx hb hd rfl (K _ _ _ _ hRh hl hL ?_)
    rw [← az_n_lshl]
    exact az_SR_l _ h2
  | lshr =>
    have hd := az_dec_ok hdec (by simp [az_len])
    obtain ⟨y, x, s1, rfl, rfl, rfl, rfl, rfl⟩ := az_i_li hst
    obtain ⟨zy, xs1, rfl, rfl, h1⟩ := az_SR_I hSt
    obtain ⟨zx, xs2, rfl, rfl, h2⟩ := az_SR_L h1
    refine lv_lshr hx hb hd rfl (K _ _ _ _ hRh hl hL ?_)
    rw [← az_n_lshr]
    exact az_SR_l _ h2
  | lcmp =>
    have hd := az_dec_ok hdec (by simp [az_len])
    simp only [az_step] at hst
    split at hst
    · next y x s1 =>
      obtain ⟨rfl, rfl, rfl, rfl⟩ := az_i_nx hst
      obtain ⟨zy, xs1, rfl, rfl, h1⟩ := az_SR_L hSt
      obtain ⟨zx, xs2, rfl, rfl, h2⟩ := az_SR_L h1
      refine W.lcmp hx hb hd (K _ _ _ _ hRh hl hL ?_)
      rw [← az_n_cmp]
      exact az_SR_i _ h2
    · cases hst
  | dup =>
    have hd := az_dec_ok hdec (by simp [az_len])
    simp only [az_step] at hst
    split at hst
    · next x s1 =>
      obtain ⟨rfl, rfl, rfl, rfl⟩ := az_i_nx hst
      obtain ⟨z, xs1, rfl, rfl, h1⟩ := az_SR_I hSt
      exact lv_dup hx hb hd rfl (K _ _ _ _ hRh hl hL (az_SR_i _ (az_SR_i _ h1)))
    · next r s1 =>
      obtain ⟨rfl, rfl, rfl, rfl⟩ := az_i_nx hst
      obtain ⟨xs1, rfl, h1⟩ := az_SR_R hSt
      exact lv_dup hx hb hd (az_rf_cat hw _) (K _ _ _ _ hRh hl hL (az_SR_r _ (az_SR_r _ h1)))
    · cases hst
  | dup2 =>
    have hd := az_dec_ok hdec (by simp [az_len])
    simp only [az_step] at hst
    split at hst
    · next x r s1 =>
      obtain ⟨rfl, rfl, rfl, rfl⟩ := az_i_nx hst
      obtain ⟨z, xs1, rfl, rfl, h1⟩ := az_SR_I hSt
      obtain ⟨xs2, rfl, h2⟩ := az_SR_R h1
      exact lv_dup2_11 hx hb hd rfl (az_rf_cat hw _) (K _ _ _ _ hRh hl hL (az_SR_i _ (az_SR_r _ (az_SR_i _ (az_SR_r _ h2)))))
    · cases hst
  | pop =>
    have hd := az_dec_ok hdec (by simp [az_len])
    simp only [az_step] at hst
    split at hst
    · next x s1 =>
      obtain ⟨rfl, rfl, rfl, rfl⟩ := az_i_nx hst
      obtain ⟨z, xs1, rfl, rfl, h1⟩ := az_SR_I hSt
      exact lv_pop hx hb hd rfl (K _ _ _ _ hRh hl hL h1)
    · cases hst
  | if_icmp c off =>
    have hd := az_dec_ok hdec (by simp [az_len])
    simp only [az_res, decide_eq_true_eq] at hres
    obtain ⟨y, x, rfl, hc, rfl, rfl, rfl⟩ := az_i_if2 hst
    obtain ⟨zy, xs1, rfl, rfl, h1⟩ := az_SR_I hSt
    obtain ⟨zx, xs2, rfl, rfl, h2⟩ := az_SR_I h1
    exact az_c_if2 hx hb hd (Int.toNat_of_nonneg hres.2).symm (fun h => absurd h (by rw [hc]; decide)) (fun _ => K _ _ _ _ hRh hl hL h2)
  | ifCond c off =>
    have hd := az_dec_ok hdec (by simp [az_len])
    simp only [az_res, decide_eq_true_eq] at hres
    obtain ⟨x, rfl, hc, rfl, rfl, rfl⟩ := az_i_if1 hst
    obtain ⟨zx, xs1, rfl, rfl, h1⟩ := az_SR_I hSt
    exact az_c_if1 hx hb hd (Int.toNat_of_nonneg hres.2).symm (fun h => absurd h (by rw [hc]; decide)) (fun _ => K _ _ _ _ hRh hl hL h1)
  | goto off =>
    simp [az_step, az_jmp] at hst
  | tableswitch a b c d =>
    simp only [az_step, az_tsw] at hst
    split at hst
    · split at hst <;> simp at hst
    · cases hst
  | lookupswitch a b =>
    simp only [az_step, az_lsw] at hst
    split at hst
    · simp at hst
    · cases hst
  | iaload =>
    have hd := az_dec_ok hdec (by simp [az_len])
    obtain ⟨j, a, s1, rfl, rfl, rfl, rfl, hh⟩ := az_i_ald hst
    obtain ⟨zj, xs1, rfl, rfl, h1⟩ := az_SR_I hSt
    obtain ⟨xs2, rfl, h2⟩ := az_SR_R h1
    rcases hh with ⟨rfl, L, ys, rfl, -, j0, j1, rfl⟩ | ⟨-, t, n, rs, hg, ht, j0, j1, rfl⟩
    · exact az_c_sld hx hb hRh j0 j1 hd (fun z hz => K _ _ _ _ hRh hl hL (by rw [← hz]; exact az_SR_i _ h2))
    · have ht := List.mem_singleton.mp ht
      subst ht
      exact az_c_iald hx hb hRh hg j0 j1 hd (fun z hz => K _ _ _ _ hRh hl hL (by rw [← hz]; exact az_SR_i _ h2))
  | baload =>
    have hd := az_dec_ok hdec (by simp [az_len])
    obtain ⟨j, a, s1, rfl, rfl, rfl, rfl, hh⟩ := az_i_ald hst
    obtain ⟨zj, xs1, rfl, rfl, h1⟩ := az_SR_I hSt
    obtain ⟨xs2, rfl, h2⟩ := az_SR_R h1
    rcases hh with ⟨-, L, ys, -, hts2, -⟩ | ⟨-, t, n, rs, hg, ht, j0, j1, rfl⟩
    · cases hts2
    · exact az_c_bald hx hb hRh hg (by simpa using ht) j0 j1 hd (fun z hz => K _ _ _ _ hRh hl hL (by rw [← hz]; exact az_SR_i _ h2))
  | aaload =>
    have hd := az_dec_ok hdec (by simp [az_len])
    obtain ⟨j, a, s1, t, n, rs, rfl, hg, t1, t2, j0, j1, rfl, rfl, rfl, rfl⟩ := az_i_aald hst
    obtain ⟨zj, xs1, rfl, rfl, h1⟩ := az_SR_I hSt
    obtain ⟨xs2, rfl, h2⟩ := az_SR_R h1
    exact az_c_aald hx hb hRh hg ⟨t1, t2⟩ j0 j1 hd (K _ _ _ _ hRh hl hL (az_SR_r _ h2))
  | arraylength =>
    have hd := az_dec_ok hdec (by simp [az_len])
    obtain ⟨a, s1, rfl, rfl, rfl, rfl, hh⟩ := az_i_aln hst
    obtain ⟨xs1, rfl, h1⟩ := az_SR_R hSt
    rcases hh with ⟨rfl, L, ys, rfl, rfl⟩ | ⟨-, t, n, rs, hg, t1, t2, rfl⟩
    · exact az_c_slen hx hb hRh hd (fun z hz => K _ _ _ _ hRh hl hL (by rw [← hz]; exact az_SR_i _ h1))
    · exact az_c_alen hx hb hRh hg ⟨t1, t2⟩ hd (fun z hz => K _ _ _ _ hRh hl hL (by rw [← hz]; exact az_SR_i _ h1))
  | iastore =>
    have hd := az_dec_ok hdec (by simp [az_len])
    obtain ⟨v, j, a, t, n, rs, rfl, hg, ha, rfl, j0, j1, rfl, rfl, rfl⟩ := az_i_iast hst
    obtain ⟨zv, xs1, rfl, rfl, h1⟩ := az_SR_I hSt
    obtain ⟨zj, xs2, rfl, rfl, h2⟩ := az_SR_I h1
    obtain ⟨xs3, rfl, h3⟩ := az_SR_R h2
    exact az_c_iast hx hb hRh hl ha hg j0 j1 hd (fun H2 locs2 r1 r2 => K _ _ _ _ r1 r2 hL h3)
  | bastore =>
    have hd := az_dec_ok hdec (by simp [az_len])
    obtain ⟨v, j, a, t, n, rs, rfl, hg, ha, ht, j0, j1, rfl, rfl, rfl⟩ := az_i_bast hst
    obtain ⟨zv, xs1, rfl, rfl, h1⟩ := az_SR_I hSt
    obtain ⟨zj, xs2, rfl, rfl, h2⟩ := az_SR_I h1
    obtain ⟨xs3, rfl, h3⟩ := az_SR_R h2
    exact az_c_bast hx hb hRh hl ha hg ht j0 j1 hd (fun H2 locs2 r1 r2 => K _ _ _ _ r1 r2 hL h3)
  | aastore =>
    have hd := az_dec_ok hdec (by simp [az_len])
    obtain ⟨b, j, a, t, n, rs, t2, n2, rs2, rfl, hg, hg2, ha, hb2, ht, j0, j1, rfl, rfl, rfl⟩ := az_i_aast hst
    obtain ⟨xs1, rfl, h1⟩ := az_SR_R hSt
    obtain ⟨zj, xs2, rfl, rfl, h2⟩ := az_SR_I h1
    obtain ⟨xs3, rfl, h3⟩ := az_SR_R h2
    refine az_c_aast hx hb hRh hl ha hb2 hg hg2 ht j0 j1 hd (fun H2 locs2 r1 r2 => ?_)
    exact W.cs (by rw [List.length_set]) (by rw [az_sl_set hg]) (K _ _ _ _ r1 r2 hL h3)
  | getfield x =>
    have hd := az_dec_ok hdec (by simp [az_len])
    obtain ⟨a, s1, c, k, t, q, tg, n, rs, rfl, rfl, hg, hc, rfl, rfl, rfl, hh⟩ := az_i_get hst
    obtain ⟨xs1, rfl, h1⟩ := az_SR_R hSt
    have key : ∀ v : Value, az_fv w t.toNat (m' a k) (rs.getD k.toNat 0) v → 0 ≤ t → az_SR w (v :: xs1) st' := fun v hv ht => by
      unfold az_fv at hv
      rcases hh with ⟨rfl, rfl⟩ | ⟨rfl, rfl⟩ | ⟨t1, t2, rfl⟩
      · rw [if_pos (by decide)] at hv
        obtain ⟨y, rfl, e2⟩ := hv
        rw [← e2]
        exact az_SR_l _ h1
      · rw [if_neg (by decide), if_pos (by decide)] at hv
        subst hv
        exact az_SR_r _ h1
      · rw [if_neg (by omega), if_neg (by omega)] at hv
        obtain ⟨y, rfl, e2⟩ := hv
        rw [← e2]
        exact az_SR_i _ h1
    rcases q with _ | ⟨q, _ | ⟨q2, q3⟩⟩
    · simp [az_res, az_fld] at hres
    · simp only [az_res, az_fld] at hres
      by_cases h9 : c = 9
      · subst h9
        rw [if_pos rfl] at hres
        have h9 : tg = 9 := by omega
        subst h9
        simp only [Bool.or_eq_true, Bool.and_eq_true, decide_eq_true_eq] at hres
        rcases hres with ⟨⟨rfl, rfl⟩, h3⟩ | ⟨⟨rfl, rfl⟩, h3⟩
        · exact az_c_str (i := 0) (t := 2) hx hb hRh hg hown hd (Or.inl ⟨rfl, rfl, hts _ (az_hw_in h3)⟩) (fun v hv => K _ _ _ _ hRh hl hL (key v hv (by decide)))
        · exact az_c_str (i := 1) (t := 0) hx hb hRh hg hown hd (Or.inr ⟨rfl, rfl, hts _ (az_hw_in h3)⟩) (fun v hv => K _ _ _ _ hRh hl hL (key v hv (by decide)))
      · rw [if_neg h9] at hres
        simp only [Bool.and_eq_true, decide_eq_true_eq] at hres
        obtain ⟨⟨⟨c1, c2, c3, c4, c5⟩, c6⟩, c7⟩ := hres
        have hct : c.toNat = tg := by omega
        rw [hct] at c4 c5 c6 c7
        refine az_c_get (k := k.toNat) hx hb hRh hts hown hg (by omega) c4 (hts _ (az_hw_in c6)) c7 hd (fun v hv => K _ _ _ _ hRh hl hL (key v ?_ (by omega)))
        rw [c5, Int.toNat_natCast]
        rw [Int.toNat_of_nonneg c3] at hv
        exact hv
    · simp [az_res, az_fld] at hres
  | putfield x =>
    have hd := az_dec_ok hdec (by simp [az_len])
    obtain ⟨a, c, k, t, q, tg, n, rs, rfl, hg, ha, hc, rfl, hh⟩ := az_i_put hst
    rcases q with _ | ⟨q, _ | ⟨q2, q3⟩⟩
    · simp [az_res, az_fld] at hres
    · simp only [az_res, az_fld, Bool.and_eq_true] at hres
      obtain ⟨hres, hn9, hfin⟩ := hres
      have h9 : ¬ c = 9 := by simpa using hn9
      rw [if_neg h9] at hres
      simp only [Bool.and_eq_true, decide_eq_true_eq] at hres
      obtain ⟨⟨⟨c1, c2, c3, c4, c5⟩, c6⟩, c7⟩ := hres
      have hct : c.toNat = tg := by omega
      rw [hct] at c4 c5 c6 c7 hfin
      have hfin2 : (az_T tg k.toNat).2.2.2 = false ∨ (meth.name = "<init>" ∧ (az_T tg k.toNat).1 = (az_y M).cls) := by
        simp only [Bool.or_eq_true, Bool.not_eq_true', decide_eq_true_eq] at hfin
        rcases hfin with h | ⟨h, h2⟩
        · exact Or.inl h
        · exact Or.inr ⟨hnm h, h2⟩
      have htc := az_tcty (show tg < 9 by omega) c4
      have ek : ((k.toNat : Nat) : Int) = k := Int.toNat_of_nonneg c3
      rcases hh with ⟨v, rfl, ht, rfl, rfl⟩ | ⟨v, rfl, ht, rfl, rfl⟩ | ⟨r, rfl, ht, hr, rfl, rfl⟩
      · obtain ⟨zv, xs1, rfl, rfl, h1⟩ := az_SR_I hSt
        obtain ⟨xs2, rfl, h2⟩ := az_SR_R h1
        have hty := az_fit_i (t := az_t tg k.toNat) (tc := az_tc tg k.toNat) (z := zv) htc (by rcases ht with h | h <;> omega)
        refine az_c_put (rs' := rs) (z' := zv.toInt) (r' := 0) (m' := az_up m a k zv.toInt) hx hb hRh hl hts hown ha hg (by omega) c4 (hts _ (az_hw_in c6)) c7 hfin2 hty.1 hty.2 hd ?_ (Or.inr ⟨rfl, by rcases ht with h | h <;> omega⟩) (fun b j hb => az_up_a _ _ _ _ hb) (fun j hj => az_up_i _ _ _ (by omega)) (fun _ => by rw [ek, az_up_at]) (fun H2 locs2 r1 r2 => ?_)
        · unfold az_fv
          rw [if_neg (by rcases ht with h | h <;> omega), if_neg (by rcases ht with h | h <;> omega)]
          exact ⟨zv, rfl, rfl⟩
        · rw [az_set_self hg] at r1
          exact K _ _ _ _ r1 r2 hL h2
      · obtain ⟨zv, xs1, rfl, rfl, h1⟩ := az_SR_L hSt
        obtain ⟨xs2, rfl, h2⟩ := az_SR_R h1
        have hty := az_fit_l (t := az_t tg k.toNat) (tc := az_tc tg k.toNat) (z := zv) htc (by omega)
        refine az_c_put (rs' := rs) (z' := zv.toInt) (r' := 0) (m' := az_up m a k zv.toInt) hx hb hRh hl hts hown ha hg (by omega) c4 (hts _ (az_hw_in c6)) c7 hfin2 hty.1 hty.2 hd ?_ (Or.inr ⟨rfl, by omega⟩) (fun b j hb => az_up_a _ _ _ _ hb) (fun j hj => az_up_i _ _ _ (by omega)) (fun _ => by rw [ek, az_up_at]) (fun H2 locs2 r1 r2 => ?_)
        · unfold az_fv
          rw [if_pos (by omega)]
          exact ⟨zv, rfl, rfl⟩
        · rw [az_set_self hg] at r1
          exact K _ _ _ _ r1 r2 hL h2
      · obtain ⟨xs1, rfl, h1⟩ := az_SR_R hSt
        obtain ⟨xs2, rfl, h2⟩ := az_SR_R h1
        have hty := az_fit_r (w := w) hw (t := az_t tg k.toNat) (tc := az_tc tg k.toNat) (r := r) htc (by omega)
        refine az_c_put (rs' := rs.set k.toNat r) (z' := 0) (r' := r) (m' := m') hx hb hRh hl hts hown ha hg (by omega) c4 (hts _ (az_hw_in c6)) c7 hfin2 hty.1 hty.2 hd ?_ (Or.inl rfl) (fun _ _ _ => rfl) (fun _ _ => rfl) (fun h => absurd (by omega) h) (fun H2 locs2 r1 r2 => ?_)
        · unfold az_fv
          rw [if_neg (by omega), if_pos (by omega)]
        · exact W.cs (by rw [List.length_set]) (by rw [az_sl_set hg]) (K _ _ _ _ r1 r2 hL h2)
    · simp [az_res, az_fld] at hres
  | getstatic x =>
    have hd := az_dec_ok hdec (by simp [az_len])
    obtain ⟨q, rfl, rfl, rfl, ⟨rfl, rfl⟩ | ⟨rfl, rfl⟩ | ⟨rfl, rfl⟩⟩ := az_i_gst hst
    · rcases q with _ | ⟨q, _ | ⟨q2, q3⟩⟩
      · simp [az_res] at hres
      · simp only [az_res] at hres
        obtain ⟨cf, kf, fi, fl, aa, cell, z1, z2, z3, z4, z5, z6, z7, z8⟩ := hRh.2.1.2.1
        refine W.gets hx hb hown (hts _ (az_hw_in hres)) z1 z2 z3 z4 z5 (fun e => by rw [e] at z6; cases z6) z7 rfl hd ?_
        exact K _ _ _ _ hRh hl hL (by have := az_SR_r (w := w) 3 hSt; rw [az_rf_s (show (2 : Nat) ≠ 1 by decide), az_ad_lo (by decide)] at this; exact this)
      · simp [az_res] at hres
    · rcases q with _ | ⟨q, _ | ⟨q2, q3⟩⟩
      · simp [az_res] at hres
      · simp only [az_res] at hres
        obtain ⟨cf, kf, fi, fl, aa, cell, z1, z2, z3, z4, z5, z6, z7, z8⟩ := hRh.2.1.2.2.1
        refine W.gets hx hb hown (hts _ (az_hw_in hres)) z1 z2 z3 z4 z5 (fun e => by rw [e] at z6; cases z6) z7 rfl hd ?_
        exact K _ _ _ _ hRh hl hL (az_SR_i 1 hSt)
      · simp [az_res] at hres
    · rcases q with _ | ⟨q, _ | ⟨q2, q3⟩⟩
      · simp [az_res] at hres
      · simp only [az_res] at hres
        obtain ⟨cf, kf, fi, fl, aa, cell, z1, z2, z3, z4, z5, z6, z7, z8⟩ := hRh.2.1.2.2.2.1
        refine W.gets hx hb hown (hts _ (az_hw_in hres)) z1 z2 z3 z4 z5 (fun e => by rw [e] at z6; cases z6) z7 rfl hd ?_
        exact K _ _ _ _ hRh hl hL (az_SR_r (w := w) 2 hSt)
      · simp [az_res] at hres
  | new x =>
    have hd := az_dec_ok hdec (by simp [az_len])
    obtain ⟨c, n, q, rfl, hgl, rfl, rfl, rfl, rfl⟩ := az_i_new hst
    rcases q with _ | ⟨q, _ | ⟨q2, _ | ⟨q3, _ | ⟨q4, q5⟩⟩⟩⟩
    · simp [az_res] at hres
    · simp [az_res] at hres
    · simp [az_res] at hres
    · simp only [az_res, Bool.and_eq_true, decide_eq_true_eq] at hres
      obtain ⟨⟨⟨⟨c1, c2, c3⟩, c4⟩, c5⟩, c6⟩ := hres
      have hn : n.toNat = az_N c.toNat := by rw [c3]; rfl
      rw [hn] at hrm K
      rw [az_sl_push, List.length_append] at hrm
      simp only [List.length_cons, List.length_nil] at hrm
      refine az_c_new hx hb hRh hts hown (t := c.toNat) (by omega) (hts _ (az_hw_in c4)) (hts _ (az_hw_in c5)) (hts _ (az_hw_in c6)) (by omega) (by omega) hd (fun H2 r1 => ?_)
      exact W.cs (by rw [List.length_append]; simp only [List.length_cons, List.length_nil]; omega) (by rw [az_sl_push]; simp only []; omega) (K _ _ _ _ r1 hl hL (az_SR_r _ hSt))
    · simp [az_res] at hres
  | newarray at_ =>
    have hd := az_dec_ok hdec (by simp [az_len])
    obtain ⟨n, s1, t, q, rfl, rfl, n0, n1, hgl, rfl, rfl, rfl, rfl⟩ := az_i_nwa hst
    obtain ⟨zn, xs1, rfl, rfl, h1⟩ := az_SR_I hSt
    rcases q with _ | ⟨q, _ | ⟨q2, q3⟩⟩
    · simp [az_res] at hres
    · simp only [az_res, Bool.or_eq_true, Bool.and_eq_true, decide_eq_true_eq] at hres
      have ht : (t.toNat = 20 ∧ at_ = .int) ∨ (t.toNat = 21 ∧ at_ = .byte) ∨ (t.toNat = 22 ∧ at_ = .boolean) := by rcases hres with (⟨⟨a1, a2⟩, -⟩ | ⟨⟨a1, a2⟩, -⟩) | ⟨⟨a1, a2⟩, -⟩ <;> simp [a1, a2]
      have ha : (Cond.arrayClass (newarray.typeOf at_)).before args s = true := by rcases hres with (⟨⟨a1, rfl⟩, a3⟩ | ⟨⟨a1, rfl⟩, a3⟩) | ⟨⟨a1, rfl⟩, a3⟩ <;> exact hts _ (az_hw_in a3)
      have h23 : ¬ 23 ≤ t := by omega
      rw [if_neg h23] at hrm K
      rw [az_sl_push, List.length_append] at hrm
      simp only [List.length_cons, List.length_nil] at hrm
      refine az_c_newa hx hb hRh ht ha n0 n1 (by omega) (by omega) hd (fun H2 r1 => ?_)
      exact W.cs (by rw [List.length_append]; simp only [List.length_cons, List.length_nil]; omega) (by rw [az_sl_push]; simp only []; omega) (K _ _ _ _ r1 hl hL (az_SR_r _ h1))
    · simp [az_res] at hres
  | anewarray x =>
    have hd := az_dec_ok hdec (by simp [az_len])
    obtain ⟨n, s1, t, q, rfl, rfl, n0, n1, hgl, rfl, rfl, rfl, rfl⟩ := az_i_nwa hst
    obtain ⟨zn, xs1, rfl, rfl, h1⟩ := az_SR_I hSt
    rcases q with _ | ⟨q, _ | ⟨q2, _ | ⟨q3, q4⟩⟩⟩
    · simp [az_res] at hres
    · simp [az_res] at hres
    · simp only [az_res, Bool.or_eq_true, Bool.and_eq_true, decide_eq_true_eq] at hres
      have h23 : 23 ≤ t := by omega
      rw [if_pos h23] at hrm K
      rw [az_sl_push, List.length_append] at hrm
      simp only [List.length_cons, List.length_nil] at hrm
      rcases hres with ⟨⟨a1, a2⟩, -⟩ | ⟨⟨a1, a2⟩, -⟩
      · refine az_c_newq hx hb hRh hown (t := t.toNat) (C := "LastSun$Row") (by simp [a1]) (hts _ (az_hw_in a2)) hTt.2.2.1 n0 n1 (by omega) (by omega) hd (fun H2 r1 => ?_)
        exact W.cs (by rw [List.length_append]; simp only [List.length_cons, List.length_nil]; omega) (by rw [az_sl_push]; simp only []; omega) (K _ _ _ _ r1 hl hL (az_SR_r _ h1))
      · refine az_c_newq hx hb hRh hown (t := t.toNat) (C := "LastSun$Beach") (by simp [a1]) (hts _ (az_hw_in a2)) hTt.2.2.2 n0 n1 (by omega) (by omega) hd (fun H2 r1 => ?_)
        exact W.cs (by rw [List.length_append]; simp only [List.length_cons, List.length_nil]; omega) (by rw [az_sl_push]; simp only []; omega) (K _ _ _ _ r1 hl hL (az_SR_r _ h1))
    · simp [az_res] at hres
  | invokevirtual x =>
    have hd := az_dec_ok hdec (by simp [az_len])
    exact az_c_inv1 hx hb hml hown hts hw hR hcs hrm hRh hl hL hSt hres hst hd K
  | invokestatic x =>
    have hd := az_dec_ok hdec (by simp [az_len])
    exact az_c_inv2 hx hb hml hown hts hw hR hcs hrm hRh hl hL hSt hres hst hd K
  | invokespecial x =>
    have hd := az_dec_ok hdec (by simp [az_len])
    exact az_c_inv3 hx hb hml hown hts hw hR hcs hrm hRh hl hL hSt hres hst hd K
  | ireturn =>
    simp only [az_step, az_irt] at hst
    split at hst
    · split at hst <;> simp at hst
    · cases hst
  | lreturn =>
    simp only [az_step] at hst
    split at hst
    · split at hst <;> simp at hst
    · cases hst
  | areturn =>
    simp only [az_step] at hst
    split at hst
    · split at hst <;> simp at hst
    · cases hst
  | return_ =>
    simp only [az_step] at hst
    split at hst
    · split at hst <;> simp at hst
    · cases hst
  | _ => simp [az_step] at hst
end NS
end
section
/-! jumps, ends, the start of a method -/
section JP
variable {p : Program} {la : Launch} {e : Env} {R : Room} {s : State} {mid : MethodId} {args : Array Value} {below : List Frame} {meth : Method} {cd : Code} {H : Heap} {locs : List Loc} {cells slots : Nat} {Q : State → Prop}
variable {w : aW} {sc : aX} {M pc : Nat} {ls : Array Slot} {xs rest : List Value} {l l' : aL} {st st' : aS} {g g' : aG} {m m' : aM} {cc : ByteArray} {c0 s0 : Nat} {f : List Int}
theorem az_lk_ok (pc : Nat) (x : Int) (d : Int) : ∀ ps : List (Int × Int), ps.all (fun q => decide (0 ≤ (pc : Int) + q.2)) = true → 0 ≤ (pc : Int) + d → ((az_lk (az_flat pc ps) x ((pc : Int) + d).toNat : Nat) : Int) = (pc : Int) + Op.lookupswitch.offset ps d x
  | [], _, hd => by
    show ((((pc : Int) + d).toNat : Nat) : Int) = _
    rw [Int.toNat_of_nonneg hd]
    rfl
  | (a, o) :: ps, h, hd => by
    simp only [List.all_cons, Bool.and_eq_true, decide_eq_true_eq] at h
    rw [Op.lookupswitch.offset_cons]
    show ((if x = a then ((pc : Int) + o).toNat else az_lk (az_flat pc ps) x ((pc : Int) + d).toNat : Nat) : Int) = _
    by_cases hx : x = a
    · rw [if_pos hx, if_pos hx.symm, Int.toNat_of_nonneg h.1]
    · rw [if_neg hx, if_neg (fun q => hx q.symm)]
      exact az_lk_ok pc x d ps h.2 hd
theorem az_jump {i : Instr} {t : Nat} (X : az_Cx M p s mid args meth cd) (hdec : az_dec (az_by M) pc i = true) (hres : az_res M pc i f = true) (hst : az_step sc M i f l st g m = some (.inr (.inl (t, st')))) (hSt : az_SR w xs st)
    (K : ∀ xs', az_SR w xs' st' → W p la e R s mid args below meth cd H locs cells slots Q (F0 mid t ls xs')) : W p la e R s mid args below meth cd H locs cells slots Q (F0 mid pc ls xs) := by
  obtain ⟨hx, hb, hml, hown, hts, hnm⟩ := X
  cases i with
  | if_icmp c off =>
    have hd := az_dec_ok hdec (by simp [az_len])
    simp only [az_res, decide_eq_true_eq] at hres
    simp only [az_step, az_if2] at hst
    split at hst
    · next y x s1 =>
      split at hst
      · next hc =>
        simp only [az_jmp, Option.some.injEq, Sum.inr.injEq, Sum.inl.injEq, Prod.mk.injEq] at hst
        obtain ⟨rfl, rfl⟩ := hst
        obtain ⟨zy, xs1, rfl, rfl, h1⟩ := az_SR_I hSt
        obtain ⟨zx, xs2, rfl, rfl, h2⟩ := az_SR_I h1
        refine az_c_if2 hx hb hd ?_ (fun _ => K _ h2) (fun h => absurd hc (by rw [h]; decide))
        rw [hres.1]
        exact (Int.toNat_of_nonneg hres.2).symm
      · simp [az_nx] at hst
    · cases hst
  | ifCond c off =>
    have hd := az_dec_ok hdec (by simp [az_len])
    simp only [az_res, decide_eq_true_eq] at hres
    simp only [az_step, az_if1] at hst
    split at hst
    · next x s1 =>
      split at hst
      · next hc =>
        simp only [az_jmp, Option.some.injEq, Sum.inr.injEq, Sum.inl.injEq, Prod.mk.injEq] at hst
        obtain ⟨rfl, rfl⟩ := hst
        obtain ⟨zx, xs1, rfl, rfl, h1⟩ := az_SR_I hSt
        refine az_c_if1 hx hb hd ?_ (fun _ => K _ h1) (fun h => absurd hc (by rw [h]; decide))
        rw [hres.1]
        exact (Int.toNat_of_nonneg hres.2).symm
      · simp [az_nx] at hst
    · cases hst
  | goto off =>
    have hd := az_dec_ok hdec (by simp [az_len])
    simp only [az_res, decide_eq_true_eq] at hres
    simp only [az_step, az_jmp, Option.some.injEq, Sum.inr.injEq, Sum.inl.injEq, Prod.mk.injEq] at hst
    obtain ⟨rfl, rfl⟩ := hst
    refine lv_goto hx hb hd ?_ (K _ hSt)
    rw [hres.1]
    exact (Int.toNat_of_nonneg hres.2).symm
  | tableswitch d lo hi os =>
    obtain ⟨n, hd⟩ := az_dec_ok0 hdec
    simp only [az_res, decide_eq_true_eq] at hres
    obtain ⟨rfl, r1, r2, r3⟩ := hres
    simp only [az_step, az_tsw] at hst
    split at hst
    · next x s1 =>
      obtain ⟨zx, xs1, rfl, rfl, h1⟩ := az_SR_I hSt
      split at hst
      · next hc =>
        simp only [Option.some.injEq, Sum.inr.injEq, Sum.inl.injEq, Prod.mk.injEq] at hst
        obtain ⟨rfl, rfl⟩ := hst
        exact lv_tableOut hx hb hd hc (Int.toNat_of_nonneg r1).symm (K _ h1)
      · next hc =>
        simp only [Option.some.injEq, Sum.inr.injEq, Sum.inl.injEq, Prod.mk.injEq] at hst
        obtain ⟨rfl, rfl⟩ := hst
        have hlt : (zx.toInt - lo).toNat < os.toList.length := by rw [Array.length_toList]; omega
        have ho : os[(zx.toInt - lo).toNat]? = some os.toList[(zx.toInt - lo).toNat] := by rw [← Array.getElem?_toList, List.getElem?_eq_getElem hlt]
        have h0 := List.all_eq_true.mp r2 _ (List.getElem_mem hlt)
        rw [decide_eq_true_eq] at h0
        refine lv_tableIn hx hb hd (fun q => hc (Or.inl q)) (fun q => hc (Or.inr q)) ho ?_ (K _ h1)
        rw [List.getD_cons_succ, List.getD_eq_getElem?_getD, List.getElem?_map, List.getElem?_eq_getElem hlt]
        exact (Int.toNat_of_nonneg h0).symm
    · cases hst
  | lookupswitch d ps =>
    obtain ⟨n, hd⟩ := az_dec_ok0 hdec
    simp only [az_res, decide_eq_true_eq] at hres
    obtain ⟨rfl, r1, r2, r3⟩ := hres
    simp only [az_step, az_lsw] at hst
    split at hst
    · next x s1 =>
      obtain ⟨zx, xs1, rfl, rfl, h1⟩ := az_SR_I hSt
      simp only [Option.some.injEq, Sum.inr.injEq, Sum.inl.injEq, Prod.mk.injEq] at hst
      obtain ⟨rfl, rfl⟩ := hst
      exact lv_lookup hx hb hd r3 rfl (az_lk_ok pc zx.toInt d ps.toList r2 r1).symm (K _ h1)
    · cases hst
  | _ =>
    exfalso
    revert hst
    simp only [az_step, az_nx, az_ldI, az_ldL, az_ldA, az_stI, az_stL, az_stA, az_b2, az_l2, az_li, az_u1, az_d2, az_dl2, az_ald, az_aald, az_aln, az_iast, az_bast, az_aast, az_get, az_put, az_gst, az_new, az_nwa, az_inv, az_cpy, az_ldc, az_ldc2, az_irt, az_iinc]
    intro hst
    repeat' split at hst
    all_goals simp at hst
/-- how a method ends: with what the machine has on its stack -/
def az_Ret (w : aW) (M pc : Nat) (v : Option aV) (x : Option Value) : Prop :=
  (v = none ∧ x = none ∧ decode (az_by M) pc = .ok (.return_, 1) ∧ az_re M = none) ∨
  (∃ (z : Int32) (ty : FieldType), v = some (.inl z.toInt) ∧ x = some (.int z) ∧ decode (az_by M) pc = .ok (.ireturn, 1) ∧ az_re M = some ty ∧ narrow ty (.int z) = .int z) ∨
  (∃ z : Int64, v = some (.inr (.inl z.toInt)) ∧ x = some (.long z) ∧ decode (az_by M) pc = .ok (.lreturn, 1) ∧ az_re M = some .long) ∨
  (∃ r : Nat, v = some (.inr (.inr r)) ∧ x = some (az_rf w r) ∧ decode (az_by M) pc = .ok (.areturn, 1) ∧ ∃ n, az_re M = some (.object n))
theorem az_okm_at {M : Nat} (hok : (List.range 219).all az_okm = true) (h : M < 219) : az_okm M = true := List.all_eq_true.mp hok M (List.mem_range.mpr h)
theorem az_nchr {z : Int32} (h1 : 0 ≤ z.toInt) (h2 : z.toInt < 65536) : narrow .char (.int z) = .int z := by
  obtain ⟨n, hn, rfl⟩ : ∃ n : Nat, n < 65536 ∧ z = Int32.ofNat n := ⟨z.toInt.toNat, by omega, by
    apply Int32.toInt_inj.mp
    rw [Int32.toInt_ofNat_of_lt (by omega), Int.toNat_of_nonneg h1]⟩
  exact (pk_charN hn).1
theorem az_ends {i : Instr} {v : Option aV} (hok : az_okm M = true) (hdec : az_dec (az_by M) pc i = true) (hst : az_step sc M i f l st g m = some (.inr (.inr (.inl v)))) (hSt : az_SR w xs st) : ∃ x, xs = x.toList ∧ az_Ret w M pc v x := by
  simp only [az_okm, Bool.and_eq_true] at hok
  have hre := hok.2
  cases i with
  | ireturn =>
    have hd := az_dec_ok hdec (by simp [az_len])
    simp only [az_step, az_irt] at hst
    split at hst
    · next x =>
      obtain ⟨z, xs1, rfl, rfl, h1⟩ := az_SR_I hSt
      have e : xs1 = [] := by
        cases xs1 with
        | nil => rfl
        | cons a b => exact h1.elim
      subst e
      split at hst
      · next hc =>
        simp only [Option.some.injEq, Sum.inr.injEq, Sum.inl.injEq] at hst
        subst hst
        refine ⟨some (.int z), rfl, Or.inr (Or.inl ?_)⟩
        rcases hc with hc | ⟨hc, h2, h3⟩ | ⟨hc, h2, h3⟩ | ⟨hc, h2, h3⟩ <;> rw [hc] at hre <;> simp only [decide_eq_true_eq] at hre
        · exact ⟨z, .int, rfl, rfl, hd, hre, rfl⟩
        · exact ⟨z, .boolean, rfl, rfl, hd, hre, az_nzn h2 h3⟩
        · exact ⟨z, .char, rfl, rfl, hd, hre, az_nchr h2 h3⟩
        · exact ⟨z, .byte, rfl, rfl, hd, hre, az_nb h2 h3⟩
      · cases hst
    · cases hst
  | lreturn =>
    have hd := az_dec_ok hdec (by simp [az_len])
    simp only [az_step] at hst
    split at hst
    · next x =>
      obtain ⟨z, xs1, rfl, rfl, h1⟩ := az_SR_L hSt
      have e : xs1 = [] := by
        cases xs1 with
        | nil => rfl
        | cons a b => exact h1.elim
      subst e
      split at hst
      · next hc =>
        simp only [Option.some.injEq, Sum.inr.injEq, Sum.inl.injEq] at hst
        subst hst
        rw [hc] at hre
        simp only [decide_eq_true_eq] at hre
        exact ⟨some (.long z), rfl, Or.inr (Or.inr (Or.inl ⟨z, rfl, rfl, hd, hre⟩))⟩
      · cases hst
    · cases hst
  | areturn =>
    have hd := az_dec_ok hdec (by simp [az_len])
    simp only [az_step] at hst
    split at hst
    · next r =>
      obtain ⟨xs1, rfl, h1⟩ := az_SR_R hSt
      have e : xs1 = [] := by
        cases xs1 with
        | nil => rfl
        | cons a b => exact h1.elim
      subst e
      split at hst
      · next hc =>
        simp only [Option.some.injEq, Sum.inr.injEq, Sum.inl.injEq] at hst
        subst hst
        rw [hc] at hre
        simp only [decide_eq_true_eq] at hre
        exact ⟨some (az_rf w r), rfl, Or.inr (Or.inr (Or.inr ⟨r, rfl, rfl, hd, _, hre⟩))⟩
      · cases hst
    · cases hst
  | return_ =>
    have hd := az_dec_ok hdec (by simp [az_len])
    simp only [az_step] at hst
    split at hst
    · cases xs with
      | nil =>
        split at hst
        · next hc =>
          simp only [Option.some.injEq, Sum.inr.injEq, Sum.inl.injEq] at hst
          subst hst
          rw [hc] at hre
          simp only [decide_eq_true_eq] at hre
          exact ⟨none, rfl, Or.inl ⟨rfl, rfl, hd, hre⟩⟩
        · cases hst
      | cons a b => exact hSt.elim
    · cases hst
  | _ =>
    exfalso
    revert hst
    simp only [az_step, az_nx, az_jmp, az_if2, az_if1, az_tsw, az_lsw, az_ldI, az_ldL, az_ldA, az_stI, az_stL, az_stA, az_b2, az_l2, az_li, az_u1, az_d2, az_dl2, az_ald, az_aald, az_aln, az_iast, az_bast, az_aast, az_get, az_put, az_gst, az_new, az_nwa, az_inv, az_cpy, az_ldc, az_ldc2, az_iinc]
    intro hst
    repeat' split at hst
    all_goals simp at hst
end JP
end
section
/-! THE INTERPRETER'S RUN IS THE MACHINE'S -/
theorem az_SR_at {w : aW} : ∀ {xs : List Value} {vs : aS}, az_SR w xs vs ↔ xs.length = vs.length ∧ ∀ (i : Nat) (x : Value) (v : aV), xs[i]? = some x → vs[i]? = some v → az_rv w v x
  | [], [] => ⟨fun _ => ⟨rfl, fun i x v h => by simp at h⟩, fun _ => trivial⟩
  | _ :: _, [] => ⟨fun h => h.elim, fun h => by simp at h⟩
  | [], _ :: _ => ⟨fun h => h.elim, fun h => by simp at h⟩
  | x :: xs, v :: vs => by
    refine ⟨fun h => ⟨by simp [az_SR_len h.2], fun i y u h1 h2 => ?_⟩, fun h => ⟨h.2 0 x v rfl rfl, az_SR_at.mpr ⟨by simpa using h.1, fun i y u h1 h2 => h.2 (i + 1) y u (by simpa using h1) (by simpa using h2)⟩⟩⟩
    cases i with
    | zero => simp at h1 h2; subst h1; subst h2; exact h.1
    | succ i => exact (az_SR_at.mp h.2).2 i y u (by simpa using h1) (by simpa using h2)
theorem az_SR_take {w : aW} {xs : List Value} {vs : aS} (k : Nat) (h : az_SR w xs vs) : az_SR w (xs.take k) (vs.take k) := by
  obtain ⟨h1, h2⟩ := az_SR_at.mp h
  refine az_SR_at.mpr ⟨by simp [h1], fun i x v a b => ?_⟩
  rw [List.getElem?_take] at a b
  split at a
  · next hi =>
    rw [if_pos hi] at b
    exact h2 i x v a b
  · cases a
theorem az_SR_drop {w : aW} {xs : List Value} {vs : aS} (k : Nat) (h : az_SR w xs vs) : az_SR w (xs.drop k) (vs.drop k) := by
  obtain ⟨h1, h2⟩ := az_SR_at.mp h
  refine az_SR_at.mpr ⟨by simp [h1], fun i x v a b => ?_⟩
  rw [List.getElem?_drop] at a b
  exact h2 _ x v a b
theorem az_SR_rev {w : aW} {xs : List Value} {vs : aS} (h : az_SR w xs vs) : az_SR w xs.reverse vs.reverse := by
  obtain ⟨h1, h2⟩ := az_SR_at.mp h
  refine az_SR_at.mpr ⟨by simp [h1], fun i x v a b => ?_⟩
  have hi : i < xs.length := by simpa using (List.getElem?_eq_some_iff.mp a).1
  rw [List.getElem?_reverse hi] at a
  rw [List.getElem?_reverse (by omega), ← h1] at b
  exact h2 _ x v a b
theorem az_SR_app {w : aW} : ∀ {xs ys : List Value} {vs us : aS}, az_SR w xs vs → az_SR w ys us → az_SR w (xs ++ ys) (vs ++ us)
  | [], _, [], _, _, h => h
  | _ :: _, _, [], _, h, _ => h.elim
  | [], _, _ :: _, _, h, _ => h.elim
  | _ :: _, _, _ :: _, _, h, h2 => ⟨h.1, az_SR_app h.2 h2⟩
/-- the locals at the start -/
theorem az_ent_at {w : aW} (hw : az_wok w) : ∀ (xs : List Value) (vs : aS) (b : Nat), az_SR w xs vs → (lg_sl xs).length = (az_args vs).length ∧ ∀ (i : Nat) (v : aV), (az_args vs)[i]? = some (some v) → ∃ x, (b + i, x) ∈ lv_args b xs ∧ az_rv w v x
  | [], [], b, _ => ⟨rfl, fun i v h => by simp [az_args] at h⟩
  | _ :: _, [], _, h => h.elim
  | [], _ :: _, _, h => h.elim
  | x :: xs, v :: vs, b, h => by
    have hc := az_rv_cat hw h.1
    have hsl : lg_sl (x :: xs) = (if x.category = 2 then [Slot.val x, .second] else [Slot.val x]) ++ lg_sl xs := rfl
    have hla : lv_args b (x :: xs) = (b, x) :: lv_args (if x.category = 2 then b + 2 else b + 1) xs := rfl
    rw [hsl, hla]
    rcases v with y | y | r
    · have hc2 : ¬ x.category = 2 := by rw [hc]; simp [az_cat]
      obtain ⟨i1, i2⟩ := az_ent_at hw xs vs (b + 1) h.2
      have ha : az_args (Sum.inl y :: vs) = some (Sum.inl y) :: az_args vs := rfl
      rw [ha, if_neg hc2, if_neg hc2]
      refine ⟨by simp [i1], fun i u hu => ?_⟩
      cases i with
      | zero => simp at hu; subst hu; exact ⟨x, List.mem_cons_self, h.1⟩
      | succ i =>
        obtain ⟨q, q1, q2⟩ := i2 i u (by simpa using hu)
        exact ⟨q, List.mem_cons_of_mem _ (by rw [show b + (i + 1) = b + 1 + i by omega]; exact q1), q2⟩
    · have hc2 : x.category = 2 := by rw [hc]; rfl
      obtain ⟨i1, i2⟩ := az_ent_at hw xs vs (b + 2) h.2
      have ha : az_args (Sum.inr (Sum.inl y) :: vs) = some (Sum.inr (Sum.inl y)) :: none :: az_args vs := rfl
      rw [ha, if_pos hc2, if_pos hc2]
      refine ⟨by simp [i1], fun i u hu => ?_⟩
      match i, hu with
      | 0, hu => simp at hu; subst hu; exact ⟨x, List.mem_cons_self, h.1⟩
      | 1, hu => simp at hu
      | i + 2, hu =>
        obtain ⟨q, q1, q2⟩ := i2 i u (by simpa using hu)
        exact ⟨q, List.mem_cons_of_mem _ (by rw [show b + (i + 2) = b + 2 + i by omega]; exact q1), q2⟩
    · have hc2 : ¬ x.category = 2 := by rw [hc]; simp [az_cat]
      obtain ⟨i1, i2⟩ := az_ent_at hw xs vs (b + 1) h.2
      have ha : az_args (Sum.inr (Sum.inr r) :: vs) = some (Sum.inr (Sum.inr r)) :: az_args vs := rfl
      rw [ha, if_neg hc2, if_neg hc2]
      refine ⟨by simp [i1], fun i u hu => ?_⟩
      cases i with
      | zero => simp at hu; subst hu; exact ⟨x, List.mem_cons_self, h.1⟩
      | succ i =>
        obtain ⟨q, q1, q2⟩ := i2 i u (by simpa using hu)
        exact ⟨q, List.mem_cons_of_mem _ (by rw [show b + (i + 1) = b + 1 + i by omega]; exact q1), q2⟩
theorem az_entry {w : aW} (hw : az_wok w) {xs : List Value} {vs : aS} {n : Nat} (h : az_SR w xs vs) (hn : (az_args vs).length ≤ n) : az_LR w ((lg_sl xs ++ List.replicate (n - (lg_sl xs).length) Slot.unset).toArray) n (az_ent vs n) := by
  obtain ⟨h1, h2⟩ := az_ent_at hw xs vs 0 h
  have hl := lv_entry xs (n := n) (by omega)
  refine ⟨hl.1, hl.2.1, by simp [az_ent]; omega, fun i v hi => ?_⟩
  unfold az_ent at hi
  by_cases hil : i < (az_args vs).length
  · rw [List.getElem?_append_left hil] at hi
    obtain ⟨x, q1, q2⟩ := h2 i v hi
    exact ⟨x, hl.2.2 (i, x) (by simpa using q1), q2⟩
  · rw [List.getElem?_append_right (by omega), List.getElem?_replicate] at hi
    split at hi
    · cases hi
    · cases hi
/-- what is moved to another state of the tables -/
theorem az_Tt_warm {w : aW} {s U : State} (hW : s.WarmedH U.vm) (h : az_Tt w s) : az_Tt w U := ⟨fun q hq => (h.1 q hq).warmM hW, fun i q hq => (h.2.1 i q hq).warm hW, h.2.2.1.moved hW.alike, h.2.2.2.moved hW.alike⟩
theorem az_Tt_call {w : aW} {U : State} {f : JFrame} {mk : MethodId} {a : Array Value} (h : az_Tt w U) : az_Tt w (U.calling f mk a) := ⟨fun q hq => va_Nw.same rfl rfl (h.1 q hq), fun i q hq => (h.2.1 i q hq).same rfl, h.2.2.1.moved (Vm.Alike.refl U.vm), h.2.2.2.moved (Vm.Alike.refl U.vm)⟩
def az_ws (M : Nat) : List Cond := Cond.code (az_y M) (az_by M) (az_ml M) (az_re M) :: az_good
def az_rm (M mc ms : Nat) : Room := { frames := M + 1, cells := mc, slots := ms, locals := 64 * (M + 1) }
/-- the answer of a method -/
def az_rvO (w : aW) : Option aV → Option Value → Prop
  | none, none => True
  | some v, some x => az_rv w v x
  | _, _ => False
def az_Pm (w : aW) (sc : aX) (g : aG) (m : aM) (av : List Value) : Array Value → State → Prop := va_Pc av (fun U => az_Rh w sc U U.heap g m ∧ az_Tt w U)
def az_Qm (w : aW) (sc : aX) (r : Option aV × aG × aM) : Array Value → State → Outcome → State → Prop := fun _ _ o t => ∃ x, o = .returned x ∧ az_rvO w r.1 x ∧ az_Rh w sc t t.heap r.2.1 r.2.2
theorem az_Pm_blind {w : aW} {sc : aX} {g : aG} {m : aM} {av : List Value} : FrameBlind (az_Pm w sc g m av) := fun a U f mk q => ⟨q.1, az_Rh_moved (u := U) (U := U.calling f mk a) (Vm.Alike.refl U.vm) q.2.1, az_Tt_call q.2.2⟩
theorem az_good_in (M : Nat) (h : az_cw M) : GoodIn az_good (az_ws M) := fun v hv => by
  rcases List.mem_cons.mp hv with rfl | hv
  · exact ⟨h, az_good_ok _ h⟩
  · exact ⟨hv, az_good_ok _ hv⟩
theorem az_good_cons {a : Cond} {ws : List Cond} (h1 : a ∈ az_good) (h2 : GoodIn az_good ws) : GoodIn az_good (a :: ws) := fun v hv => by
  rcases List.mem_cons.mp hv with rfl | hv
  · exact ⟨h1, az_good_ok _ h1⟩
  · exact h2 v hv
section RUN
variable {p : Program} {la : Launch} {e : Env} {R : Room} {s : State} {mid : MethodId} {args : Array Value} {below : List Frame} {meth : Method} {cd : Code} {H : Heap} {locs : List Loc} {cells slots : Nat} {Q : State → Prop}
theorem az_W_run {pc : Nat} {ls : Array Slot} {rest st0 : List Value} {mc ms : Nat} {Qa : State → Outcome → State → Prop} {free : Addr → Prop} (hr : va_Run p la e R s mid args below meth cd H locs cells slots mc ms (F0 mid pc ls st0) rest Qa free)
    (kk : ∀ (v : Option Value) (st₀ t : State) (L : List Loc), s.vm.Alike t.vm → Qa st₀ (.returned v) t → (∀ q ∈ L, free q.base) → W p la e R s mid args below meth cd t.heap (locs ++ L) (cells + mc) (slots + ms) Q (F0 mid (pc + 3) ls (v.toList ++ rest))) : W p la e R s mid args below meth cd H locs cells slots Q (F0 mid pc ls st0) := by
  intro T hT X
  obtain ⟨v, st₀, t, T', L, h0, X', hL, e1, e2, hq, st⟩ := hr T hT X
  obtain ⟨t2, a1, b1⟩ := kk v st₀ t L (by rw [← e2]; exact X'.warmed.alike) hq hL T' e1 X'
  exact ⟨t2, st t2 a1, b1⟩
end RUN
end
section
/-! a call of ours -/
section CA
variable {p : Program} {la : Launch} {e : Env} {R : Room} {s : State} {mid : MethodId} {args : Array Value} {below : List Frame} {meth : Method} {cd : Code} {H : Heap} {locs : List Loc} {cells slots : Nat} {Q : State → Prop}
variable {w : aW} {sc : aX} {M pc : Nat} {ls : Array Slot} {xs rest : List Value} {l : aL} {st : aS} {g : aG} {m : aM} {f : List Int}
theorem az_i_call {M' k : Nat} (h : az_inv l st g m f = some (.inr (.inr (.inr (M', k))))) : ∃ (kd Mi n c : Int) (q : List Int), f = kd :: Mi :: n :: c :: q ∧ kd ≠ 9 ∧ kd ≠ 7 ∧ M' = Mi.toNat ∧ k = n.toNat ∧ n.toNat ≤ st.length ∧ (st.length : Int) ≤ n + 4 ∧ (kd = 2 ∨ kd = 5 ∨ (kd ≠ 2 ∧ kd ≠ 5 ∧ ∃ (a tg n2 : Nat) (rs : List Nat), st[n.toNat - 1]? = some (.inr (.inr (a + 1))) ∧ g[a]? = some (tg, n2, rs) ∧ (tg : Int) = c)) := by
  unfold az_inv at h
  split at h
  · split at h
    · split at h
      · simp [az_nx] at h
      · cases h
    · cases h
  · revert h
    unfold az_cpy
    intro h
    repeat' split at h
    all_goals simp [az_nx] at h
  · repeat' split at h
    all_goals simp [az_nx] at h
  · next kd Mi n c q k9 k7 =>
    split at h
    · next hc =>
      split at h
      · next hk =>
        simp only [Option.some.injEq, Sum.inr.injEq, Prod.mk.injEq] at h
        exact ⟨kd, Mi, n, c, q, rfl, k9, k7, h.1.symm, h.2.symm, hc.1, hc.2, by rcases hk with hk | hk <;> simp [hk]⟩
      · next hk =>
        split at h
        · next a ha =>
          split at h
          · next tg n2 rs hg =>
            split at h
            · next ht =>
              simp only [Option.some.injEq, Sum.inr.injEq, Prod.mk.injEq] at h
              exact ⟨kd, Mi, n, c, q, rfl, k9, k7, h.1.symm, h.2.symm, hc.1, hc.2, Or.inr (Or.inr ⟨fun z => hk (Or.inl z), fun z => hk (Or.inr z), a, tg, n2, rs, ha, hg, ht⟩)⟩
            · cases h
          · cases h
        · cases h
    · cases h
  · cases h
theorem az_i_invk {o : String} {x v : Nat} {kd Mi n c : Int} {q : List Int} (h : az_invk M o x v (kd :: Mi :: n :: c :: q) = true) (h9 : kd ≠ 9) (h7 : kd ≠ 7) : ∃ q1 q2 q3 q4, q = [q1, q2, q3, q4] ∧ az_invc M o x v kd Mi n c q1 q2 q3 q4 = true := by
  rcases q with _ | ⟨q1, _ | ⟨q2, _ | ⟨q3, _ | ⟨q4, _ | ⟨q5, q6⟩⟩⟩⟩⟩
  · revert h; unfold az_invk; split <;> simp_all
  · revert h; unfold az_invk; split <;> simp_all
  · revert h; unfold az_invk; split <;> simp_all
  · revert h; unfold az_invk; split <;> simp_all
  · refine ⟨q1, q2, q3, q4, rfl, ?_⟩
    revert h; unfold az_invk; split <;> simp_all
  · revert h; unfold az_invk; split <;> simp_all
theorem az_recv {a tg n : Nat} {rs : List Nat} (h : az_Rh w sc s H g m) (hg : g[a]? = some (tg, n, rs)) (ht : tg ≤ 9) : az_rf w (a + 1) = .ref (az_ad w a) ∧ ∃ cell : Cell, H[az_ad w a]? = some cell ∧ cell.vm.isStatics = false ∧ s.vm.findClass (az_R tg) = some cell.cls := by
  refine ⟨az_rf_s (az_ad_ne1 h hg (by omega)), ?_⟩
  by_cases h9 : tg < 9
  · obtain ⟨-, -, -, fs, -, ⟨cell, q1, q2, q3, -⟩, -⟩ := az_obj h hg h9
    exact ⟨cell, q1, by rw [q3]; rfl, by rw [q2]; exact (h.1.1 tg _ (az_cls_at h9)).2.1⟩
  · have h9 : tg = 9 := by omega
    subst h9
    have ha : a < 19 := Nat.not_le.mp fun ha => by
      rcases h.2.2.2.2.2.2 a 9 n rs ha hg with ⟨h8, -⟩ | ⟨h8, -⟩ <;> omega
    rw [(h.2.2.2.2.2.1 a ha).1] at hg
    rcases az_g0_tags a ha 9 n rs hg with ⟨-, e2, -⟩ | ⟨i, hi, -, e2, -⟩ | ⟨j, hj, e1, -, e3⟩ | ⟨-, e2⟩
    · omega
    · omega
    · obtain ⟨⟨cell, c1, c2, c3, -⟩, -⟩ := h.2.1.2.2.2.2.1 j hj
      subst e1
      rw [az_ad_lo ha]
      exact ⟨cell, c1, c2, c3⟩
    · omega
theorem az_split {k : Nat} (hk : k ≤ xs.length) {v : Value} (h1 : 1 ≤ k) (hv : xs[k - 1]? = some v) : ∃ As : List Value, (xs.take k).reverse = v :: As ∧ xs = As.reverse ++ v :: xs.drop k ∧ As.length = k - 1 := by
  refine ⟨(xs.take (k - 1)).reverse, ?_, ?_, by simp; omega⟩
  · have : xs.take k = xs.take (k - 1) ++ [v] := by
      have h2 := List.take_add_one (l := xs) (i := k - 1)
      rw [show k - 1 + 1 = k by omega, hv] at h2
      exact h2
    rw [this]
    simp
  · rw [List.reverse_reverse]
    have h3 : xs = xs.take (k - 1) ++ xs.drop (k - 1) := (List.take_append_drop _ _).symm
    have h4 : xs.drop (k - 1) = v :: xs.drop k := by
      have hl : k - 1 < xs.length := by omega
      rw [List.drop_eq_getElem_cons hl, show k - 1 + 1 = k by omega]
      rw [List.getElem?_eq_getElem hl] at hv
      cases hv
      rfl
    rw [← h4]
    exact h3
set_option maxHeartbeats 4000000 in
theorem az_call {i : Instr} {M' k mc ms : Nat} {r : Option aV × aG × aM} (X : az_Cx M p s mid args meth cd) (hw : az_wok w) (hTt : az_Tt w s) (hR : M + 1 ≤ R.frames ∧ 64 * (M + 1) ≤ R.locals) (hdec : az_dec (az_by M) pc i = true) (hres : az_res M pc i f = true) (hst : az_step sc M i f l st g m = some (.inr (.inr (.inr (M', k))))) (hRh : az_Rh w sc s H g m) (hL : az_LR w ls (az_ml M) l) (hSt : az_SR w xs st)
    (hcw : ∀ N, N < 218 → az_cw N) (hml' : ∀ N, N < 219 → az_ml N ≤ 40) (hM218 : M < 219)
    (hM : ∀ av, az_SR w av ((st.take k).reverse) → Met la (az_y M') (az_ws M') (az_rm M' mc ms) (az_Pm w sc g m av) (az_Qm w sc r) mc ms (az_A w)) (hroom : cells + mc ≤ R.cells ∧ slots + ms ≤ R.slots)
    (K : ∀ (H' : Heap) (L : List Loc) (x : Option Value), az_rvO w r.1 x → az_Rh w sc s H' r.2.1 r.2.2 → (∀ q ∈ L, w.1 ≤ q.base) → W p la e R s mid args below meth cd H' (locs ++ L) (cells + mc) (slots + ms) Q (F0 mid (pc + 3) ls (x.toList ++ xs.drop k))) : M' < M ∧ az_len i = 3 ∧ W p la e R s mid args below meth cd H locs cells slots Q (F0 mid pc ls xs) := by
  obtain ⟨hx, hb, hml, hown, hts, hnm⟩ := X
  have hlen := az_SR_len hSt
  have hpre : ∀ (av : List Value) (U : State), U.heap = H → s.WarmedH U.vm → az_Pm w sc g m av av.toArray U := fun av U hU hW => ⟨rfl, by rw [hU]; exact az_Rh_moved hW.alike hRh, az_Tt_warm hW hTt⟩
  have fin : ∀ {a : Array Value} {rest st0 : List Value}, va_Run p la e R s mid args below meth cd H locs cells slots mc ms (F0 mid pc ls st0) rest (az_Qm w sc r a) (az_A w) → rest = xs.drop k → W p la e R s mid args below meth cd H locs cells slots Q (F0 mid pc ls st0) := by
    intro a rest st0 hr hrest
    subst hrest
    refine az_W_run hr (fun v st₀ t L hal hq hLl => ?_)
    obtain ⟨x1, hx1, hx2, hx3⟩ := hq
    cases hx1
    exact K t.heap L _ hx2 (az_Rh_moved hal.symm hx3) hLl
  have hwd : k ≤ st.length → st.length ≤ k + 4 → ((xs.drop k).map fun v => v.category).sum ≤ 8 := fun h1 h2 => by
    have := az_SR_words hw (az_SR_drop k hSt)
    rw [List.length_drop] at this
    omega
  have hroom2 : M' < M → (az_rm M' mc ms).frames + 1 ≤ R.frames ∧ 8 + (az_ml M' + 11) + (az_rm M' mc ms).locals ≤ R.locals := fun h => by
    have := hml' M' (by omega)
    show M' + 1 + 1 ≤ R.frames ∧ 8 + (az_ml M' + 11) + 64 * (M' + 1) ≤ R.locals
    omega
  cases i with
  | invokevirtual x =>
    have hd := az_dec_ok hdec (by simp [az_len])
    obtain ⟨kd, Mi, n, c, q, rfl, k9, k7, rfl, rfl, n1, n2, hh⟩ := az_i_call hst
    obtain ⟨q1, q2, q3, q4, rfl, hrs⟩ := az_i_invk (x := x) (v := 1) hres k9 k7
    · simp only [az_invc, Bool.and_eq_true, decide_eq_true_eq] at hrs
      obtain ⟨⟨m0, m1, m2⟩, ⟨⟨u1, u2⟩, u3⟩, ⟨⟨⟨⟨v1, v2, v3, v4, v5⟩, v6⟩, v7⟩, v8⟩, v9⟩ := hrs
      subst v6
      rcases hh with hh | hh | ⟨-, -, a, tg, n3, rs, ha, hg, htg⟩
      · omega
      · omega
      · have hMlt : Mi.toNat < M := by omega
        refine ⟨hMlt, rfl, ?_⟩
        have hct : c.toNat = tg := by omega
        obtain ⟨e1, cell, c1, c2, c3⟩ := az_recv hRh hg (by omega)
        have hxv : xs[n.toNat - 1]? = some (.ref (az_ad w a)) := by
          have hl1 : n.toNat - 1 < xs.length := by omega
          have := (az_SR_at.mp hSt).2 (n.toNat - 1) _ _ (List.getElem?_eq_getElem hl1) ha
          rw [List.getElem?_eq_getElem hl1, show xs[n.toNat - 1] = az_rf w (a + 1) from this, e1]
        obtain ⟨As, a1, a2, a3⟩ := az_split (by omega) (by omega) hxv
        refine fin (va_runV (As := As) (rest := xs.drop n.toNat) (b := az_ad w a) (C := (az_y Mi.toNat).cls) (n := n.toNat - 1) ⟨hx, hb, hml, hown, hts⟩ (hM (.ref (az_ad w a) :: As) (by rw [← a1]; exact az_SR_rev (az_SR_take _ hSt)))
          (cwV (n.toNat - 1) hts (az_good_cons (az_hw_in v7) (az_good_cons (az_hw_in v8) (az_good_cons (az_hw_in v9) (az_good_cons (az_hw_in u3) (az_good_in _ (hcw _ (by omega))))))) rfl rfl rfl ⟨rfl, u1, u2, v5⟩ (hroom2 hMlt))
          ⟨az_Pm_blind, ⟨cell, c1, c2, by rw [← v2, hct]; exact c3⟩, fun U hU hW => hpre _ U hU hW⟩ rfl a3 hL.1 a2 (lv_room (hwd n1 (by omega))) hd hroom) rfl
  | invokestatic x =>
    have hd := az_dec_ok hdec (by simp [az_len])
    obtain ⟨kd, Mi, n, c, q, rfl, k9, k7, rfl, rfl, n1, n2, hh⟩ := az_i_call hst
    obtain ⟨q1, q2, q3, q4, rfl, hrs⟩ := az_i_invk (x := x) (v := 2) hres k9 k7
    · simp only [az_invc, Bool.and_eq_true, Bool.or_eq_true, decide_eq_true_eq] at hrs
      obtain ⟨⟨m0, m1, m2⟩, ⟨⟨u1, u2⟩, u3⟩, ⟨v1, v2⟩, v3⟩ := hrs
      have hMlt : Mi.toNat < M := by omega
      refine ⟨hMlt, rfl, ?_⟩
      clear hh
      have hst4 : st.length ≤ n.toNat + 4 := by omega
      have hMi : Mi.toNat < 218 := by omega
      have hav : (xs.take n.toNat).reverse.reverse ++ xs.drop n.toNat = xs := by rw [List.reverse_reverse]; exact List.take_append_drop _ _
      have hal : (xs.take n.toNat).reverse.length = n.toNat := by simp; omega
      rcases v2 with ⟨-, v2⟩ | ⟨-, v2⟩
      · exact fin (va_runS (As := (xs.take n.toNat).reverse) (rest := xs.drop n.toNat) (n := n.toNat) ⟨hx, hb, hml, hown, hts⟩ (hM _ (az_SR_rev (az_SR_take _ hSt)))
          (va_cwS n.toNat hts (az_good_cons (az_hw_in v2) (az_good_cons (az_hw_in v3) (az_good_cons (az_hw_in u3) (az_good_in _ (hcw _ hMi))))) rfl rfl rfl ⟨u1, u2, v1⟩ (hroom2 hMlt))
          ⟨az_Pm_blind, fun U hU hW => hpre _ U hU hW⟩ rfl hal hL.1 hav.symm (lv_room (hwd n1 hst4)) hd hroom) rfl
      · exact fin (va_runSN (As := (xs.take n.toNat).reverse) (rest := xs.drop n.toNat) (n := n.toNat) (host := "LastSun") ⟨hx, hb, hml, hown, hts⟩ (hM _ (az_SR_rev (az_SR_take _ hSt)))
          ⟨va_cnB n.toNat hts (az_good_in _ (hcw _ hMi)) rfl rfl rfl (hTt.1 _ v2) (hts _ (az_hw_in u3)) ⟨u1, u2, v1⟩ (hroom2 hMlt), hts _ (az_hw_in v3), trivial⟩
          ⟨az_Pm_blind, fun U hU hW => hpre _ U hU hW⟩ rfl hal hL.1 hav.symm (lv_room (hwd n1 hst4)) hd hroom) rfl
  | invokespecial x =>
    have hd := az_dec_ok hdec (by simp [az_len])
    obtain ⟨kd, Mi, n, c, q, rfl, k9, k7, rfl, rfl, n1, n2, hh⟩ := az_i_call hst
    obtain ⟨q1, q2, q3, q4, rfl, hrs⟩ := az_i_invk (x := x) (v := 3) hres k9 k7
    · simp only [az_invc, Bool.and_eq_true, Bool.or_eq_true, decide_eq_true_eq] at hrs
      obtain ⟨⟨m0, m1, m2⟩, ⟨⟨u1, u2⟩, u3⟩, ⟨⟨⟨v1, v2, v3, v4, v5⟩, v6⟩, v7⟩, v8, v9⟩ := hrs
      rcases hh with hh | hh | ⟨-, -, a, tg, n3, rs, ha, hg, htg⟩
      · omega
      · omega
      · have hMlt : Mi.toNat < M := by omega
        refine ⟨hMlt, rfl, ?_⟩
        obtain ⟨e1, cell, c1, c2, c3⟩ := az_recv hRh hg (by omega)
        have hxv : xs[n.toNat - 1]? = some (.ref (az_ad w a)) := by
          have hl1 : n.toNat - 1 < xs.length := by omega
          have := (az_SR_at.mp hSt).2 (n.toNat - 1) _ _ (List.getElem?_eq_getElem hl1) ha
          rw [List.getElem?_eq_getElem hl1, show xs[n.toNat - 1] = az_rf w (a + 1) from this, e1]
        obtain ⟨As, a1, a2, a3⟩ := az_split (by omega) (by omega) hxv
        have hM2 := hM (.ref (az_ad w a) :: As) (by rw [← a1]; exact az_SR_rev (az_SR_take _ hSt))
        have hws : az_ws Mi.toNat = Cond.code (az_y Mi.toNat) (az_by Mi.toNat) (az_ml Mi.toNat) none :: az_good := by unfold az_ws; rw [v9]
        rcases v6 with ⟨-, v6⟩ | ⟨-, v6⟩
        · exact fin (va_runI (As := As) (rest := xs.drop n.toNat) (b := az_ad w a) (n := n.toNat - 1) ⟨hx, hb, hml, hown, hts⟩ hM2
            (cwI (n.toNat - 1) hts (az_good_in _ (hcw _ (by omega))) hws rfl rfl (hts _ (az_hw_in u3)) (hts _ (az_hw_in v6)) (hts _ (az_hw_in v7)) v8 ⟨u1, u2, v5⟩ (hroom2 hMlt))
            ⟨az_Pm_blind, fun U hU hW => hpre _ U hU hW⟩ rfl a3 hL.1 a2 (lv_room (hwd n1 (by omega))) hd hroom) rfl
        · exact fin (va_runIN (As := As) (rest := xs.drop n.toNat) (b := az_ad w a) (n := n.toNat - 1) (host := "LastSun") ⟨hx, hb, hml, hown, hts⟩ hM2
            ⟨va_cnB (n.toNat - 1) hts (az_good_in _ (hcw _ (by omega))) hws rfl rfl (hTt.1 _ v6) (hts _ (az_hw_in u3)) ⟨u1, u2, v5⟩ (hroom2 hMlt), v8, hts _ (az_hw_in v7)⟩
            ⟨az_Pm_blind, fun U hU hW => hpre _ U hU hW⟩ rfl a3 hL.1 a2 (lv_room (hwd n1 (by omega))) hd hroom) rfl
  | _ =>
    exfalso
    revert hst
    simp only [az_step, az_nx, az_jmp, az_if2, az_if1, az_tsw, az_lsw, az_ldI, az_ldL, az_ldA, az_stI, az_stL, az_stA, az_b2, az_l2, az_li, az_u1, az_d2, az_dl2, az_ald, az_aald, az_aln, az_iast, az_bast, az_aast, az_get, az_put, az_gst, az_new, az_nwa, az_ldc, az_ldc2, az_iinc, az_irt]
    intro hst
    repeat' split at hst
    all_goals simp at hst
end CA
end
section
/-! the whole run, by its fuel -/
theorem az_step_grow {sc : aX} {M : Nat} {i : Instr} {f : List Int} {l l' : aL} {st st' : aS} {g g' : aG} {m m' : aM} (h : az_step sc M i f l st g m = some (.inl (l', st', g', m'))) : g.length ≤ g'.length ∧ az_sl g ≤ az_sl g' := by
  have key : (g' = g) ∨ (∃ q, g' = g ++ [q]) ∨ (∃ a t n rs rs', g[a]? = some (t, n, rs) ∧ g' = g.set a (t, n, rs')) := by
    cases i with
    | ldc x => obtain ⟨v, q, -, rfl, -⟩ := az_i_ldc h; exact Or.inl rfl
    | ldc_w x => obtain ⟨v, q, -, rfl, -⟩ := az_i_ldc h; exact Or.inl rfl
    | ldc2_w x => obtain ⟨v, q, -, -, -, rfl, -⟩ := az_i_ldc2 h; exact Or.inl rfl
    | iconst n => exact Or.inl (az_i_nx h).2.2.1
    | bipush n => exact Or.inl (az_i_nx h).2.2.1
    | sipush n => exact Or.inl (az_i_nx h).2.2.1
    | lconst n => exact Or.inl (az_i_nx h).2.2.1
    | iload_n k => obtain ⟨x, -, -, -, h, -⟩ := az_i_ldI h; exact Or.inl h
    | iload k => obtain ⟨x, -, -, -, h, -⟩ := az_i_ldI h; exact Or.inl h
    | lload_n k => obtain ⟨x, -, -, -, h, -⟩ := az_i_ldL h; exact Or.inl h
    | lload k => obtain ⟨x, -, -, -, h, -⟩ := az_i_ldL h; exact Or.inl h
    | aload_n k => obtain ⟨x, -, -, -, h, -⟩ := az_i_ldA h; exact Or.inl h
    | aload k => obtain ⟨x, -, -, -, h, -⟩ := az_i_ldA h; exact Or.inl h
    | istore_n k => obtain ⟨x, -, -, -, h, -⟩ := az_i_stI h; exact Or.inl h
    | istore k => obtain ⟨x, -, -, -, h, -⟩ := az_i_stI h; exact Or.inl h
    | lstore_n k => obtain ⟨x, -, -, -, h, -⟩ := az_i_stL h; exact Or.inl h
    | lstore k => obtain ⟨x, -, -, -, h, -⟩ := az_i_stL h; exact Or.inl h
    | astore_n k => obtain ⟨x, -, -, -, h, -⟩ := az_i_stA h; exact Or.inl h
    | astore k => obtain ⟨x, -, -, -, h, -⟩ := az_i_stA h; exact Or.inl h
    | iinc k c => obtain ⟨x, -, -, -, h, -⟩ := az_i_iinc h; exact Or.inl h
    | iadd => obtain ⟨y, x, s1, -, -, -, h, -⟩ := az_i_b2 h; exact Or.inl h
    | isub => obtain ⟨y, x, s1, -, -, -, h, -⟩ := az_i_b2 h; exact Or.inl h
    | imul => obtain ⟨y, x, s1, -, -, -, h, -⟩ := az_i_b2 h; exact Or.inl h
    | iand => obtain ⟨y, x, s1, -, -, -, h, -⟩ := az_i_b2 h; exact Or.inl h
    | ior => obtain ⟨y, x, s1, -, -, -, h, -⟩ := az_i_b2 h; exact Or.inl h
    | ixor => obtain ⟨y, x, s1, -, -, -, h, -⟩ := az_i_b2 h; exact Or.inl h
    | ishl => obtain ⟨y, x, s1, -, -, -, h, -⟩ := az_i_b2 h; exact Or.inl h
    | ishr => obtain ⟨y, x, s1, -, -, -, h, -⟩ := az_i_b2 h; exact Or.inl h
    | iushr => obtain ⟨y, x, s1, -, -, -, h, -⟩ := az_i_b2 h; exact Or.inl h
    | idiv => obtain ⟨y, x, s1, -, -, -, -, h, -⟩ := az_i_d2 h; exact Or.inl h
    | irem => obtain ⟨y, x, s1, -, -, -, -, h, -⟩ := az_i_d2 h; exact Or.inl h
    | ldiv => obtain ⟨y, x, s1, -, -, -, -, h, -⟩ := az_i_dl2 h; exact Or.inl h
    | lrem => obtain ⟨y, x, s1, -, -, -, -, h, -⟩ := az_i_dl2 h; exact Or.inl h
    | ineg => obtain ⟨x, s1, -, -, -, h, -⟩ := az_i_u1 h; exact Or.inl h
    | i2b => obtain ⟨x, s1, -, -, -, h, -⟩ := az_i_u1 h; exact Or.inl h
    | i2s => obtain ⟨x, s1, -, -, -, h, -⟩ := az_i_u1 h; exact Or.inl h
    | i2c => obtain ⟨x, s1, -, -, -, h, -⟩ := az_i_u1 h; exact Or.inl h
    | ladd => obtain ⟨y, x, s1, -, -, -, h, -⟩ := az_i_l2 h; exact Or.inl h
    | lsub => obtain ⟨y, x, s1, -, -, -, h, -⟩ := az_i_l2 h; exact Or.inl h
    | lmul => obtain ⟨y, x, s1, -, -, -, h, -⟩ := az_i_l2 h; exact Or.inl h
    | land => obtain ⟨y, x, s1, -, -, -, h, -⟩ := az_i_l2 h; exact Or.inl h
    | lor => obtain ⟨y, x, s1, -, -, -, h, -⟩ := az_i_l2 h; exact Or.inl h
    | lshl => obtain ⟨y, x, s1, -, -, -, h, -⟩ := az_i_li h; exact Or.inl h
    | lshr => obtain ⟨y, x, s1, -, -, -, h, -⟩ := az_i_li h; exact Or.inl h
    | if_icmp c o => obtain ⟨y, x, -, -, -, h, -⟩ := az_i_if2 h; exact Or.inl h
    | ifCond c o => obtain ⟨x, -, -, -, h, -⟩ := az_i_if1 h; exact Or.inl h
    | iaload => obtain ⟨j, a, s1, -, -, h, -⟩ := az_i_ald h; exact Or.inl h
    | baload => obtain ⟨j, a, s1, -, -, h, -⟩ := az_i_ald h; exact Or.inl h
    | aaload => obtain ⟨j, a, s1, t, n, rs, -, -, -, -, -, -, -, -, h, -⟩ := az_i_aald h; exact Or.inl h
    | arraylength => obtain ⟨a, s1, -, -, h, -⟩ := az_i_aln h; exact Or.inl h
    | iastore => obtain ⟨v, j, a, t, n, rs, -, -, -, -, -, -, -, h, -⟩ := az_i_iast h; exact Or.inl h
    | bastore => obtain ⟨v, j, a, t, n, rs, -, -, -, -, -, -, -, h, -⟩ := az_i_bast h; exact Or.inl h
    | aastore => obtain ⟨b, j, a, t, n, rs, t2, n2, rs2, -, hg, -, -, -, -, -, -, -, h, -⟩ := az_i_aast h; exact Or.inr (Or.inr ⟨a, t, n, rs, _, hg, h⟩)
    | getfield x => obtain ⟨a, s1, c, k, t, q, tg, n, rs, -, -, -, -, -, h, -⟩ := az_i_get h; exact Or.inl h
    | putfield x =>
      obtain ⟨a, c, k, t, q, tg, n, rs, -, hg, -, -, -, ⟨v, -, -, h, -⟩ | ⟨v, -, -, h, -⟩ | ⟨r, -, -, -, h, -⟩⟩ := az_i_put h
      · exact Or.inl h
      · exact Or.inl h
      · exact Or.inr (Or.inr ⟨a, tg, n, rs, _, hg, h⟩)
    | getstatic x => obtain ⟨q, -, h, -⟩ := az_i_gst h; exact Or.inl h
    | new x => obtain ⟨c, n, q, -, -, -, -, h, -⟩ := az_i_new h; exact Or.inr (Or.inl ⟨_, h⟩)
    | newarray x => obtain ⟨n, s1, t, q, -, -, -, -, -, -, -, h, -⟩ := az_i_nwa h; exact Or.inr (Or.inl ⟨_, h⟩)
    | anewarray x => obtain ⟨n, s1, t, q, -, -, -, -, -, -, -, h, -⟩ := az_i_nwa h; exact Or.inr (Or.inl ⟨_, h⟩)
    | invokevirtual x =>
      rcases az_i_inv h with ⟨q1, q2, a, -, -, -, -, -, h, -⟩ | ⟨q, -, h⟩ | ⟨k, q, -, -, h, -⟩
      · exact Or.inl h
      · obtain ⟨n, dp, d, sp, a, t, n0, rs, t2, n1, rs2, -, -, -, -, -, -, -, -, -, -, -, -, -, -, h, -⟩ := az_i_cpy h; exact Or.inl h
      · exact Or.inl h
    | invokestatic x =>
      rcases az_i_inv h with ⟨q1, q2, a, -, -, -, -, -, h, -⟩ | ⟨q, -, h⟩ | ⟨k, q, -, -, h, -⟩
      · exact Or.inl h
      · obtain ⟨n, dp, d, sp, a, t, n0, rs, t2, n1, rs2, -, -, -, -, -, -, -, -, -, -, -, -, -, -, h, -⟩ := az_i_cpy h; exact Or.inl h
      · exact Or.inl h
    | invokespecial x =>
      rcases az_i_inv h with ⟨q1, q2, a, -, -, -, -, -, h, -⟩ | ⟨q, -, h⟩ | ⟨k, q, -, -, h, -⟩
      · exact Or.inl h
      · obtain ⟨n, dp, d, sp, a, t, n0, rs, t2, n1, rs2, -, -, -, -, -, -, -, -, -, -, -, -, -, -, h, -⟩ := az_i_cpy h; exact Or.inl h
      · exact Or.inl h
    | _ =>
      revert h
      simp only [az_step, az_jmp, az_tsw, az_lsw, az_irt]
      intro h
      repeat' split at h
      all_goals first | exact Or.inl (az_i_nx h).2.2.1 | simp at h
  rcases key with rfl | ⟨q, rfl⟩ | ⟨a, t, n, rs, rs', h1, rfl⟩
  · exact ⟨Nat.le_refl _, Nat.le_refl _⟩
  · exact ⟨by simp, by rw [az_sl_push]; omega⟩
  · exact ⟨by simp, by rw [az_sl_set h1]; exact Nat.le_refl _⟩
theorem az_run_grow (sc : aX) : ∀ (n M : Nat) (c : aC) (l : aL) (st : aS) (g : aG) (m : aM) (r : Option aV × aG × aM), az_run sc n M c l st g m = some r → g.length ≤ r.2.1.length ∧ az_sl g ≤ az_sl r.2.1
  | 0, M, c, l, st, g, m, r, h => by simp [az_run] at h
  | n + 1, M, [], l, st, g, m, r, h => by simp [az_run] at h
  | n + 1, M, e :: c, l, st, g, m, r, h => by
    simp only [az_run] at h
    split at h
    · cases h
    · next o ho =>
      have h1 := az_step_grow (l' := o.1) (st' := o.2.1) (g' := o.2.2.1) (m' := o.2.2.2) ho
      have h2 := az_run_grow sc n _ _ _ _ _ _ _ h
      omega
    · exact az_run_grow sc n _ _ _ _ _ _ _ h
    · cases h
      exact ⟨Nat.le_refl _, Nat.le_refl _⟩
    · split at h
      · split at h
        · cases h
        · next r2 hr2 =>
          have h1 := az_run_grow sc n _ _ _ _ _ _ _ hr2
          have h2 := az_run_grow sc n _ _ _ _ _ _ _ h
          omega
      · cases h
end
section
/-! THE RUN -/
theorem az_okc_seek (M t : Nat) : ∀ c : aC, az_okc M c = true → az_okc M (az_seek t c) = true
  | [], _ => rfl
  | e :: c, h => by
    unfold az_seek
    split
    · exact h
    · simp only [az_okc, Bool.and_eq_true] at h
      exact az_okc_seek M t c h.2
theorem az_seek_head (t : Nat) : ∀ (c : aC) (e : aI) (c' : aC), az_seek t c = e :: c' → e.1 = t
  | [], _, _, h => by simp [az_seek] at h
  | e0 :: c, e, c', h => by
    unfold az_seek at h
    split at h
    · next h0 => cases h; exact h0
    · exact az_seek_head t c e c' h
theorem az_cd_lt {M : Nat} (h : az_cd M ≠ []) : M < 219 := by
  refine Nat.not_le.mp fun hM => h ?_
  unfold az_cd
  have hl : az_cds.length = 219 := by decide +kernel
  rw [List.getD_eq_getElem?_getD, List.getElem?_eq_none (by rw [hl]; exact hM)]
  rfl
theorem az_run_nil {sc : aX} {n M : Nat} {l : aL} {st : aS} {g : aG} {m : aM} : az_run sc n M [] l st g m = none := by
  cases n <;> rfl
theorem az_len_0 {sc : aX} {M : Nat} {i : Instr} {f : List Int} {l : aL} {st : aS} {g : aG} {m : aM} {o : aL × aS × aG × aM} (h : az_step sc M i f l st g m = some (.inl o)) : az_len i ≠ 0 := by
  cases i with
  | tableswitch a b c d =>
    simp only [az_step, az_tsw] at h
    split at h
    · split at h <;> simp at h
    · cases h
  | lookupswitch a b =>
    simp only [az_step, az_lsw] at h
    split at h
    · simp at h
    · cases h
  | _ => simp [az_len]
theorem az_len_3 {sc : aX} {M : Nat} {i : Instr} {f : List Int} {l : aL} {st : aS} {g : aG} {m : aM} {o : Nat × Nat} (h : az_step sc M i f l st g m = some (.inr (.inr (.inr o)))) : az_len i = 3 := by
  cases i with
  | invokevirtual x => rfl
  | invokestatic x => rfl
  | invokespecial x => rfl
  | _ =>
    exfalso
    revert h
    simp only [az_step, az_nx, az_jmp, az_if2, az_if1, az_tsw, az_lsw, az_ldI, az_ldL, az_ldA, az_stI, az_stL, az_stA, az_b2, az_l2, az_li, az_u1, az_d2, az_dl2, az_ald, az_aald, az_aln, az_iast, az_bast, az_aast, az_get, az_put, az_gst, az_new, az_nwa, az_ldc, az_ldc2, az_iinc, az_irt]
    intro h
    repeat' split at h
    all_goals simp at h
theorem az_hA {w : aW} {locs L : List Loc} (h1 : ∀ q ∈ locs, w.1 ≤ q.base) (h2 : ∀ q ∈ L, w.1 ≤ q.base) : ∀ q ∈ locs ++ L, w.1 ≤ q.base := fun q hq => (List.mem_append.mp hq).elim (h1 q) (h2 q)
set_option maxHeartbeats 4000000 in
theorem az_sound (la : Launch) (w : aW) (sc : aX) (hw : az_wok w) (hok : ∀ M, az_okc M (az_cd M) = true) (hokm : (List.range 219).all az_okm = true) (hcw : ∀ M, M < 218 → az_cw M) : ∀ (n M : Nat) (c : aC) (l : aL) (st : aS) (g : aG) (m : aM) (r : Option aV × aG × aM), az_run sc n M c l st g m = some r → az_okc M c = true → M < 219 →
    ∀ {p : Program} {e : Env} {R : Room} {s : State} {mid : MethodId} {args : Array Value} {below : List Frame} {meth : Method} {cd : Code} {H : Heap} {locs : List Loc} {ls : Array Slot} {xs : List Value} {Q : State → Prop} {c0 s0 pc : Nat}, c.head?.map (·.1) = some pc → az_Cx M p s mid args meth cd → az_Tt w s → (M + 1 ≤ R.frames ∧ 64 * (M + 1) ≤ R.locals) → (c0 ≤ g.length ∧ s0 ≤ az_sl g) → (r.2.1.length - c0 ≤ R.cells ∧ az_sl r.2.1 - s0 ≤ R.slots) → az_Rh w sc s H g m → (∀ q ∈ locs, w.1 ≤ q.base) → az_LR w ls (az_ml M) l → az_SR w xs st →
    (∀ (pc' : Nat) (H' : Heap) (locs' : List Loc) (ls' : Array Slot) (x : Option Value), az_Ret w M pc' r.1 x → az_Rh w sc s H' r.2.1 r.2.2 → (∀ q ∈ locs', w.1 ≤ q.base) → W p la e R s mid args below meth cd H' locs' (r.2.1.length - c0) (az_sl r.2.1 - s0) Q (F0 mid pc' ls' x.toList)) →
    W p la e R s mid args below meth cd H locs (g.length - c0) (az_sl g - s0) Q (F0 mid pc ls xs)
  | 0, M, c, l, st, g, m, r, h => by simp [az_run] at h
  | n + 1, M, [], l, st, g, m, r, h => by simp [az_run] at h
  | n + 1, M, e0 :: c, l, st, g, m, r, h => by
    intro hokc hM219 p e R s mid args below meth cd H locs ls xs Q c0 s0 pc hpc X hTt hR hcs hrm hRh hl hL hSt hE
    have hpc : e0.1 = pc := by simpa using hpc
    subst hpc
    have ih := az_sound la w sc hw hok hokm hcw n
    simp only [az_okc, Bool.and_eq_true] at hokc
    obtain ⟨⟨⟨hdec, hres⟩, hnext⟩, hokt⟩ := hokc
    have hgo : ∀ {l2 : aL} {st2 : aS} {g2 : aG} {m2 : aM}, az_run sc n M c l2 st2 g2 m2 = some r → az_len e0.2.1 ≠ 0 → c.head?.map (·.1) = some (e0.1 + az_len e0.2.1) := fun hr hl0 => by
      cases c with
      | nil => rw [az_run_nil] at hr; cases hr
      | cons e2 c2 =>
        simp only [Bool.or_eq_true, decide_eq_true_eq] at hnext
        simp [hnext.resolve_left hl0]
    simp only [az_run] at h
    split at h
    · cases h
    · next o ho =>
      have hgr := az_run_grow sc _ _ _ _ _ _ _ _ h
      have hg1 := az_step_grow (l' := o.1) (st' := o.2.1) (g' := o.2.2.1) (m' := o.2.2.2) ho
      exact az_next (l' := o.1) (st' := o.2.1) (g' := o.2.2.1) (m' := o.2.2.2) X hw hTt hR hcs (by omega) hdec hres ho hRh hl hL hSt (fun H' locs' ls' xs' a1 a2 a3 a4 => ih M c _ _ _ _ r h hokt hM219 (hgo h (az_len_0 ho)) X hTt hR (by omega) hrm a1 a2 a3 a4 hE)
    · next o ho =>
      have hs := az_okc_seek M o.1 (az_cd M) (hok M)
      refine az_jump (t := o.1) (st' := o.2) X hdec hres ho hSt (fun xs' a4 => ih M (az_seek o.1 (az_cd M)) _ _ _ _ r h hs hM219 ?_ X hTt hR hcs hrm hRh hl hL a4 hE)
      cases hz : az_seek o.1 (az_cd M) with
      | nil => rw [hz, az_run_nil] at h; cases h
      | cons e2 c2 => simp [az_seek_head _ _ _ _ hz]
    · next v hv =>
      cases h
      obtain ⟨x, rfl, hx⟩ := az_ends (az_okm_at hokm hM219) hdec hv hSt
      exact hE _ _ _ _ _ hx hRh hl
    · next o ho =>
      split at h
      · next hfit =>
        split at h
        · cases h
        · next r2 hr2 =>
          have hgr := az_run_grow sc _ _ _ _ _ _ _ _ h
          have hg2 := az_run_grow sc _ _ _ _ _ _ _ _ hr2
          have hne : az_cd o.1 ≠ [] := fun hz => by rw [hz, az_run_nil] at hr2; cases hr2
          have hM' := az_cd_lt hne
          have hom := az_okm_at hokm hM'
          simp only [az_okm, Bool.and_eq_true, decide_eq_true_eq] at hom
          have hm40 : ∀ N, N < 219 → az_ml N ≤ 40 := fun N hN => by
            have := az_okm_at hokm hN
            simp only [az_okm, Bool.and_eq_true, decide_eq_true_eq] at this
            exact this.1.2.1
          have hMet : ∀ av, az_SR w av ((st.take o.2).reverse) → Met la (az_y o.1) (az_ws o.1) (az_rm o.1 (r2.2.1.length - g.length) (az_sl r2.2.1 - az_sl g)) (az_Pm w sc g m av) (az_Qm w sc r2) (r2.2.1.length - g.length) (az_sl r2.2.1 - az_sl g) (az_A w) := fun av hav => by
            refine Met.ofW (cc := az_by o.1) (maxL := az_ml o.1) (ret := az_re o.1) hom.1.1 rfl ?_
            intro p e s mid args below meth cd s₁ B hml hv
            obtain ⟨rfl, hRh', hTt'⟩ := hv
            have hts := atoms_spec (ws := az_ws o.1) B.pre
            have hr := B.returns
            have hlocks := B.notSynchronized
            rw [lg_entry_eq]
            have key := ih o.1 (az_cd o.1) _ _ g m r2 hr2 (hok o.1) hM' (p := p) (e := e) (R := (headSpec (az_ws o.1) (az_rm o.1 (r2.2.1.length - g.length) (az_sl r2.2.1 - az_sl g))).room) (s := s) (mid := mid) (args := av.toArray) (below := below) (meth := meth) (cd := cd) (H := s.heap) (locs := []) (ls := (lg_sl av ++ List.replicate (az_ml o.1 - (lg_sl av).length) Slot.unset).toArray) (xs := []) (Q := MQ below (az_Qm w sc r2) av.toArray s (r2.2.1.length - g.length) (az_sl r2.2.1 - az_sl g) (az_A w)) (c0 := g.length) (s0 := az_sl g) (pc := 0)
              hom.1.2.2 ⟨B.exec, B.bytes, hml, findClass_of_methodNamed B.named, fun v hv => hts v (List.mem_cons_of_mem _ hv), fun hin => (name_of_methodNamed B.named B.method).1.trans hin⟩ hTt' ⟨Nat.le_refl _, Nat.le_refl _⟩ ⟨Nat.le_refl _, Nat.le_refl _⟩ ⟨Nat.le_refl _, Nat.le_refl _⟩ hRh' (fun q hq => by cases hq) (az_entry hw hav hfit) trivial
              (fun pc' H' locs' ls' x hx a1 a2 => by
                have hq : ∀ (x : Option Value), az_rvO w r2.1 x → ∀ t : State, t.heap = H' → s.WarmedH t.vm → az_Qm w sc r2 av.toArray s (.returned x) t := fun x hx t ht hW => ⟨x, rfl, hx, by rw [ht]; exact az_Rh_moved hW.alike a1⟩
                rcases hx with ⟨e1, rfl, hd, hre⟩ | ⟨z, ty, e1, rfl, hd, hre, hn⟩ | ⟨z, e1, rfl, hd, hre⟩ | ⟨rr, e1, rfl, hd, nn, hre⟩
                · exact W.vret B.exec B.bytes (hr.trans hre) (hq _ (by rw [e1]; trivial)) a2 hd hlocks
                · exact W.zret B.exec B.bytes (hr.trans hre) hn (hq _ (by rw [e1]; exact ⟨z, rfl, rfl⟩)) a2 hd hlocks
                · exact W.lret B.exec B.bytes (hr.trans hre) (hq _ (by rw [e1]; exact ⟨z, rfl, rfl⟩)) a2 hd hlocks
                · exact W.aret B.exec B.bytes (hr.trans hre) (Or.inl ⟨nn, rfl⟩) (az_rf_or hw rr) (hq _ (by rw [e1]; rfl)) a2 hd hlocks)
            rw [Nat.sub_self, Nat.sub_self] at key
            exact key
          refine (az_call (M' := o.1) (k := o.2) (r := r2) X hw hTt hR hdec hres ho hRh hL hSt hcw hm40 hM219 hMet (by omega) (fun H' L x b1 b2 b3 => ?_)).2.2
          have hl3 : az_len e0.2.1 = 3 := az_len_3 ho
          refine W.cs (cells' := r2.2.1.length - c0) (slots' := az_sl r2.2.1 - s0) (by omega) (by omega) ?_
          have hgo2 := hgo h (by omega)
          rw [hl3] at hgo2
          refine ih M c _ _ _ _ r h hokt hM219 hgo2 X hTt hR (by omega) hrm b2 (az_hA hl b3) hL ?_ hE
          refine az_SR_app ?_ (az_SR_drop _ hSt)
          cases hr1 : r2.1 with
          | none => rw [hr1] at b1; cases x with
            | none => trivial
            | some y => exact b1.elim
          | some v => rw [hr1] at b1; cases x with
            | none => exact b1.elim
            | some y => exact ⟨b1, trivial⟩
      · cases h
end
section
/-! the shapes behind both constructors; where the labels lie (written by gen.py) -/
def az_G1 : aG := [(99, 0, []), (99, 0, []), (20, 6, []), (9, 2, [12, 0]), (9, 2, [13, 0]), (9, 2, [14, 0]), (9, 2, [15, 0]), (9, 2, [16, 0]), (9, 2, [17, 0]), (9, 2, [18, 0]), (9, 2, [19, 0]), (21, 3, []), (21, 3, []), (21, 5, []), (21, 4, []), (21, 4, []), (21, 5, []), (21, 4, []), (21, 4, []), (7, 10, [21, 22, 23, 31, 39, 41, 235, 236, 246, 0]), (23, 8, [248, 250, 252, 254, 256, 258, 260, 262]), (24, 2, [264, 272]), (1, 16, [24, 25, 26, 27, 28, 29, 30, 0, 0, 0, 0, 0, 0, 0, 0, 0]), (20, 6, []), (20, 4, []), (20, 4, []), (20, 4, []), (20, 4, []), (20, 4, []), (20, 4, []), (1, 16, [32, 33, 34, 35, 36, 37, 38, 0, 0, 0, 0, 0, 0, 0, 0, 0]), (20, 6, []), (20, 4, []), (20, 4, []), (20, 4, []), (20, 4, []), (20, 4, []), (20, 4, []), (6, 7, [40, 0, 0, 0, 0, 0, 0]), (21, 400, []), (4, 3, [42, 0, 0]), (24, 24, [43, 51, 59, 67, 75, 83, 91, 99, 107, 115, 123, 131, 139, 147, 155, 163, 171, 179, 187, 195, 203, 211, 219, 227]), (1, 16, [44, 45, 46, 47, 48, 49, 50, 0, 0, 0, 0, 0, 0, 0, 0, 0]), (20, 6, []), (20, 4, []), (20, 4, []), (20, 4, []), (20, 4, []), (20, 4, []), (20, 4, []), (1, 16, [52, 53, 54, 55, 56, 57, 58, 0, 0, 0, 0, 0, 0, 0, 0, 0]), (20, 6, []), (20, 4, []), (20, 4, []), (20, 4, []), (20, 4, []), (20, 4, []), (20, 4, []), (1, 16, [60, 61, 62, 63, 64, 65, 66, 0, 0, 0, 0, 0, 0, 0, 0, 0]), (20, 6, []), (20, 4, []), (20, 4, []), (20, 4, []), (20, 4, []), (20, 4, []), (20, 4, []), (1, 16, [68, 69, 70, 71, 72, 73, 74, 0, 0, 0, 0, 0, 0, 0, 0, 0]), (20, 6, []), (20, 4, []), (20, 4, []), (20, 4, []), (20, 4, []), (20, 4, []), (20, 4, []), (1, 16, [76, 77, 78, 79, 80, 81, 82, 0, 0, 0, 0, 0, 0, 0, 0, 0]), (20, 6, []), (20, 4, []), (20, 4, []), (20, 4, []), (20, 4, []), (20, 4, []), (20, 4, []), (1, 16, [84, 85, 86, 87, 88, 89, 90, 0, 0, 0, 0, 0, 0, 0, 0, 0]), (20, 6, []), (20, 4, []), (20, 4, []), (20, 4, []), (20, 4, []), (20, 4, []), (20, 4, []), (1, 16, [92, 93, 94, 95, 96, 97, 98, 0, 0, 0, 0, 0, 0, 0, 0, 0]), (20, 6, []), (20, 4, []), (20, 4, []), (20, 4, []), (20, 4, []), (20, 4, []), (20, 4, []), (1, 16, [100, 101, 102, 103, 104, 105, 106, 0, 0, 0, 0, 0, 0, 0, 0, 0]), (20, 6, []), (20, 4, []), (20, 4, []), (20, 4, []), (20, 4, []), (20, 4, []), (20, 4, []), (1, 16, [108, 109, 110, 111, 112, 113, 114, 0, 0, 0, 0, 0, 0, 0, 0, 0]), (20, 6, []), (20, 4, []), (20, 4, []), (20, 4, []), (20, 4, []), (20, 4, []), (20, 4, []), (1, 16, [116, 117, 118, 119, 120, 121, 122, 0, 0, 0, 0, 0, 0, 0, 0, 0]), (20, 6, []), (20, 4, []), (20, 4, []), (20, 4, []), (20, 4, []), (20, 4, []), (20, 4, []), (1, 16, [124, 125, 126, 127, 128, 129, 130, 0, 0, 0, 0, 0, 0, 0, 0, 0]), (20, 6, []), (20, 4, []), (20, 4, []), (20, 4, []), (20, 4, []), (20, 4, []), (20, 4, []), (1, 16, [132, 133, 134, 135, 136, 137, 138, 0, 0, 0, 0, 0, 0, 0, 0, 0]), (20, 6, []), (20, 4, []), (20, 4, []), (20, 4, []), (20, 4, []), (20, 4, []), (20, 4, []), (1, 16, [140, 141, 142, 143, 144, 145, 146, 0, 0, 0, 0, 0, 0, 0, 0, 0]), (20, 6, []), (20, 4, []), (20, 4, []), (20, 4, []), (20, 4, []), (20, 4, []), (20, 4, []), (1, 16, [148, 149, 150, 151, 152, 153, 154, 0, 0, 0, 0, 0, 0, 0, 0, 0]), (20, 6, []), (20, 4, []), (20, 4, []), (20, 4, []), (20, 4, []), (20, 4, []), (20, 4, []), (1, 16, [156, 157, 158, 159, 160, 161, 162, 0, 0, 0, 0, 0, 0, 0, 0, 0]), (20, 6, []), (20, 4, []), (20, 4, []), (20, 4, []), (20, 4, []), (20, 4, []), (20, 4, []), (1, 16, [164, 165, 166, 167, 168, 169, 170, 0, 0, 0, 0, 0, 0, 0, 0, 0]), (20, 6, []), (20, 4, []), (20, 4, []), (20, 4, []), (20, 4, []), (20, 4, []), (20, 4, []), (1, 16, [172, 173, 174, 175, 176, 177, 178, 0, 0, 0, 0, 0, 0, 0, 0, 0]), (20, 6, []), (20, 4, []), (20, 4, []), (20, 4, []), (20, 4, []), (20, 4, []), (20, 4, []), (1, 16, [180, 181, 182, 183, 184, 185, 186, 0, 0, 0, 0, 0, 0, 0, 0, 0]), (20, 6, []), (20, 4, []), (20, 4, []), (20, 4, []), (20, 4, []), (20, 4, []), (20, 4, []), (1, 16, [188, 189, 190, 191, 192, 193, 194, 0, 0, 0, 0, 0, 0, 0, 0, 0]), (20, 6, []), (20, 4, []), (20, 4, []), (20, 4, []), (20, 4, []), (20, 4, []), (20, 4, []), (1, 16, [196, 197, 198, 199, 200, 201, 202, 0, 0, 0, 0, 0, 0, 0, 0, 0]), (20, 6, []), (20, 4, []), (20, 4, []), (20, 4, []), (20, 4, []), (20, 4, []), (20, 4, []), (1, 16, [204, 205, 206, 207, 208, 209, 210, 0, 0, 0, 0, 0, 0, 0, 0, 0]), (20, 6, []), (20, 4, []), (20, 4, []), (20, 4, []), (20, 4, []), (20, 4, []), (20, 4, []), (1, 16, [212, 213, 214, 215, 216, 217, 218, 0, 0, 0, 0, 0, 0, 0, 0, 0]), (20, 6, []), (20, 4, []), (20, 4, []), (20, 4, []), (20, 4, []), (20, 4, []), (20, 4, []), (1, 16, [220, 221, 222, 223, 224, 225, 226, 0, 0, 0, 0, 0, 0, 0, 0, 0]), (20, 6, []), (20, 4, []), (20, 4, []), (20, 4, []), (20, 4, []), (20, 4, []), (20, 4, []), (1, 16, [228, 229, 230, 231, 232, 233, 234, 0, 0, 0, 0, 0, 0, 0, 0, 0]), (20, 6, []), (20, 4, []), (20, 4, []), (20, 4, []), (20, 4, []), (20, 4, []), (20, 4, []), (3, 5, [236, 243, 244, 245, 0]), (2, 8, [237, 238, 239, 240, 241, 242, 0, 0]), (20, 6, []), (20, 4, []), (20, 4, []), (20, 4, []), (20, 24, []), (20, 4, []), (20, 7, []), (20, 4, []), (20, 4, []), (0, 2, [247, 0]), (20, 16, []), (5, 3, [249, 0, 0]), (20, 40, []), (5, 3, [251, 0, 0]), (20, 40, []), (5, 3, [253, 0, 0]), (20, 40, []), (5, 3, [255, 0, 0]), (20, 40, []), (5, 3, [257, 0, 0]), (20, 40, []), (5, 3, [259, 0, 0]), (20, 40, []), (5, 3, [261, 0, 0]), (20, 40, []), (5, 3, [263, 0, 0]), (20, 40, []), (1, 16, [265, 266, 267, 268, 269, 270, 271, 0, 0, 0, 0, 0, 0, 0, 0, 0]), (20, 6, []), (20, 4, []), (20, 4, []), (20, 4, []), (20, 4, []), (20, 4, []), (20, 4, []), (1, 16, [273, 274, 275, 276, 277, 278, 279, 0, 0, 0, 0, 0, 0, 0, 0, 0]), (20, 6, []), (20, 4, []), (20, 4, []), (20, 4, []), (20, 4, []), (20, 4, []), (20, 4, [])]
def az_Gm : aG := [(8, 25, [281, 282, 283, 0, 284, 0, 0, 0, 285, 0, 286, 287, 288, 0, 289, 0, 0, 0, 0, 0, 290, 291, 292, 0, 293]), (20, 8, []), (20, 8, []), (20, 320, []), (20, 400, []), (20, 44, []), (20, 1056, []), (20, 88, []), (22, 2, []), (20, 16, []), (20, 44, []), (20, 4, []), (20, 6, []), (20, 4, [])]
def az_G : aG := [(99, 0, []), (99, 0, []), (20, 6, []), (9, 2, [12, 0]), (9, 2, [13, 0]), (9, 2, [14, 0]), (9, 2, [15, 0]), (9, 2, [16, 0]), (9, 2, [17, 0]), (9, 2, [18, 0]), (9, 2, [19, 0]), (21, 3, []), (21, 3, []), (21, 5, []), (21, 4, []), (21, 4, []), (21, 5, []), (21, 4, []), (21, 4, []), (7, 10, [21, 22, 23, 31, 39, 41, 235, 236, 246, 0]), (23, 8, [248, 250, 252, 254, 256, 258, 260, 262]), (24, 2, [264, 272]), (1, 16, [24, 25, 26, 27, 28, 29, 30, 0, 0, 0, 0, 0, 0, 0, 0, 0]), (20, 6, []), (20, 4, []), (20, 4, []), (20, 4, []), (20, 4, []), (20, 4, []), (20, 4, []), (1, 16, [32, 33, 34, 35, 36, 37, 38, 0, 0, 0, 0, 0, 0, 0, 0, 0]), (20, 6, []), (20, 4, []), (20, 4, []), (20, 4, []), (20, 4, []), (20, 4, []), (20, 4, []), (6, 7, [40, 0, 0, 0, 0, 0, 0]), (21, 400, []), (4, 3, [42, 0, 0]), (24, 24, [43, 51, 59, 67, 75, 83, 91, 99, 107, 115, 123, 131, 139, 147, 155, 163, 171, 179, 187, 195, 203, 211, 219, 227]), (1, 16, [44, 45, 46, 47, 48, 49, 50, 0, 0, 0, 0, 0, 0, 0, 0, 0]), (20, 6, []), (20, 4, []), (20, 4, []), (20, 4, []), (20, 4, []), (20, 4, []), (20, 4, []), (1, 16, [52, 53, 54, 55, 56, 57, 58, 0, 0, 0, 0, 0, 0, 0, 0, 0]), (20, 6, []), (20, 4, []), (20, 4, []), (20, 4, []), (20, 4, []), (20, 4, []), (20, 4, []), (1, 16, [60, 61, 62, 63, 64, 65, 66, 0, 0, 0, 0, 0, 0, 0, 0, 0]), (20, 6, []), (20, 4, []), (20, 4, []), (20, 4, []), (20, 4, []), (20, 4, []), (20, 4, []), (1, 16, [68, 69, 70, 71, 72, 73, 74, 0, 0, 0, 0, 0, 0, 0, 0, 0]), (20, 6, []), (20, 4, []), (20, 4, []), (20, 4, []), (20, 4, []), (20, 4, []), (20, 4, []), (1, 16, [76, 77, 78, 79, 80, 81, 82, 0, 0, 0, 0, 0, 0, 0, 0, 0]), (20, 6, []), (20, 4, []), (20, 4, []), (20, 4, []), (20, 4, []), (20, 4, []), (20, 4, []), (1, 16, [84, 85, 86, 87, 88, 89, 90, 0, 0, 0, 0, 0, 0, 0, 0, 0]), (20, 6, []), (20, 4, []), (20, 4, []), (20, 4, []), (20, 4, []), (20, 4, []), (20, 4, []), (1, 16, [92, 93, 94, 95, 96, 97, 98, 0, 0, 0, 0, 0, 0, 0, 0, 0]), (20, 6, []), (20, 4, []), (20, 4, []), (20, 4, []), (20, 4, []), (20, 4, []), (20, 4, []), (1, 16, [100, 101, 102, 103, 104, 105, 106, 0, 0, 0, 0, 0, 0, 0, 0, 0]), (20, 6, []), (20, 4, []), (20, 4, []), (20, 4, []), (20, 4, []), (20, 4, []), (20, 4, []), (1, 16, [108, 109, 110, 111, 112, 113, 114, 0, 0, 0, 0, 0, 0, 0, 0, 0]), (20, 6, []), (20, 4, []), (20, 4, []), (20, 4, []), (20, 4, []), (20, 4, []), (20, 4, []), (1, 16, [116, 117, 118, 119, 120, 121, 122, 0, 0, 0, 0, 0, 0, 0, 0, 0]), (20, 6, []), (20, 4, []), (20, 4, []), (20, 4, []), (20, 4, []), (20, 4, []), (20, 4, []), (1, 16, [124, 125, 126, 127, 128, 129, 130, 0, 0, 0, 0, 0, 0, 0, 0, 0]), (20, 6, []), (20, 4, []), (20, 4, []), (20, 4, []), (20, 4, []), (20, 4, []), (20, 4, []), (1, 16, [132, 133, 134, 135, 136, 137, 138, 0, 0, 0, 0, 0, 0, 0, 0, 0]), (20, 6, []), (20, 4, []), (20, 4, []), (20, 4, []), (20, 4, []), (20, 4, []), (20, 4, []), (1, 16, [140, 141, 142, 143, 144, 145, 146, 0, 0, 0, 0, 0, 0, 0, 0, 0]), (20, 6, []), (20, 4, []), (20, 4, []), (20, 4, []), (20, 4, []), (20, 4, []), (20, 4, []), (1, 16, [148, 149, 150, 151, 152, 153, 154, 0, 0, 0, 0, 0, 0, 0, 0, 0]), (20, 6, []), (20, 4, []), (20, 4, []), (20, 4, []), (20, 4, []), (20, 4, []), (20, 4, []), (1, 16, [156, 157, 158, 159, 160, 161, 162, 0, 0, 0, 0, 0, 0, 0, 0, 0]), (20, 6, []), (20, 4, []), (20, 4, []), (20, 4, []), (20, 4, []), (20, 4, []), (20, 4, []), (1, 16, [164, 165, 166, 167, 168, 169, 170, 0, 0, 0, 0, 0, 0, 0, 0, 0]), (20, 6, []), (20, 4, []), (20, 4, []), (20, 4, []), (20, 4, []), (20, 4, []), (20, 4, []), (1, 16, [172, 173, 174, 175, 176, 177, 178, 0, 0, 0, 0, 0, 0, 0, 0, 0]), (20, 6, []), (20, 4, []), (20, 4, []), (20, 4, []), (20, 4, []), (20, 4, []), (20, 4, []), (1, 16, [180, 181, 182, 183, 184, 185, 186, 0, 0, 0, 0, 0, 0, 0, 0, 0]), (20, 6, []), (20, 4, []), (20, 4, []), (20, 4, []), (20, 4, []), (20, 4, []), (20, 4, []), (1, 16, [188, 189, 190, 191, 192, 193, 194, 0, 0, 0, 0, 0, 0, 0, 0, 0]), (20, 6, []), (20, 4, []), (20, 4, []), (20, 4, []), (20, 4, []), (20, 4, []), (20, 4, []), (1, 16, [196, 197, 198, 199, 200, 201, 202, 0, 0, 0, 0, 0, 0, 0, 0, 0]), (20, 6, []), (20, 4, []), (20, 4, []), (20, 4, []), (20, 4, []), (20, 4, []), (20, 4, []), (1, 16, [204, 205, 206, 207, 208, 209, 210, 0, 0, 0, 0, 0, 0, 0, 0, 0]), (20, 6, []), (20, 4, []), (20, 4, []), (20, 4, []), (20, 4, []), (20, 4, []), (20, 4, []), (1, 16, [212, 213, 214, 215, 216, 217, 218, 0, 0, 0, 0, 0, 0, 0, 0, 0]), (20, 6, []), (20, 4, []), (20, 4, []), (20, 4, []), (20, 4, []), (20, 4, []), (20, 4, []), (1, 16, [220, 221, 222, 223, 224, 225, 226, 0, 0, 0, 0, 0, 0, 0, 0, 0]), (20, 6, []), (20, 4, []), (20, 4, []), (20, 4, []), (20, 4, []), (20, 4, []), (20, 4, []), (1, 16, [228, 229, 230, 231, 232, 233, 234, 0, 0, 0, 0, 0, 0, 0, 0, 0]), (20, 6, []), (20, 4, []), (20, 4, []), (20, 4, []), (20, 4, []), (20, 4, []), (20, 4, []), (3, 5, [236, 243, 244, 245, 0]), (2, 8, [237, 238, 239, 240, 241, 242, 0, 0]), (20, 6, []), (20, 4, []), (20, 4, []), (20, 4, []), (20, 24, []), (20, 4, []), (20, 7, []), (20, 4, []), (20, 4, []), (0, 2, [247, 0]), (20, 16, []), (5, 3, [249, 0, 0]), (20, 40, []), (5, 3, [251, 0, 0]), (20, 40, []), (5, 3, [253, 0, 0]), (20, 40, []), (5, 3, [255, 0, 0]), (20, 40, []), (5, 3, [257, 0, 0]), (20, 40, []), (5, 3, [259, 0, 0]), (20, 40, []), (5, 3, [261, 0, 0]), (20, 40, []), (5, 3, [263, 0, 0]), (20, 40, []), (1, 16, [265, 266, 267, 268, 269, 270, 271, 0, 0, 0, 0, 0, 0, 0, 0, 0]), (20, 6, []), (20, 4, []), (20, 4, []), (20, 4, []), (20, 4, []), (20, 4, []), (20, 4, []), (1, 16, [273, 274, 275, 276, 277, 278, 279, 0, 0, 0, 0, 0, 0, 0, 0, 0]), (20, 6, []), (20, 4, []), (20, 4, []), (20, 4, []), (20, 4, []), (20, 4, []), (20, 4, []), (8, 25, [281, 282, 283, 0, 284, 0, 0, 0, 285, 0, 286, 287, 288, 0, 289, 0, 0, 0, 0, 0, 290, 291, 292, 0, 293]), (20, 8, []), (20, 8, []), (20, 320, []), (20, 400, []), (20, 44, []), (20, 1056, []), (20, 88, []), (22, 2, []), (20, 16, []), (20, 44, []), (20, 4, []), (20, 6, []), (20, 4, [])]
theorem g_2 : az_G[2]? = some (20, 6, []) := by decide +kernel
theorem g_3 : az_G[3]? = some (9, 2, [12, 0]) := by decide +kernel
theorem g_4 : az_G[4]? = some (9, 2, [13, 0]) := by decide +kernel
theorem g_5 : az_G[5]? = some (9, 2, [14, 0]) := by decide +kernel
theorem g_6 : az_G[6]? = some (9, 2, [15, 0]) := by decide +kernel
theorem g_7 : az_G[7]? = some (9, 2, [16, 0]) := by decide +kernel
theorem g_8 : az_G[8]? = some (9, 2, [17, 0]) := by decide +kernel
theorem g_9 : az_G[9]? = some (9, 2, [18, 0]) := by decide +kernel
theorem g_10 : az_G[10]? = some (9, 2, [19, 0]) := by decide +kernel
theorem g_11 : az_G[11]? = some (21, 3, []) := by decide +kernel
theorem g_12 : az_G[12]? = some (21, 3, []) := by decide +kernel
theorem g_13 : az_G[13]? = some (21, 5, []) := by decide +kernel
theorem g_14 : az_G[14]? = some (21, 4, []) := by decide +kernel
theorem g_15 : az_G[15]? = some (21, 4, []) := by decide +kernel
theorem g_16 : az_G[16]? = some (21, 5, []) := by decide +kernel
theorem g_17 : az_G[17]? = some (21, 4, []) := by decide +kernel
theorem g_18 : az_G[18]? = some (21, 4, []) := by decide +kernel
theorem g_19 : az_G[19]? = some (7, 10, [21, 22, 23, 31, 39, 41, 235, 236, 246, 0]) := by decide +kernel
theorem g_20 : az_G[20]? = some (23, 8, [248, 250, 252, 254, 256, 258, 260, 262]) := by decide +kernel
theorem g_21 : az_G[21]? = some (24, 2, [264, 272]) := by decide +kernel
theorem g_22 : az_G[22]? = some (1, 16, [24, 25, 26, 27, 28, 29, 30, 0, 0, 0, 0, 0, 0, 0, 0, 0]) := by decide +kernel
theorem g_23 : az_G[23]? = some (20, 6, []) := by decide +kernel
theorem g_24 : az_G[24]? = some (20, 4, []) := by decide +kernel
theorem g_25 : az_G[25]? = some (20, 4, []) := by decide +kernel
theorem g_26 : az_G[26]? = some (20, 4, []) := by decide +kernel
theorem g_27 : az_G[27]? = some (20, 4, []) := by decide +kernel
theorem g_28 : az_G[28]? = some (20, 4, []) := by decide +kernel
theorem g_29 : az_G[29]? = some (20, 4, []) := by decide +kernel
theorem g_30 : az_G[30]? = some (1, 16, [32, 33, 34, 35, 36, 37, 38, 0, 0, 0, 0, 0, 0, 0, 0, 0]) := by decide +kernel
theorem g_31 : az_G[31]? = some (20, 6, []) := by decide +kernel
theorem g_32 : az_G[32]? = some (20, 4, []) := by decide +kernel
theorem g_33 : az_G[33]? = some (20, 4, []) := by decide +kernel
theorem g_34 : az_G[34]? = some (20, 4, []) := by decide +kernel
theorem g_35 : az_G[35]? = some (20, 4, []) := by decide +kernel
theorem g_36 : az_G[36]? = some (20, 4, []) := by decide +kernel
theorem g_37 : az_G[37]? = some (20, 4, []) := by decide +kernel
theorem g_38 : az_G[38]? = some (6, 7, [40, 0, 0, 0, 0, 0, 0]) := by decide +kernel
theorem g_39 : az_G[39]? = some (21, 400, []) := by decide +kernel
theorem g_40 : az_G[40]? = some (4, 3, [42, 0, 0]) := by decide +kernel
theorem g_41 : az_G[41]? = some (24, 24, [43, 51, 59, 67, 75, 83, 91, 99, 107, 115, 123, 131, 139, 147, 155, 163, 171, 179, 187, 195, 203, 211, 219, 227]) := by decide +kernel
theorem g_42 : az_G[42]? = some (1, 16, [44, 45, 46, 47, 48, 49, 50, 0, 0, 0, 0, 0, 0, 0, 0, 0]) := by decide +kernel
theorem g_43 : az_G[43]? = some (20, 6, []) := by decide +kernel
theorem g_44 : az_G[44]? = some (20, 4, []) := by decide +kernel
theorem g_45 : az_G[45]? = some (20, 4, []) := by decide +kernel
theorem g_46 : az_G[46]? = some (20, 4, []) := by decide +kernel
theorem g_47 : az_G[47]? = some (20, 4, []) := by decide +kernel
theorem g_48 : az_G[48]? = some (20, 4, []) := by decide +kernel
theorem g_49 : az_G[49]? = some (20, 4, []) := by decide +kernel
theorem g_50 : az_G[50]? = some (1, 16, [52, 53, 54, 55, 56, 57, 58, 0, 0, 0, 0, 0, 0, 0, 0, 0]) := by decide +kernel
theorem g_51 : az_G[51]? = some (20, 6, []) := by decide +kernel
theorem g_52 : az_G[52]? = some (20, 4, []) := by decide +kernel
theorem g_53 : az_G[53]? = some (20, 4, []) := by decide +kernel
theorem g_54 : az_G[54]? = some (20, 4, []) := by decide +kernel
theorem g_55 : az_G[55]? = some (20, 4, []) := by decide +kernel
theorem g_56 : az_G[56]? = some (20, 4, []) := by decide +kernel
theorem g_57 : az_G[57]? = some (20, 4, []) := by decide +kernel
theorem g_58 : az_G[58]? = some (1, 16, [60, 61, 62, 63, 64, 65, 66, 0, 0, 0, 0, 0, 0, 0, 0, 0]) := by decide +kernel
theorem g_59 : az_G[59]? = some (20, 6, []) := by decide +kernel
theorem g_60 : az_G[60]? = some (20, 4, []) := by decide +kernel
theorem g_61 : az_G[61]? = some (20, 4, []) := by decide +kernel
theorem g_62 : az_G[62]? = some (20, 4, []) := by decide +kernel
theorem g_63 : az_G[63]? = some (20, 4, []) := by decide +kernel
theorem g_64 : az_G[64]? = some (20, 4, []) := by decide +kernel
theorem g_65 : az_G[65]? = some (20, 4, []) := by decide +kernel
theorem g_66 : az_G[66]? = some (1, 16, [68, 69, 70, 71, 72, 73, 74, 0, 0, 0, 0, 0, 0, 0, 0, 0]) := by decide +kernel
theorem g_67 : az_G[67]? = some (20, 6, []) := by decide +kernel
theorem g_68 : az_G[68]? = some (20, 4, []) := by decide +kernel
theorem g_69 : az_G[69]? = some (20, 4, []) := by decide +kernel
theorem g_70 : az_G[70]? = some (20, 4, []) := by decide +kernel
theorem g_71 : az_G[71]? = some (20, 4, []) := by decide +kernel
theorem g_72 : az_G[72]? = some (20, 4, []) := by decide +kernel
theorem g_73 : az_G[73]? = some (20, 4, []) := by decide +kernel
theorem g_74 : az_G[74]? = some (1, 16, [76, 77, 78, 79, 80, 81, 82, 0, 0, 0, 0, 0, 0, 0, 0, 0]) := by decide +kernel
theorem g_75 : az_G[75]? = some (20, 6, []) := by decide +kernel
theorem g_76 : az_G[76]? = some (20, 4, []) := by decide +kernel
theorem g_77 : az_G[77]? = some (20, 4, []) := by decide +kernel
theorem g_78 : az_G[78]? = some (20, 4, []) := by decide +kernel
theorem g_79 : az_G[79]? = some (20, 4, []) := by decide +kernel
theorem g_80 : az_G[80]? = some (20, 4, []) := by decide +kernel
theorem g_81 : az_G[81]? = some (20, 4, []) := by decide +kernel
theorem g_82 : az_G[82]? = some (1, 16, [84, 85, 86, 87, 88, 89, 90, 0, 0, 0, 0, 0, 0, 0, 0, 0]) := by decide +kernel
theorem g_83 : az_G[83]? = some (20, 6, []) := by decide +kernel
theorem g_84 : az_G[84]? = some (20, 4, []) := by decide +kernel
theorem g_85 : az_G[85]? = some (20, 4, []) := by decide +kernel
theorem g_86 : az_G[86]? = some (20, 4, []) := by decide +kernel
theorem g_87 : az_G[87]? = some (20, 4, []) := by decide +kernel
theorem g_88 : az_G[88]? = some (20, 4, []) := by decide +kernel
theorem g_89 : az_G[89]? = some (20, 4, []) := by decide +kernel
theorem g_90 : az_G[90]? = some (1, 16, [92, 93, 94, 95, 96, 97, 98, 0, 0, 0, 0, 0, 0, 0, 0, 0]) := by decide +kernel
theorem g_91 : az_G[91]? = some (20, 6, []) := by decide +kernel
theorem g_92 : az_G[92]? = some (20, 4, []) := by decide +kernel
theorem g_93 : az_G[93]? = some (20, 4, []) := by decide +kernel
theorem g_94 : az_G[94]? = some (20, 4, []) := by decide +kernel
theorem g_95 : az_G[95]? = some (20, 4, []) := by decide +kernel
theorem g_96 : az_G[96]? = some (20, 4, []) := by decide +kernel
theorem g_97 : az_G[97]? = some (20, 4, []) := by decide +kernel
theorem g_98 : az_G[98]? = some (1, 16, [100, 101, 102, 103, 104, 105, 106, 0, 0, 0, 0, 0, 0, 0, 0, 0]) := by decide +kernel
theorem g_99 : az_G[99]? = some (20, 6, []) := by decide +kernel
theorem g_100 : az_G[100]? = some (20, 4, []) := by decide +kernel
theorem g_101 : az_G[101]? = some (20, 4, []) := by decide +kernel
theorem g_102 : az_G[102]? = some (20, 4, []) := by decide +kernel
theorem g_103 : az_G[103]? = some (20, 4, []) := by decide +kernel
theorem g_104 : az_G[104]? = some (20, 4, []) := by decide +kernel
theorem g_105 : az_G[105]? = some (20, 4, []) := by decide +kernel
theorem g_106 : az_G[106]? = some (1, 16, [108, 109, 110, 111, 112, 113, 114, 0, 0, 0, 0, 0, 0, 0, 0, 0]) := by decide +kernel
theorem g_107 : az_G[107]? = some (20, 6, []) := by decide +kernel
theorem g_108 : az_G[108]? = some (20, 4, []) := by decide +kernel
theorem g_109 : az_G[109]? = some (20, 4, []) := by decide +kernel
theorem g_110 : az_G[110]? = some (20, 4, []) := by decide +kernel
theorem g_111 : az_G[111]? = some (20, 4, []) := by decide +kernel
theorem g_112 : az_G[112]? = some (20, 4, []) := by decide +kernel
theorem g_113 : az_G[113]? = some (20, 4, []) := by decide +kernel
theorem g_114 : az_G[114]? = some (1, 16, [116, 117, 118, 119, 120, 121, 122, 0, 0, 0, 0, 0, 0, 0, 0, 0]) := by decide +kernel
theorem g_115 : az_G[115]? = some (20, 6, []) := by decide +kernel
theorem g_116 : az_G[116]? = some (20, 4, []) := by decide +kernel
theorem g_117 : az_G[117]? = some (20, 4, []) := by decide +kernel
theorem g_118 : az_G[118]? = some (20, 4, []) := by decide +kernel
theorem g_119 : az_G[119]? = some (20, 4, []) := by decide +kernel
theorem g_120 : az_G[120]? = some (20, 4, []) := by decide +kernel
theorem g_121 : az_G[121]? = some (20, 4, []) := by decide +kernel
theorem g_122 : az_G[122]? = some (1, 16, [124, 125, 126, 127, 128, 129, 130, 0, 0, 0, 0, 0, 0, 0, 0, 0]) := by decide +kernel
theorem g_123 : az_G[123]? = some (20, 6, []) := by decide +kernel
theorem g_124 : az_G[124]? = some (20, 4, []) := by decide +kernel
theorem g_125 : az_G[125]? = some (20, 4, []) := by decide +kernel
theorem g_126 : az_G[126]? = some (20, 4, []) := by decide +kernel
theorem g_127 : az_G[127]? = some (20, 4, []) := by decide +kernel
theorem g_128 : az_G[128]? = some (20, 4, []) := by decide +kernel
theorem g_129 : az_G[129]? = some (20, 4, []) := by decide +kernel
theorem g_130 : az_G[130]? = some (1, 16, [132, 133, 134, 135, 136, 137, 138, 0, 0, 0, 0, 0, 0, 0, 0, 0]) := by decide +kernel
theorem g_131 : az_G[131]? = some (20, 6, []) := by decide +kernel
theorem g_132 : az_G[132]? = some (20, 4, []) := by decide +kernel
theorem g_133 : az_G[133]? = some (20, 4, []) := by decide +kernel
theorem g_134 : az_G[134]? = some (20, 4, []) := by decide +kernel
theorem g_135 : az_G[135]? = some (20, 4, []) := by decide +kernel
theorem g_136 : az_G[136]? = some (20, 4, []) := by decide +kernel
theorem g_137 : az_G[137]? = some (20, 4, []) := by decide +kernel
theorem g_138 : az_G[138]? = some (1, 16, [140, 141, 142, 143, 144, 145, 146, 0, 0, 0, 0, 0, 0, 0, 0, 0]) := by decide +kernel
theorem g_139 : az_G[139]? = some (20, 6, []) := by decide +kernel
theorem g_140 : az_G[140]? = some (20, 4, []) := by decide +kernel
theorem g_141 : az_G[141]? = some (20, 4, []) := by decide +kernel
theorem g_142 : az_G[142]? = some (20, 4, []) := by decide +kernel
theorem g_143 : az_G[143]? = some (20, 4, []) := by decide +kernel
theorem g_144 : az_G[144]? = some (20, 4, []) := by decide +kernel
theorem g_145 : az_G[145]? = some (20, 4, []) := by decide +kernel
theorem g_146 : az_G[146]? = some (1, 16, [148, 149, 150, 151, 152, 153, 154, 0, 0, 0, 0, 0, 0, 0, 0, 0]) := by decide +kernel
theorem g_147 : az_G[147]? = some (20, 6, []) := by decide +kernel
theorem g_148 : az_G[148]? = some (20, 4, []) := by decide +kernel
theorem g_149 : az_G[149]? = some (20, 4, []) := by decide +kernel
theorem g_150 : az_G[150]? = some (20, 4, []) := by decide +kernel
theorem g_151 : az_G[151]? = some (20, 4, []) := by decide +kernel
theorem g_152 : az_G[152]? = some (20, 4, []) := by decide +kernel
theorem g_153 : az_G[153]? = some (20, 4, []) := by decide +kernel
theorem g_154 : az_G[154]? = some (1, 16, [156, 157, 158, 159, 160, 161, 162, 0, 0, 0, 0, 0, 0, 0, 0, 0]) := by decide +kernel
theorem g_155 : az_G[155]? = some (20, 6, []) := by decide +kernel
theorem g_156 : az_G[156]? = some (20, 4, []) := by decide +kernel
theorem g_157 : az_G[157]? = some (20, 4, []) := by decide +kernel
theorem g_158 : az_G[158]? = some (20, 4, []) := by decide +kernel
theorem g_159 : az_G[159]? = some (20, 4, []) := by decide +kernel
theorem g_160 : az_G[160]? = some (20, 4, []) := by decide +kernel
theorem g_161 : az_G[161]? = some (20, 4, []) := by decide +kernel
theorem g_162 : az_G[162]? = some (1, 16, [164, 165, 166, 167, 168, 169, 170, 0, 0, 0, 0, 0, 0, 0, 0, 0]) := by decide +kernel
theorem g_163 : az_G[163]? = some (20, 6, []) := by decide +kernel
theorem g_164 : az_G[164]? = some (20, 4, []) := by decide +kernel
theorem g_165 : az_G[165]? = some (20, 4, []) := by decide +kernel
theorem g_166 : az_G[166]? = some (20, 4, []) := by decide +kernel
theorem g_167 : az_G[167]? = some (20, 4, []) := by decide +kernel
theorem g_168 : az_G[168]? = some (20, 4, []) := by decide +kernel
theorem g_169 : az_G[169]? = some (20, 4, []) := by decide +kernel
theorem g_170 : az_G[170]? = some (1, 16, [172, 173, 174, 175, 176, 177, 178, 0, 0, 0, 0, 0, 0, 0, 0, 0]) := by decide +kernel
theorem g_171 : az_G[171]? = some (20, 6, []) := by decide +kernel
theorem g_172 : az_G[172]? = some (20, 4, []) := by decide +kernel
theorem g_173 : az_G[173]? = some (20, 4, []) := by decide +kernel
theorem g_174 : az_G[174]? = some (20, 4, []) := by decide +kernel
theorem g_175 : az_G[175]? = some (20, 4, []) := by decide +kernel
theorem g_176 : az_G[176]? = some (20, 4, []) := by decide +kernel
theorem g_177 : az_G[177]? = some (20, 4, []) := by decide +kernel
theorem g_178 : az_G[178]? = some (1, 16, [180, 181, 182, 183, 184, 185, 186, 0, 0, 0, 0, 0, 0, 0, 0, 0]) := by decide +kernel
theorem g_179 : az_G[179]? = some (20, 6, []) := by decide +kernel
theorem g_180 : az_G[180]? = some (20, 4, []) := by decide +kernel
theorem g_181 : az_G[181]? = some (20, 4, []) := by decide +kernel
theorem g_182 : az_G[182]? = some (20, 4, []) := by decide +kernel
theorem g_183 : az_G[183]? = some (20, 4, []) := by decide +kernel
theorem g_184 : az_G[184]? = some (20, 4, []) := by decide +kernel
theorem g_185 : az_G[185]? = some (20, 4, []) := by decide +kernel
theorem g_186 : az_G[186]? = some (1, 16, [188, 189, 190, 191, 192, 193, 194, 0, 0, 0, 0, 0, 0, 0, 0, 0]) := by decide +kernel
theorem g_187 : az_G[187]? = some (20, 6, []) := by decide +kernel
theorem g_188 : az_G[188]? = some (20, 4, []) := by decide +kernel
theorem g_189 : az_G[189]? = some (20, 4, []) := by decide +kernel
theorem g_190 : az_G[190]? = some (20, 4, []) := by decide +kernel
theorem g_191 : az_G[191]? = some (20, 4, []) := by decide +kernel
theorem g_192 : az_G[192]? = some (20, 4, []) := by decide +kernel
theorem g_193 : az_G[193]? = some (20, 4, []) := by decide +kernel
theorem g_194 : az_G[194]? = some (1, 16, [196, 197, 198, 199, 200, 201, 202, 0, 0, 0, 0, 0, 0, 0, 0, 0]) := by decide +kernel
theorem g_195 : az_G[195]? = some (20, 6, []) := by decide +kernel
theorem g_196 : az_G[196]? = some (20, 4, []) := by decide +kernel
theorem g_197 : az_G[197]? = some (20, 4, []) := by decide +kernel
theorem g_198 : az_G[198]? = some (20, 4, []) := by decide +kernel
theorem g_199 : az_G[199]? = some (20, 4, []) := by decide +kernel
theorem g_200 : az_G[200]? = some (20, 4, []) := by decide +kernel
theorem g_201 : az_G[201]? = some (20, 4, []) := by decide +kernel
theorem g_202 : az_G[202]? = some (1, 16, [204, 205, 206, 207, 208, 209, 210, 0, 0, 0, 0, 0, 0, 0, 0, 0]) := by decide +kernel
theorem g_203 : az_G[203]? = some (20, 6, []) := by decide +kernel
theorem g_204 : az_G[204]? = some (20, 4, []) := by decide +kernel
theorem g_205 : az_G[205]? = some (20, 4, []) := by decide +kernel
theorem g_206 : az_G[206]? = some (20, 4, []) := by decide +kernel
theorem g_207 : az_G[207]? = some (20, 4, []) := by decide +kernel
theorem g_208 : az_G[208]? = some (20, 4, []) := by decide +kernel
theorem g_209 : az_G[209]? = some (20, 4, []) := by decide +kernel
theorem g_210 : az_G[210]? = some (1, 16, [212, 213, 214, 215, 216, 217, 218, 0, 0, 0, 0, 0, 0, 0, 0, 0]) := by decide +kernel
theorem g_211 : az_G[211]? = some (20, 6, []) := by decide +kernel
theorem g_212 : az_G[212]? = some (20, 4, []) := by decide +kernel
theorem g_213 : az_G[213]? = some (20, 4, []) := by decide +kernel
theorem g_214 : az_G[214]? = some (20, 4, []) := by decide +kernel
theorem g_215 : az_G[215]? = some (20, 4, []) := by decide +kernel
theorem g_216 : az_G[216]? = some (20, 4, []) := by decide +kernel
theorem g_217 : az_G[217]? = some (20, 4, []) := by decide +kernel
theorem g_218 : az_G[218]? = some (1, 16, [220, 221, 222, 223, 224, 225, 226, 0, 0, 0, 0, 0, 0, 0, 0, 0]) := by decide +kernel
theorem g_219 : az_G[219]? = some (20, 6, []) := by decide +kernel
theorem g_220 : az_G[220]? = some (20, 4, []) := by decide +kernel
theorem g_221 : az_G[221]? = some (20, 4, []) := by decide +kernel
theorem g_222 : az_G[222]? = some (20, 4, []) := by decide +kernel
theorem g_223 : az_G[223]? = some (20, 4, []) := by decide +kernel
theorem g_224 : az_G[224]? = some (20, 4, []) := by decide +kernel
theorem g_225 : az_G[225]? = some (20, 4, []) := by decide +kernel
theorem g_226 : az_G[226]? = some (1, 16, [228, 229, 230, 231, 232, 233, 234, 0, 0, 0, 0, 0, 0, 0, 0, 0]) := by decide +kernel
theorem g_227 : az_G[227]? = some (20, 6, []) := by decide +kernel
theorem g_228 : az_G[228]? = some (20, 4, []) := by decide +kernel
theorem g_229 : az_G[229]? = some (20, 4, []) := by decide +kernel
theorem g_230 : az_G[230]? = some (20, 4, []) := by decide +kernel
theorem g_231 : az_G[231]? = some (20, 4, []) := by decide +kernel
theorem g_232 : az_G[232]? = some (20, 4, []) := by decide +kernel
theorem g_233 : az_G[233]? = some (20, 4, []) := by decide +kernel
theorem g_234 : az_G[234]? = some (3, 5, [236, 243, 244, 245, 0]) := by decide +kernel
theorem g_235 : az_G[235]? = some (2, 8, [237, 238, 239, 240, 241, 242, 0, 0]) := by decide +kernel
theorem g_236 : az_G[236]? = some (20, 6, []) := by decide +kernel
theorem g_237 : az_G[237]? = some (20, 4, []) := by decide +kernel
theorem g_238 : az_G[238]? = some (20, 4, []) := by decide +kernel
theorem g_239 : az_G[239]? = some (20, 4, []) := by decide +kernel
theorem g_240 : az_G[240]? = some (20, 24, []) := by decide +kernel
theorem g_241 : az_G[241]? = some (20, 4, []) := by decide +kernel
theorem g_242 : az_G[242]? = some (20, 7, []) := by decide +kernel
theorem g_243 : az_G[243]? = some (20, 4, []) := by decide +kernel
theorem g_244 : az_G[244]? = some (20, 4, []) := by decide +kernel
theorem g_245 : az_G[245]? = some (0, 2, [247, 0]) := by decide +kernel
theorem g_246 : az_G[246]? = some (20, 16, []) := by decide +kernel
theorem g_247 : az_G[247]? = some (5, 3, [249, 0, 0]) := by decide +kernel
theorem g_248 : az_G[248]? = some (20, 40, []) := by decide +kernel
theorem g_249 : az_G[249]? = some (5, 3, [251, 0, 0]) := by decide +kernel
theorem g_250 : az_G[250]? = some (20, 40, []) := by decide +kernel
theorem g_251 : az_G[251]? = some (5, 3, [253, 0, 0]) := by decide +kernel
theorem g_252 : az_G[252]? = some (20, 40, []) := by decide +kernel
theorem g_253 : az_G[253]? = some (5, 3, [255, 0, 0]) := by decide +kernel
theorem g_254 : az_G[254]? = some (20, 40, []) := by decide +kernel
theorem g_255 : az_G[255]? = some (5, 3, [257, 0, 0]) := by decide +kernel
theorem g_256 : az_G[256]? = some (20, 40, []) := by decide +kernel
theorem g_257 : az_G[257]? = some (5, 3, [259, 0, 0]) := by decide +kernel
theorem g_258 : az_G[258]? = some (20, 40, []) := by decide +kernel
theorem g_259 : az_G[259]? = some (5, 3, [261, 0, 0]) := by decide +kernel
theorem g_260 : az_G[260]? = some (20, 40, []) := by decide +kernel
theorem g_261 : az_G[261]? = some (5, 3, [263, 0, 0]) := by decide +kernel
theorem g_262 : az_G[262]? = some (20, 40, []) := by decide +kernel
theorem g_263 : az_G[263]? = some (1, 16, [265, 266, 267, 268, 269, 270, 271, 0, 0, 0, 0, 0, 0, 0, 0, 0]) := by decide +kernel
theorem g_264 : az_G[264]? = some (20, 6, []) := by decide +kernel
theorem g_265 : az_G[265]? = some (20, 4, []) := by decide +kernel
theorem g_266 : az_G[266]? = some (20, 4, []) := by decide +kernel
theorem g_267 : az_G[267]? = some (20, 4, []) := by decide +kernel
theorem g_268 : az_G[268]? = some (20, 4, []) := by decide +kernel
theorem g_269 : az_G[269]? = some (20, 4, []) := by decide +kernel
theorem g_270 : az_G[270]? = some (20, 4, []) := by decide +kernel
theorem g_271 : az_G[271]? = some (1, 16, [273, 274, 275, 276, 277, 278, 279, 0, 0, 0, 0, 0, 0, 0, 0, 0]) := by decide +kernel
theorem g_272 : az_G[272]? = some (20, 6, []) := by decide +kernel
theorem g_273 : az_G[273]? = some (20, 4, []) := by decide +kernel
theorem g_274 : az_G[274]? = some (20, 4, []) := by decide +kernel
theorem g_275 : az_G[275]? = some (20, 4, []) := by decide +kernel
theorem g_276 : az_G[276]? = some (20, 4, []) := by decide +kernel
theorem g_277 : az_G[277]? = some (20, 4, []) := by decide +kernel
theorem g_278 : az_G[278]? = some (20, 4, []) := by decide +kernel
theorem g_279 : az_G[279]? = some (8, 25, [281, 282, 283, 0, 284, 0, 0, 0, 285, 0, 286, 287, 288, 0, 289, 0, 0, 0, 0, 0, 290, 291, 292, 0, 293]) := by decide +kernel
theorem g_280 : az_G[280]? = some (20, 8, []) := by decide +kernel
theorem g_281 : az_G[281]? = some (20, 8, []) := by decide +kernel
theorem g_282 : az_G[282]? = some (20, 320, []) := by decide +kernel
theorem g_283 : az_G[283]? = some (20, 400, []) := by decide +kernel
theorem g_284 : az_G[284]? = some (20, 44, []) := by decide +kernel
theorem g_285 : az_G[285]? = some (20, 1056, []) := by decide +kernel
theorem g_286 : az_G[286]? = some (20, 88, []) := by decide +kernel
theorem g_287 : az_G[287]? = some (22, 2, []) := by decide +kernel
theorem g_288 : az_G[288]? = some (20, 16, []) := by decide +kernel
theorem g_289 : az_G[289]? = some (20, 44, []) := by decide +kernel
theorem g_290 : az_G[290]? = some (20, 4, []) := by decide +kernel
theorem g_291 : az_G[291]? = some (20, 6, []) := by decide +kernel
theorem g_292 : az_G[292]? = some (20, 4, []) := by decide +kernel
end
section
set_option maxRecDepth 100000 in
theorem kX4_init_15 : az_seek (15 : Int).toNat (az_cd 2) = zX4_init_15 := rfl
set_option maxRecDepth 100000 in
theorem kX4_init_40 : az_seek (40 : Int).toNat (az_cd 2) = zX4_init_40 := rfl
set_option maxRecDepth 100000 in
theorem kX7_init_100 : az_seek (100 : Int).toNat (az_cd 7) = zX7_init_100 := rfl
set_option maxRecDepth 100000 in
theorem kX7_init_125 : az_seek (125 : Int).toNat (az_cd 7) = zX7_init_125 := rfl
set_option maxRecDepth 100000 in
theorem kX7_init_127 : az_seek (127 : Int).toNat (az_cd 7) = zX7_init_127 := rfl
set_option maxRecDepth 100000 in
theorem kX7_init_151 : az_seek (151 : Int).toNat (az_cd 7) = zX7_init_151 := rfl
set_option maxRecDepth 100000 in
theorem kX8_init_110 : az_seek (110 : Int).toNat (az_cd 8) = zX8_init_110 := rfl
set_option maxRecDepth 100000 in
theorem kX8_init_129 : az_seek (129 : Int).toNat (az_cd 8) = zX8_init_129 := rfl
set_option maxRecDepth 100000 in
theorem kX7_isOneOf_13 : az_seek (13 : Int).toNat (az_cd 9) = zX7_isOneOf_13 := rfl
set_option maxRecDepth 100000 in
theorem kX7_isOneOf_14 : az_seek (14 : Int).toNat (az_cd 9) = zX7_isOneOf_14 := rfl
set_option maxRecDepth 100000 in
theorem kX5_make_12 : az_seek (12 : Int).toNat (az_cd 12) = zX5_make_12 := rfl
set_option maxRecDepth 100000 in
theorem kX5_make_30 : az_seek (30 : Int).toNat (az_cd 12) = zX5_make_30 := rfl
set_option maxRecDepth 100000 in
theorem kX7_row_22 : az_seek (22 : Int).toNat (az_cd 14) = zX7_row_22 := rfl
set_option maxRecDepth 100000 in
theorem kX7_row_25 : az_seek (25 : Int).toNat (az_cd 14) = zX7_row_25 := rfl
set_option maxRecDepth 100000 in
theorem kX7_row_35 : az_seek (35 : Int).toNat (az_cd 14) = zX7_row_35 := rfl
set_option maxRecDepth 100000 in
theorem kX8_in_17 : az_seek (17 : Int).toNat (az_cd 15) = zX8_in_17 := rfl
set_option maxRecDepth 100000 in
theorem kX8_in_18 : az_seek (18 : Int).toNat (az_cd 15) = zX8_in_18 := rfl
set_option maxRecDepth 100000 in
theorem kX8_row_25 : az_seek (25 : Int).toNat (az_cd 19) = zX8_row_25 := rfl
set_option maxRecDepth 100000 in
theorem kX8_row_28 : az_seek (28 : Int).toNat (az_cd 19) = zX8_row_28 := rfl
set_option maxRecDepth 100000 in
theorem kX8_row_38 : az_seek (38 : Int).toNat (az_cd 19) = zX8_row_38 := rfl
set_option maxRecDepth 100000 in
theorem kX8_row_55 : az_seek (55 : Int).toNat (az_cd 19) = zX8_row_55 := rfl
set_option maxRecDepth 100000 in
theorem kX8_row_81 : az_seek (81 : Int).toNat (az_cd 19) = zX8_row_81 := rfl
set_option maxRecDepth 100000 in
theorem kX5_isMissing_12 : az_seek (12 : Int).toNat (az_cd 20) = zX5_isMissing_12 := rfl
set_option maxRecDepth 100000 in
theorem kX5_isMissing_13 : az_seek (13 : Int).toNat (az_cd 20) = zX5_isMissing_13 := rfl
set_option maxRecDepth 100000 in
theorem kX5_hasPlaces_30 : az_seek (30 : Int).toNat (az_cd 21) = zX5_hasPlaces_30 := rfl
set_option maxRecDepth 100000 in
theorem kX5_hasPlaces_31 : az_seek (31 : Int).toNat (az_cd 21) = zX5_hasPlaces_31 := rfl
set_option maxRecDepth 100000 in
theorem kX5_put_18 : az_seek (18 : Int).toNat (az_cd 22) = zX5_put_18 := rfl
set_option maxRecDepth 100000 in
theorem kX5_put_37 : az_seek (37 : Int).toNat (az_cd 22) = zX5_put_37 := rfl
set_option maxRecDepth 100000 in
theorem kX5_put_44 : az_seek (44 : Int).toNat (az_cd 22) = zX5_put_44 := rfl
set_option maxRecDepth 100000 in
theorem kX7_set_10 : az_seek (10 : Int).toNat (az_cd 23) = zX7_set_10 := rfl
set_option maxRecDepth 100000 in
theorem kX7_set_32 : az_seek (32 : Int).toNat (az_cd 23) = zX7_set_32 := rfl
set_option maxRecDepth 100000 in
theorem kX7_set_48 : az_seek (48 : Int).toNat (az_cd 23) = zX7_set_48 := rfl
set_option maxRecDepth 100000 in
theorem kX8_set_10 : az_seek (10 : Int).toNat (az_cd 24) = zX8_set_10 := rfl
set_option maxRecDepth 100000 in
theorem kX8_set_25 : az_seek (25 : Int).toNat (az_cd 24) = zX8_set_25 := rfl
set_option maxRecDepth 100000 in
theorem kX8_set_49 : az_seek (49 : Int).toNat (az_cd 24) = zX8_set_49 := rfl
set_option maxRecDepth 100000 in
theorem kX8_set_73 : az_seek (73 : Int).toNat (az_cd 24) = zX8_set_73 := rfl
set_option maxRecDepth 100000 in
theorem kX8_set_88 : az_seek (88 : Int).toNat (az_cd 24) = zX8_set_88 := rfl
set_option maxRecDepth 100000 in
theorem kX8_set_89 : az_seek (89 : Int).toNat (az_cd 24) = zX8_set_89 := rfl
set_option maxRecDepth 100000 in
theorem kX7_copy_14 : az_seek (14 : Int).toNat (az_cd 25) = zX7_copy_14 := rfl
set_option maxRecDepth 100000 in
theorem kX7_copy_17 : az_seek (17 : Int).toNat (az_cd 25) = zX7_copy_17 := rfl
set_option maxRecDepth 100000 in
theorem kX7_copy_49 : az_seek (49 : Int).toNat (az_cd 25) = zX7_copy_49 := rfl
set_option maxRecDepth 100000 in
theorem kX7_copy_55 : az_seek (55 : Int).toNat (az_cd 25) = zX7_copy_55 := rfl
set_option maxRecDepth 100000 in
theorem kX7_copy_74 : az_seek (74 : Int).toNat (az_cd 25) = zX7_copy_74 := rfl
set_option maxRecDepth 100000 in
theorem kX7_copy_97 : az_seek (97 : Int).toNat (az_cd 25) = zX7_copy_97 := rfl
set_option maxRecDepth 100000 in
theorem kX7_copy_103 : az_seek (103 : Int).toNat (az_cd 25) = zX7_copy_103 := rfl
set_option maxRecDepth 100000 in
theorem kX8_copy_14 : az_seek (14 : Int).toNat (az_cd 26) = zX8_copy_14 := rfl
set_option maxRecDepth 100000 in
theorem kX8_copy_17 : az_seek (17 : Int).toNat (az_cd 26) = zX8_copy_17 := rfl
set_option maxRecDepth 100000 in
theorem kX8_copy_35 : az_seek (35 : Int).toNat (az_cd 26) = zX8_copy_35 := rfl
set_option maxRecDepth 100000 in
theorem kX8_copy_41 : az_seek (41 : Int).toNat (az_cd 26) = zX8_copy_41 := rfl
set_option maxRecDepth 100000 in
theorem kX8_copy_62 : az_seek (62 : Int).toNat (az_cd 26) = zX8_copy_62 := rfl
set_option maxRecDepth 100000 in
theorem kX8_copy_111 : az_seek (111 : Int).toNat (az_cd 26) = zX8_copy_111 := rfl
set_option maxRecDepth 100000 in
theorem kX8_copy_117 : az_seek (117 : Int).toNat (az_cd 26) = zX8_copy_117 := rfl
set_option maxRecDepth 100000 in
theorem kX8_copy_120 : az_seek (120 : Int).toNat (az_cd 26) = zX8_copy_120 := rfl
set_option maxRecDepth 100000 in
theorem kX8_copy_143 : az_seek (143 : Int).toNat (az_cd 26) = zX8_copy_143 := rfl
set_option maxRecDepth 100000 in
theorem kX8_copy_145 : az_seek (145 : Int).toNat (az_cd 26) = zX8_copy_145 := rfl
set_option maxRecDepth 100000 in
theorem kX8_copy_182 : az_seek (182 : Int).toNat (az_cd 26) = zX8_copy_182 := rfl
set_option maxRecDepth 100000 in
theorem kX7_drop_10 : az_seek (10 : Int).toNat (az_cd 28) = zX7_drop_10 := rfl
set_option maxRecDepth 100000 in
theorem kX7_drop_28 : az_seek (28 : Int).toNat (az_cd 28) = zX7_drop_28 := rfl
set_option maxRecDepth 100000 in
theorem kX8_drop_10 : az_seek (10 : Int).toNat (az_cd 29) = zX8_drop_10 := rfl
set_option maxRecDepth 100000 in
theorem kX8_drop_25 : az_seek (25 : Int).toNat (az_cd 29) = zX8_drop_25 := rfl
set_option maxRecDepth 100000 in
theorem kX6_hasRoomFor_16 : az_seek (16 : Int).toNat (az_cd 30) = zX6_hasRoomFor_16 := rfl
set_option maxRecDepth 100000 in
theorem kX6_hasRoomFor_17 : az_seek (17 : Int).toNat (az_cd 30) = zX6_hasRoomFor_17 := rfl
set_option maxRecDepth 100000 in
theorem kX6_append_5 : az_seek (5 : Int).toNat (az_cd 31) = zX6_append_5 := rfl
set_option maxRecDepth 100000 in
theorem kX6_append_44 : az_seek (44 : Int).toNat (az_cd 31) = zX6_append_44 := rfl
set_option maxRecDepth 100000 in
theorem kX7_feed_11 : az_seek (11 : Int).toNat (az_cd 32) = zX7_feed_11 := rfl
set_option maxRecDepth 100000 in
theorem kX7_feed_14 : az_seek (14 : Int).toNat (az_cd 32) = zX7_feed_14 := rfl
set_option maxRecDepth 100000 in
theorem kX7_feed_28 : az_seek (28 : Int).toNat (az_cd 32) = zX7_feed_28 := rfl
set_option maxRecDepth 100000 in
theorem kX8_feed_15 : az_seek (15 : Int).toNat (az_cd 33) = zX8_feed_15 := rfl
set_option maxRecDepth 100000 in
theorem kX8_feed_30 : az_seek (30 : Int).toNat (az_cd 33) = zX8_feed_30 := rfl
set_option maxRecDepth 100000 in
theorem kX8_feed_35 : az_seek (35 : Int).toNat (az_cd 33) = zX8_feed_35 := rfl
set_option maxRecDepth 100000 in
theorem kX8_feed_77 : az_seek (77 : Int).toNat (az_cd 33) = zX8_feed_77 := rfl
set_option maxRecDepth 100000 in
theorem kX6_isBetween_24 : az_seek (24 : Int).toNat (az_cd 34) = zX6_isBetween_24 := rfl
set_option maxRecDepth 100000 in
theorem kX6_isBetween_25 : az_seek (25 : Int).toNat (az_cd 34) = zX6_isBetween_25 := rfl
set_option maxRecDepth 100000 in
theorem kX6_pass_37 : az_seek (37 : Int).toNat (az_cd 35) = zX6_pass_37 := rfl
set_option maxRecDepth 100000 in
theorem kX6_advance_8 : az_seek (8 : Int).toNat (az_cd 36) = zX6_advance_8 := rfl
set_option maxRecDepth 100000 in
theorem kX6_advance_47 : az_seek (47 : Int).toNat (az_cd 36) = zX6_advance_47 := rfl
set_option maxRecDepth 100000 in
theorem kX6_advance_60 : az_seek (60 : Int).toNat (az_cd 36) = zX6_advance_60 := rfl
set_option maxRecDepth 100000 in
theorem kX6_advance_87 : az_seek (87 : Int).toNat (az_cd 36) = zX6_advance_87 := rfl
set_option maxRecDepth 100000 in
theorem kX6_advance_118 : az_seek (118 : Int).toNat (az_cd 36) = zX6_advance_118 := rfl
set_option maxRecDepth 100000 in
theorem kX6_advance_159 : az_seek (159 : Int).toNat (az_cd 36) = zX6_advance_159 := rfl
set_option maxRecDepth 100000 in
theorem kX6_advance_160 : az_seek (160 : Int).toNat (az_cd 36) = zX6_advance_160 := rfl
set_option maxRecDepth 100000 in
theorem kX6_advance_166 : az_seek (166 : Int).toNat (az_cd 36) = zX6_advance_166 := rfl
set_option maxRecDepth 100000 in
theorem kX6_advance_185 : az_seek (185 : Int).toNat (az_cd 36) = zX6_advance_185 := rfl
set_option maxRecDepth 100000 in
theorem kX6_advance_186 : az_seek (186 : Int).toNat (az_cd 36) = zX6_advance_186 := rfl
set_option maxRecDepth 100000 in
theorem kX6_advance_199 : az_seek (199 : Int).toNat (az_cd 36) = zX6_advance_199 := rfl
set_option maxRecDepth 100000 in
theorem kJ0_coder_7d493_13 : az_seek (13 : Int).toNat (az_cd 38) = zJ0_coder_7d493_13 := rfl
set_option maxRecDepth 100000 in
theorem kJ0_coder_7d493_14 : az_seek (14 : Int).toNat (az_cd 38) = zJ0_coder_7d493_14 := rfl
set_option maxRecDepth 100000 in
theorem kJ0_isLatin1_aae02_17 : az_seek (17 : Int).toNat (az_cd 40) = zJ0_isLatin1_aae02_17 := rfl
set_option maxRecDepth 100000 in
theorem kJ0_isLatin1_aae02_18 : az_seek (18 : Int).toNat (az_cd 40) = zJ0_isLatin1_aae02_18 := rfl
set_option maxRecDepth 100000 in
theorem kJ3_checkIndex_8e157_9 : az_seek (9 : Int).toNat (az_cd 41) = zJ3_checkIndex_8e157_9 := rfl
set_option maxRecDepth 100000 in
theorem kJ3_checkIndex_8e157_16 : az_seek (16 : Int).toNat (az_cd 41) = zJ3_checkIndex_8e157_16 := rfl
set_option maxRecDepth 100000 in
theorem kJ2_getChar_3b067_18 : az_seek (18 : Int).toNat (az_cd 46) = zJ2_getChar_3b067_18 := rfl
set_option maxRecDepth 100000 in
theorem kJ2_getChar_3b067_28 : az_seek (28 : Int).toNat (az_cd 46) = zJ2_getChar_3b067_28 := rfl
set_option maxRecDepth 100000 in
theorem kJ0_charAt_5068e_16 : az_seek (16 : Int).toNat (az_cd 48) = zJ0_charAt_5068e_16 := rfl
set_option maxRecDepth 100000 in
theorem kX6_isWord_24 : az_seek (24 : Int).toNat (az_cd 49) = zX6_isWord_24 := rfl
set_option maxRecDepth 100000 in
theorem kX6_isWord_26 : az_seek (26 : Int).toNat (az_cd 49) = zX6_isWord_26 := rfl
set_option maxRecDepth 100000 in
theorem kX6_isWord_28 : az_seek (28 : Int).toNat (az_cd 49) = zX6_isWord_28 := rfl
set_option maxRecDepth 100000 in
theorem kX6_isWord_57 : az_seek (57 : Int).toNat (az_cd 49) = zX6_isWord_57 := rfl
set_option maxRecDepth 100000 in
theorem kX6_isWord_63 : az_seek (63 : Int).toNat (az_cd 49) = zX6_isWord_63 := rfl
set_option maxRecDepth 100000 in
theorem kX6_takeWord_14 : az_seek (14 : Int).toNat (az_cd 51) = zX6_takeWord_14 := rfl
set_option maxRecDepth 100000 in
theorem kX6_figuresRead_7 : az_seek (7 : Int).toNat (az_cd 52) = zX6_figuresRead_7 := rfl
set_option maxRecDepth 100000 in
theorem kX6_figuresRead_36 : az_seek (36 : Int).toNat (az_cd 52) = zX6_figuresRead_36 := rfl
set_option maxRecDepth 100000 in
theorem kX6_takeNumber_14 : az_seek (14 : Int).toNat (az_cd 53) = zX6_takeNumber_14 := rfl
set_option maxRecDepth 100000 in
theorem kX6_takeNumber_29 : az_seek (29 : Int).toNat (az_cd 53) = zX6_takeNumber_29 := rfl
set_option maxRecDepth 100000 in
theorem kX6_takeNumber_35 : az_seek (35 : Int).toNat (az_cd 53) = zX6_takeNumber_35 := rfl
set_option maxRecDepth 100000 in
theorem kX6_takeSign_14 : az_seek (14 : Int).toNat (az_cd 54) = zX6_takeSign_14 := rfl
set_option maxRecDepth 100000 in
theorem kX6_readLaw_18 : az_seek (18 : Int).toNat (az_cd 55) = zX6_readLaw_18 := rfl
set_option maxRecDepth 100000 in
theorem kX6_readLaw_20 : az_seek (20 : Int).toNat (az_cd 55) = zX6_readLaw_20 := rfl
set_option maxRecDepth 100000 in
theorem kX6_readLaw_40 : az_seek (40 : Int).toNat (az_cd 55) = zX6_readLaw_40 := rfl
set_option maxRecDepth 100000 in
theorem kX6_readSun_11 : az_seek (11 : Int).toNat (az_cd 56) = zX6_readSun_11 := rfl
set_option maxRecDepth 100000 in
theorem kX6_readSun_13 : az_seek (13 : Int).toNat (az_cd 56) = zX6_readSun_13 := rfl
set_option maxRecDepth 100000 in
theorem kX6_readSun_31 : az_seek (31 : Int).toNat (az_cd 56) = zX6_readSun_31 := rfl
set_option maxRecDepth 100000 in
theorem kX6_readSun_47 : az_seek (47 : Int).toNat (az_cd 56) = zX6_readSun_47 := rfl
set_option maxRecDepth 100000 in
theorem kX6_sortOf_32 : az_seek (32 : Int).toNat (az_cd 57) = zX6_sortOf_32 := rfl
set_option maxRecDepth 100000 in
theorem kX6_sortOf_35 : az_seek (35 : Int).toNat (az_cd 57) = zX6_sortOf_35 := rfl
set_option maxRecDepth 100000 in
theorem kX6_sortOf_38 : az_seek (38 : Int).toNat (az_cd 57) = zX6_sortOf_38 := rfl
set_option maxRecDepth 100000 in
theorem kX6_sortOf_41 : az_seek (41 : Int).toNat (az_cd 57) = zX6_sortOf_41 := rfl
set_option maxRecDepth 100000 in
theorem kX6_sortOf_44 : az_seek (44 : Int).toNat (az_cd 57) = zX6_sortOf_44 := rfl
set_option maxRecDepth 100000 in
theorem kX6_takeSort_2 : az_seek (2 : Int).toNat (az_cd 58) = zX6_takeSort_2 := rfl
set_option maxRecDepth 100000 in
theorem kX6_takeSort_29 : az_seek (29 : Int).toNat (az_cd 58) = zX6_takeSort_29 := rfl
set_option maxRecDepth 100000 in
theorem kX6_takeSort_35 : az_seek (35 : Int).toNat (az_cd 58) = zX6_takeSort_35 := rfl
set_option maxRecDepth 100000 in
theorem kX6_readGuest_16 : az_seek (16 : Int).toNat (az_cd 59) = zX6_readGuest_16 := rfl
set_option maxRecDepth 100000 in
theorem kX6_readGuest_18 : az_seek (18 : Int).toNat (az_cd 59) = zX6_readGuest_18 := rfl
set_option maxRecDepth 100000 in
theorem kX6_readGuest_40 : az_seek (40 : Int).toNat (az_cd 59) = zX6_readGuest_40 := rfl
set_option maxRecDepth 100000 in
theorem kX6_readGuest_63 : az_seek (63 : Int).toNat (az_cd 59) = zX6_readGuest_63 := rfl
set_option maxRecDepth 100000 in
theorem kX6_readGuest_85 : az_seek (85 : Int).toNat (az_cd 59) = zX6_readGuest_85 := rfl
set_option maxRecDepth 100000 in
theorem kX6_readGuests_2 : az_seek (2 : Int).toNat (az_cd 60) = zX6_readGuests_2 := rfl
set_option maxRecDepth 100000 in
theorem kX6_readGuests_26 : az_seek (26 : Int).toNat (az_cd 60) = zX6_readGuests_26 := rfl
set_option maxRecDepth 100000 in
theorem kX6_readGuests_39 : az_seek (39 : Int).toNat (az_cd 60) = zX6_readGuests_39 := rfl
set_option maxRecDepth 100000 in
theorem kX6_readGuests_49 : az_seek (49 : Int).toNat (az_cd 60) = zX6_readGuests_49 := rfl
set_option maxRecDepth 100000 in
theorem kX6_readGuests_63 : az_seek (63 : Int).toNat (az_cd 60) = zX6_readGuests_63 := rfl
set_option maxRecDepth 100000 in
theorem kX6_readGuests_64 : az_seek (64 : Int).toNat (az_cd 60) = zX6_readGuests_64 := rfl
set_option maxRecDepth 100000 in
theorem kX6_readBeach_41 : az_seek (41 : Int).toNat (az_cd 62) = zX6_readBeach_41 := rfl
set_option maxRecDepth 100000 in
theorem kX6_readBeach_42 : az_seek (42 : Int).toNat (az_cd 62) = zX6_readBeach_42 := rfl
set_option maxRecDepth 100000 in
theorem kX7_beach_25 : az_seek (25 : Int).toNat (az_cd 65) = zX7_beach_25 := rfl
set_option maxRecDepth 100000 in
theorem kX8_sort_18 : az_seek (18 : Int).toNat (az_cd 66) = zX8_sort_18 := rfl
set_option maxRecDepth 100000 in
theorem kX8_sort_36 : az_seek (36 : Int).toNat (az_cd 66) = zX8_sort_36 := rfl
set_option maxRecDepth 100000 in
theorem kX8_sort_46 : az_seek (46 : Int).toNat (az_cd 66) = zX8_sort_46 := rfl
set_option maxRecDepth 100000 in
theorem kX8_sort_47 : az_seek (47 : Int).toNat (az_cd 66) = zX8_sort_47 := rfl
set_option maxRecDepth 100000 in
theorem kX8_next_39 : az_seek (39 : Int).toNat (az_cd 67) = zX8_next_39 := rfl
set_option maxRecDepth 100000 in
theorem kX8_next_52 : az_seek (52 : Int).toNat (az_cd 67) = zX8_next_52 := rfl
set_option maxRecDepth 100000 in
theorem kX8_next_87 : az_seek (87 : Int).toNat (az_cd 67) = zX8_next_87 := rfl
set_option maxRecDepth 100000 in
theorem kX8_next_88 : az_seek (88 : Int).toNat (az_cd 67) = zX8_next_88 := rfl
set_option maxRecDepth 100000 in
theorem kX8_next_113 : az_seek (113 : Int).toNat (az_cd 67) = zX8_next_113 := rfl
set_option maxRecDepth 100000 in
theorem kX8_next_114 : az_seek (114 : Int).toNat (az_cd 67) = zX8_next_114 := rfl
set_option maxRecDepth 100000 in
theorem kX8_next_118 : az_seek (118 : Int).toNat (az_cd 67) = zX8_next_118 := rfl
set_option maxRecDepth 100000 in
theorem kX8_next_194 : az_seek (194 : Int).toNat (az_cd 67) = zX8_next_194 := rfl
set_option maxRecDepth 100000 in
theorem kX8_next_220 : az_seek (220 : Int).toNat (az_cd 67) = zX8_next_220 := rfl
set_option maxRecDepth 100000 in
theorem kX8_next_235 : az_seek (235 : Int).toNat (az_cd 67) = zX8_next_235 := rfl
set_option maxRecDepth 100000 in
theorem kX8_next_251 : az_seek (251 : Int).toNat (az_cd 67) = zX8_next_251 := rfl
set_option maxRecDepth 100000 in
theorem kX8_next_277 : az_seek (277 : Int).toNat (az_cd 67) = zX8_next_277 := rfl
set_option maxRecDepth 100000 in
theorem kX8_next_281 : az_seek (281 : Int).toNat (az_cd 67) = zX8_next_281 := rfl
set_option maxRecDepth 100000 in
theorem kX8_mustBe_12 : az_seek (12 : Int).toNat (az_cd 68) = zX8_mustBe_12 := rfl
set_option maxRecDepth 100000 in
theorem kX8_mustBe_13 : az_seek (13 : Int).toNat (az_cd 68) = zX8_mustBe_13 := rfl
set_option maxRecDepth 100000 in
theorem kX8_isWord_26 : az_seek (26 : Int).toNat (az_cd 69) = zX8_isWord_26 := rfl
set_option maxRecDepth 100000 in
theorem kX8_isWord_27 : az_seek (27 : Int).toNat (az_cd 69) = zX8_isWord_27 := rfl
set_option maxRecDepth 100000 in
theorem kX8_number_19 : az_seek (19 : Int).toNat (az_cd 70) = zX8_number_19 := rfl
set_option maxRecDepth 100000 in
theorem kX8_number_40 : az_seek (40 : Int).toNat (az_cd 70) = zX8_number_40 := rfl
set_option maxRecDepth 100000 in
theorem kX8_ends_17 : az_seek (17 : Int).toNat (az_cd 71) = zX8_ends_17 := rfl
set_option maxRecDepth 100000 in
theorem kX8_ends_18 : az_seek (18 : Int).toNat (az_cd 71) = zX8_ends_18 := rfl
set_option maxRecDepth 100000 in
theorem kX8_kindHere_16 : az_seek (16 : Int).toNat (az_cd 72) = zX8_kindHere_16 := rfl
set_option maxRecDepth 100000 in
theorem kX8_kindHere_31 : az_seek (31 : Int).toNat (az_cd 72) = zX8_kindHere_31 := rfl
set_option maxRecDepth 100000 in
theorem kX8_kindHere_46 : az_seek (46 : Int).toNat (az_cd 72) = zX8_kindHere_46 := rfl
set_option maxRecDepth 100000 in
theorem kX8_kindHere_61 : az_seek (61 : Int).toNat (az_cd 72) = zX8_kindHere_61 := rfl
set_option maxRecDepth 100000 in
theorem kX8_kindHere_76 : az_seek (76 : Int).toNat (az_cd 72) = zX8_kindHere_76 := rfl
set_option maxRecDepth 100000 in
theorem kX8_kindHere_91 : az_seek (91 : Int).toNat (az_cd 72) = zX8_kindHere_91 := rfl
set_option maxRecDepth 100000 in
theorem kX8_kindHere_92 : az_seek (92 : Int).toNat (az_cd 72) = zX8_kindHere_92 := rfl
set_option maxRecDepth 100000 in
theorem kX8_readsGuest_24 : az_seek (24 : Int).toNat (az_cd 73) = zX8_readsGuest_24 := rfl
set_option maxRecDepth 100000 in
theorem kX8_readsGuest_25 : az_seek (25 : Int).toNat (az_cd 73) = zX8_readsGuest_25 := rfl
set_option maxRecDepth 100000 in
theorem kX8_readsGuest_33 : az_seek (33 : Int).toNat (az_cd 73) = zX8_readsGuest_33 := rfl
set_option maxRecDepth 100000 in
theorem kX8_readsGuest_52 : az_seek (52 : Int).toNat (az_cd 73) = zX8_readsGuest_52 := rfl
set_option maxRecDepth 100000 in
theorem kX8_readsGuest_82 : az_seek (82 : Int).toNat (az_cd 73) = zX8_readsGuest_82 := rfl
set_option maxRecDepth 100000 in
theorem kX8_readsGuest_83 : az_seek (83 : Int).toNat (az_cd 73) = zX8_readsGuest_83 := rfl
set_option maxRecDepth 100000 in
theorem kX8_readsGuest_132 : az_seek (132 : Int).toNat (az_cd 73) = zX8_readsGuest_132 := rfl
set_option maxRecDepth 100000 in
theorem kX8_readsGuest_134 : az_seek (134 : Int).toNat (az_cd 73) = zX8_readsGuest_134 := rfl
set_option maxRecDepth 100000 in
theorem kX8_reads_2 : az_seek (2 : Int).toNat (az_cd 74) = zX8_reads_2 := rfl
set_option maxRecDepth 100000 in
theorem kX8_reads_21 : az_seek (21 : Int).toNat (az_cd 74) = zX8_reads_21 := rfl
set_option maxRecDepth 100000 in
theorem kX8_reads_74 : az_seek (74 : Int).toNat (az_cd 74) = zX8_reads_74 := rfl
set_option maxRecDepth 100000 in
theorem kX8_reads_76 : az_seek (76 : Int).toNat (az_cd 74) = zX8_reads_76 := rfl
set_option maxRecDepth 100000 in
theorem kX8_reads_78 : az_seek (78 : Int).toNat (az_cd 74) = zX8_reads_78 := rfl
set_option maxRecDepth 100000 in
theorem kX8_reads_100 : az_seek (100 : Int).toNat (az_cd 74) = zX8_reads_100 := rfl
set_option maxRecDepth 100000 in
theorem kX8_reads_106 : az_seek (106 : Int).toNat (az_cd 74) = zX8_reads_106 := rfl
set_option maxRecDepth 100000 in
theorem kX8_reads_115 : az_seek (115 : Int).toNat (az_cd 74) = zX8_reads_115 := rfl
set_option maxRecDepth 100000 in
theorem kX8_reads_119 : az_seek (119 : Int).toNat (az_cd 74) = zX8_reads_119 := rfl
set_option maxRecDepth 100000 in
theorem kX8_reads_135 : az_seek (135 : Int).toNat (az_cd 74) = zX8_reads_135 := rfl
set_option maxRecDepth 100000 in
theorem kX8_reads_142 : az_seek (142 : Int).toNat (az_cd 74) = zX8_reads_142 := rfl
set_option maxRecDepth 100000 in
theorem kX8_copies_3 : az_seek (3 : Int).toNat (az_cd 75) = zX8_copies_3 := rfl
set_option maxRecDepth 100000 in
theorem kX8_copies_28 : az_seek (28 : Int).toNat (az_cd 75) = zX8_copies_28 := rfl
set_option maxRecDepth 100000 in
theorem kX8_beach_33 : az_seek (33 : Int).toNat (az_cd 76) = zX8_beach_33 := rfl
set_option maxRecDepth 100000 in
theorem kX7_isIn_13 : az_seek (13 : Int).toNat (az_cd 81) = zX7_isIn_13 := rfl
set_option maxRecDepth 100000 in
theorem kX7_isIn_14 : az_seek (14 : Int).toNat (az_cd 81) = zX7_isIn_14 := rfl
set_option maxRecDepth 100000 in
theorem kX1_priceOf_22 : az_seek (22 : Int).toNat (az_cd 82) = zX1_priceOf_22 := rfl
set_option maxRecDepth 100000 in
theorem kX1_priceOf_28 : az_seek (28 : Int).toNat (az_cd 82) = zX1_priceOf_28 := rfl
set_option maxRecDepth 100000 in
theorem kX7_hour_13 : az_seek (13 : Int).toNat (az_cd 83) = zX7_hour_13 := rfl
set_option maxRecDepth 100000 in
theorem kX7_hour_28 : az_seek (28 : Int).toNat (az_cd 83) = zX7_hour_28 := rfl
set_option maxRecDepth 100000 in
theorem kX7_hour_53 : az_seek (53 : Int).toNat (az_cd 83) = zX7_hour_53 := rfl
set_option maxRecDepth 100000 in
theorem kX7_hour_67 : az_seek (67 : Int).toNat (az_cd 83) = zX7_hour_67 := rfl
set_option maxRecDepth 100000 in
theorem kX8_remember_11 : az_seek (11 : Int).toNat (az_cd 84) = zX8_remember_11 := rfl
set_option maxRecDepth 100000 in
theorem kX8_remember_39 : az_seek (39 : Int).toNat (az_cd 84) = zX8_remember_39 := rfl
set_option maxRecDepth 100000 in
theorem kX8_remember_49 : az_seek (49 : Int).toNat (az_cd 84) = zX8_remember_49 := rfl
set_option maxRecDepth 100000 in
theorem kX8_priceOf_28 : az_seek (28 : Int).toNat (az_cd 85) = zX8_priceOf_28 := rfl
set_option maxRecDepth 100000 in
theorem kX8_priceOf_37 : az_seek (37 : Int).toNat (az_cd 85) = zX8_priceOf_37 := rfl
set_option maxRecDepth 100000 in
theorem kX8_hour_10 : az_seek (10 : Int).toNat (az_cd 86) = zX8_hour_10 := rfl
set_option maxRecDepth 100000 in
theorem kX8_hour_24 : az_seek (24 : Int).toNat (az_cd 86) = zX8_hour_24 := rfl
set_option maxRecDepth 100000 in
theorem kX8_hour_32 : az_seek (32 : Int).toNat (az_cd 86) = zX8_hour_32 := rfl
set_option maxRecDepth 100000 in
theorem kX8_hour_78 : az_seek (78 : Int).toNat (az_cd 86) = zX8_hour_78 := rfl
set_option maxRecDepth 100000 in
theorem kX8_hour_84 : az_seek (84 : Int).toNat (az_cd 86) = zX8_hour_84 := rfl
set_option maxRecDepth 100000 in
theorem kX7_leave_14 : az_seek (14 : Int).toNat (az_cd 88) = zX7_leave_14 := rfl
set_option maxRecDepth 100000 in
theorem kX7_leave_31 : az_seek (31 : Int).toNat (az_cd 88) = zX7_leave_31 := rfl
set_option maxRecDepth 100000 in
theorem kX8_leave_11 : az_seek (11 : Int).toNat (az_cd 90) = zX8_leave_11 := rfl
set_option maxRecDepth 100000 in
theorem kX8_leave_27 : az_seek (27 : Int).toNat (az_cd 90) = zX8_leave_27 := rfl
set_option maxRecDepth 100000 in
theorem kX7_cloud_13 : az_seek (13 : Int).toNat (az_cd 92) = zX7_cloud_13 := rfl
set_option maxRecDepth 100000 in
theorem kX7_cloud_23 : az_seek (23 : Int).toNat (az_cd 92) = zX7_cloud_23 := rfl
set_option maxRecDepth 100000 in
theorem kX7_cloud_48 : az_seek (48 : Int).toNat (az_cd 92) = zX7_cloud_48 := rfl
set_option maxRecDepth 100000 in
theorem kX7_cloud_51 : az_seek (51 : Int).toNat (az_cd 92) = zX7_cloud_51 := rfl
set_option maxRecDepth 100000 in
theorem kX8_cloud_10 : az_seek (10 : Int).toNat (az_cd 93) = zX8_cloud_10 := rfl
set_option maxRecDepth 100000 in
theorem kX8_cloud_25 : az_seek (25 : Int).toNat (az_cd 93) = zX8_cloud_25 := rfl
set_option maxRecDepth 100000 in
theorem kX8_cloud_49 : az_seek (49 : Int).toNat (az_cd 93) = zX8_cloud_49 := rfl
set_option maxRecDepth 100000 in
theorem kX8_cloud_52 : az_seek (52 : Int).toNat (az_cd 93) = zX8_cloud_52 := rfl
set_option maxRecDepth 100000 in
theorem kX7_shade_19 : az_seek (19 : Int).toNat (az_cd 94) = zX7_shade_19 := rfl
set_option maxRecDepth 100000 in
theorem kX7_shade_22 : az_seek (22 : Int).toNat (az_cd 94) = zX7_shade_22 := rfl
set_option maxRecDepth 100000 in
theorem kX8_shade_18 : az_seek (18 : Int).toNat (az_cd 95) = zX8_shade_18 := rfl
set_option maxRecDepth 100000 in
theorem kX8_shade_21 : az_seek (21 : Int).toNat (az_cd 95) = zX8_shade_21 := rfl
set_option maxRecDepth 100000 in
theorem kX7_gift_23 : az_seek (23 : Int).toNat (az_cd 96) = zX7_gift_23 := rfl
set_option maxRecDepth 100000 in
theorem kX7_gift_26 : az_seek (26 : Int).toNat (az_cd 96) = zX7_gift_26 := rfl
set_option maxRecDepth 100000 in
theorem kX7_gift_66 : az_seek (66 : Int).toNat (az_cd 96) = zX7_gift_66 := rfl
set_option maxRecDepth 100000 in
theorem kX8_gift_20 : az_seek (20 : Int).toNat (az_cd 97) = zX8_gift_20 := rfl
set_option maxRecDepth 100000 in
theorem kX8_gift_23 : az_seek (23 : Int).toNat (az_cd 97) = zX8_gift_23 := rfl
set_option maxRecDepth 100000 in
theorem kX8_gift_44 : az_seek (44 : Int).toNat (az_cd 97) = zX8_gift_44 := rfl
set_option maxRecDepth 100000 in
theorem kX8_gift_45 : az_seek (45 : Int).toNat (az_cd 97) = zX8_gift_45 := rfl
set_option maxRecDepth 100000 in
theorem kX8_gift_68 : az_seek (68 : Int).toNat (az_cd 97) = zX8_gift_68 := rfl
set_option maxRecDepth 100000 in
theorem kX8_gift_89 : az_seek (89 : Int).toNat (az_cd 97) = zX8_gift_89 := rfl
set_option maxRecDepth 100000 in
theorem kX8_gift_92 : az_seek (92 : Int).toNat (az_cd 97) = zX8_gift_92 := rfl
set_option maxRecDepth 100000 in
theorem kX1_hoursOf_18 : az_seek (18 : Int).toNat (az_cd 98) = zX1_hoursOf_18 := rfl
set_option maxRecDepth 100000 in
theorem kX1_hoursOf_24 : az_seek (24 : Int).toNat (az_cd 98) = zX1_hoursOf_24 := rfl
set_option maxRecDepth 100000 in
theorem kX1_joyAlone_25 : az_seek (25 : Int).toNat (az_cd 99) = zX1_joyAlone_25 := rfl
set_option maxRecDepth 100000 in
theorem kX1_joyAlone_38 : az_seek (38 : Int).toNat (az_cd 99) = zX1_joyAlone_38 := rfl
set_option maxRecDepth 100000 in
theorem kX1_joyAlone_59 : az_seek (59 : Int).toNat (az_cd 99) = zX1_joyAlone_59 := rfl
set_option maxRecDepth 100000 in
theorem kX1_joyAlone_60 : az_seek (60 : Int).toNat (az_cd 99) = zX1_joyAlone_60 := rfl
set_option maxRecDepth 100000 in
theorem kX2_open_18 : az_seek (18 : Int).toNat (az_cd 100) = zX2_open_18 := rfl
set_option maxRecDepth 100000 in
theorem kX2_open_41 : az_seek (41 : Int).toNat (az_cd 100) = zX2_open_41 := rfl
set_option maxRecDepth 100000 in
theorem kX2_open_43 : az_seek (43 : Int).toNat (az_cd 100) = zX2_open_43 := rfl
set_option maxRecDepth 100000 in
theorem kX2_open_72 : az_seek (72 : Int).toNat (az_cd 100) = zX2_open_72 := rfl
set_option maxRecDepth 100000 in
theorem kX2_open_73 : az_seek (73 : Int).toNat (az_cd 100) = zX2_open_73 := rfl
set_option maxRecDepth 100000 in
theorem kX2_open_97 : az_seek (97 : Int).toNat (az_cd 100) = zX2_open_97 := rfl
set_option maxRecDepth 100000 in
theorem kX2_open_98 : az_seek (98 : Int).toNat (az_cd 100) = zX2_open_98 := rfl
set_option maxRecDepth 100000 in
theorem kX2_open_113 : az_seek (113 : Int).toNat (az_cd 100) = zX2_open_113 := rfl
set_option maxRecDepth 100000 in
theorem kX2_open_123 : az_seek (123 : Int).toNat (az_cd 100) = zX2_open_123 := rfl
set_option maxRecDepth 100000 in
theorem kX2_open_127 : az_seek (127 : Int).toNat (az_cd 100) = zX2_open_127 := rfl
set_option maxRecDepth 100000 in
theorem kX2_open_128 : az_seek (128 : Int).toNat (az_cd 100) = zX2_open_128 := rfl
set_option maxRecDepth 100000 in
theorem kX2_open_143 : az_seek (143 : Int).toNat (az_cd 100) = zX2_open_143 := rfl
set_option maxRecDepth 100000 in
theorem kX2_open_175 : az_seek (175 : Int).toNat (az_cd 100) = zX2_open_175 := rfl
set_option maxRecDepth 100000 in
theorem kX2_open_181 : az_seek (181 : Int).toNat (az_cd 100) = zX2_open_181 := rfl
set_option maxRecDepth 100000 in
theorem kX2_longest_4 : az_seek (4 : Int).toNat (az_cd 101) = zX2_longest_4 := rfl
set_option maxRecDepth 100000 in
theorem kX2_longest_31 : az_seek (31 : Int).toNat (az_cd 101) = zX2_longest_31 := rfl
set_option maxRecDepth 100000 in
theorem kX2_longest_32 : az_seek (32 : Int).toNat (az_cd 101) = zX2_longest_32 := rfl
set_option maxRecDepth 100000 in
theorem kX2_longest_39 : az_seek (39 : Int).toNat (az_cd 101) = zX2_longest_39 := rfl
set_option maxRecDepth 100000 in
theorem kX2_bill_4 : az_seek (4 : Int).toNat (az_cd 102) = zX2_bill_4 := rfl
set_option maxRecDepth 100000 in
theorem kX2_bill_24 : az_seek (24 : Int).toNat (az_cd 102) = zX2_bill_24 := rfl
set_option maxRecDepth 100000 in
theorem kX2_alike_9 : az_seek (9 : Int).toNat (az_cd 103) = zX2_alike_9 := rfl
set_option maxRecDepth 100000 in
theorem kX2_alike_59 : az_seek (59 : Int).toNat (az_cd 103) = zX2_alike_59 := rfl
set_option maxRecDepth 100000 in
theorem kX2_alike_60 : az_seek (60 : Int).toNat (az_cd 103) = zX2_alike_60 := rfl
set_option maxRecDepth 100000 in
theorem kX2_alike_63 : az_seek (63 : Int).toNat (az_cd 103) = zX2_alike_63 := rfl
set_option maxRecDepth 100000 in
theorem kX2_alike_69 : az_seek (69 : Int).toNat (az_cd 103) = zX2_alike_69 := rfl
set_option maxRecDepth 100000 in
theorem kX2_alike_84 : az_seek (84 : Int).toNat (az_cd 103) = zX2_alike_84 := rfl
set_option maxRecDepth 100000 in
theorem kX2_alike_86 : az_seek (86 : Int).toNat (az_cd 103) = zX2_alike_86 := rfl
set_option maxRecDepth 100000 in
theorem kX2_alike_112 : az_seek (112 : Int).toNat (az_cd 103) = zX2_alike_112 := rfl
set_option maxRecDepth 100000 in
theorem kX2_alike_124 : az_seek (124 : Int).toNat (az_cd 103) = zX2_alike_124 := rfl
set_option maxRecDepth 100000 in
theorem kX2_alike_126 : az_seek (126 : Int).toNat (az_cd 103) = zX2_alike_126 := rfl
set_option maxRecDepth 100000 in
theorem kX2_byWeight_6 : az_seek (6 : Int).toNat (az_cd 104) = zX2_byWeight_6 := rfl
set_option maxRecDepth 100000 in
theorem kX2_byWeight_41 : az_seek (41 : Int).toNat (az_cd 104) = zX2_byWeight_41 := rfl
set_option maxRecDepth 100000 in
theorem kX2_byWeight_48 : az_seek (48 : Int).toNat (az_cd 104) = zX2_byWeight_48 := rfl
set_option maxRecDepth 100000 in
theorem kX2_byWeight_58 : az_seek (58 : Int).toNat (az_cd 104) = zX2_byWeight_58 := rfl
set_option maxRecDepth 100000 in
theorem kX2_byWeight_114 : az_seek (114 : Int).toNat (az_cd 104) = zX2_byWeight_114 := rfl
set_option maxRecDepth 100000 in
theorem kX2_byWeight_120 : az_seek (120 : Int).toNat (az_cd 104) = zX2_byWeight_120 := rfl
set_option maxRecDepth 100000 in
theorem kX2_byWeight_149 : az_seek (149 : Int).toNat (az_cd 104) = zX2_byWeight_149 := rfl
set_option maxRecDepth 100000 in
theorem kX2_byWeight_150 : az_seek (150 : Int).toNat (az_cd 104) = zX2_byWeight_150 := rfl
set_option maxRecDepth 100000 in
theorem kX2_byHours_4 : az_seek (4 : Int).toNat (az_cd 105) = zX2_byHours_4 := rfl
set_option maxRecDepth 100000 in
theorem kX2_byHours_37 : az_seek (37 : Int).toNat (az_cd 105) = zX2_byHours_37 := rfl
set_option maxRecDepth 100000 in
theorem kX2_share_36 : az_seek (36 : Int).toNat (az_cd 106) = zX2_share_36 := rfl
set_option maxRecDepth 100000 in
theorem kX2_share_48 : az_seek (48 : Int).toNat (az_cd 106) = zX2_share_48 := rfl
set_option maxRecDepth 100000 in
theorem kX2_share_60 : az_seek (60 : Int).toNat (az_cd 106) = zX2_share_60 := rfl
set_option maxRecDepth 100000 in
theorem kX7_sunset_22 : az_seek (22 : Int).toNat (az_cd 111) = zX7_sunset_22 := rfl
set_option maxRecDepth 100000 in
theorem kX7_sunset_25 : az_seek (25 : Int).toNat (az_cd 111) = zX7_sunset_25 := rfl
set_option maxRecDepth 100000 in
theorem kX7_sunset_41 : az_seek (41 : Int).toNat (az_cd 111) = zX7_sunset_41 := rfl
set_option maxRecDepth 100000 in
theorem kX7_sunset_65 : az_seek (65 : Int).toNat (az_cd 111) = zX7_sunset_65 := rfl
set_option maxRecDepth 100000 in
theorem kX7_sunset_98 : az_seek (98 : Int).toNat (az_cd 111) = zX7_sunset_98 := rfl
set_option maxRecDepth 100000 in
theorem kX8_layNow_2 : az_seek (2 : Int).toNat (az_cd 112) = zX8_layNow_2 := rfl
set_option maxRecDepth 100000 in
theorem kX8_layNow_25 : az_seek (25 : Int).toNat (az_cd 112) = zX8_layNow_25 := rfl
set_option maxRecDepth 100000 in
theorem kX8_longest_4 : az_seek (4 : Int).toNat (az_cd 113) = zX8_longest_4 := rfl
set_option maxRecDepth 100000 in
theorem kX8_longest_33 : az_seek (33 : Int).toNat (az_cd 113) = zX8_longest_33 := rfl
set_option maxRecDepth 100000 in
theorem kX8_longest_34 : az_seek (34 : Int).toNat (az_cd 113) = zX8_longest_34 := rfl
set_option maxRecDepth 100000 in
theorem kX8_longest_41 : az_seek (41 : Int).toNat (az_cd 113) = zX8_longest_41 := rfl
set_option maxRecDepth 100000 in
theorem kX8_sum_4 : az_seek (4 : Int).toNat (az_cd 114) = zX8_sum_4 := rfl
set_option maxRecDepth 100000 in
theorem kX8_sum_27 : az_seek (27 : Int).toNat (az_cd 114) = zX8_sum_27 := rfl
set_option maxRecDepth 100000 in
theorem kX8_heads_17 : az_seek (17 : Int).toNat (az_cd 115) = zX8_heads_17 := rfl
set_option maxRecDepth 100000 in
theorem kX8_heads_18 : az_seek (18 : Int).toNat (az_cd 115) = zX8_heads_18 := rfl
set_option maxRecDepth 100000 in
theorem kX8_parts_5 : az_seek (5 : Int).toNat (az_cd 116) = zX8_parts_5 := rfl
set_option maxRecDepth 100000 in
theorem kX8_parts_37 : az_seek (37 : Int).toNat (az_cd 116) = zX8_parts_37 := rfl
set_option maxRecDepth 100000 in
theorem kX8_parts_38 : az_seek (38 : Int).toNat (az_cd 116) = zX8_parts_38 := rfl
set_option maxRecDepth 100000 in
theorem kX8_parts_46 : az_seek (46 : Int).toNat (az_cd 116) = zX8_parts_46 := rfl
set_option maxRecDepth 100000 in
theorem kX8_parts_52 : az_seek (52 : Int).toNat (az_cd 116) = zX8_parts_52 := rfl
set_option maxRecDepth 100000 in
theorem kX8_parts_66 : az_seek (66 : Int).toNat (az_cd 116) = zX8_parts_66 := rfl
set_option maxRecDepth 100000 in
theorem kX8_parts_111 : az_seek (111 : Int).toNat (az_cd 116) = zX8_parts_111 := rfl
set_option maxRecDepth 100000 in
theorem kX8_parts_112 : az_seek (112 : Int).toNat (az_cd 116) = zX8_parts_112 := rfl
set_option maxRecDepth 100000 in
theorem kX8_parts_124 : az_seek (124 : Int).toNat (az_cd 116) = zX8_parts_124 := rfl
set_option maxRecDepth 100000 in
theorem kX8_parts_130 : az_seek (130 : Int).toNat (az_cd 116) = zX8_parts_130 := rfl
set_option maxRecDepth 100000 in
theorem kX8_share_2 : az_seek (2 : Int).toNat (az_cd 117) = zX8_share_2 := rfl
set_option maxRecDepth 100000 in
theorem kX8_share_20 : az_seek (20 : Int).toNat (az_cd 117) = zX8_share_20 := rfl
set_option maxRecDepth 100000 in
theorem kX8_share_35 : az_seek (35 : Int).toNat (az_cd 117) = zX8_share_35 := rfl
set_option maxRecDepth 100000 in
theorem kX8_share_50 : az_seek (50 : Int).toNat (az_cd 117) = zX8_share_50 := rfl
set_option maxRecDepth 100000 in
theorem kX8_share_52 : az_seek (52 : Int).toNat (az_cd 117) = zX8_share_52 := rfl
set_option maxRecDepth 100000 in
theorem kX8_share_82 : az_seek (82 : Int).toNat (az_cd 117) = zX8_share_82 := rfl
set_option maxRecDepth 100000 in
theorem kX8_share_99 : az_seek (99 : Int).toNat (az_cd 117) = zX8_share_99 := rfl
set_option maxRecDepth 100000 in
theorem kX8_share_150 : az_seek (150 : Int).toNat (az_cd 117) = zX8_share_150 := rfl
set_option maxRecDepth 100000 in
theorem kX8_share_152 : az_seek (152 : Int).toNat (az_cd 117) = zX8_share_152 := rfl
set_option maxRecDepth 100000 in
theorem kX8_share_160 : az_seek (160 : Int).toNat (az_cd 117) = zX8_share_160 := rfl
set_option maxRecDepth 100000 in
theorem kX8_share_166 : az_seek (166 : Int).toNat (az_cd 117) = zX8_share_166 := rfl
set_option maxRecDepth 100000 in
theorem kX8_share_220 : az_seek (220 : Int).toNat (az_cd 117) = zX8_share_220 := rfl
set_option maxRecDepth 100000 in
theorem kX8_share_232 : az_seek (232 : Int).toNat (az_cd 117) = zX8_share_232 := rfl
set_option maxRecDepth 100000 in
theorem kX8_payOf_35 : az_seek (35 : Int).toNat (az_cd 118) = zX8_payOf_35 := rfl
set_option maxRecDepth 100000 in
theorem kX8_payOf_36 : az_seek (36 : Int).toNat (az_cd 118) = zX8_payOf_36 := rfl
set_option maxRecDepth 100000 in
theorem kX8_least_11 : az_seek (11 : Int).toNat (az_cd 119) = zX8_least_11 := rfl
set_option maxRecDepth 100000 in
theorem kX8_least_14 : az_seek (14 : Int).toNat (az_cd 119) = zX8_least_14 := rfl
set_option maxRecDepth 100000 in
theorem kX8_sunset_18 : az_seek (18 : Int).toNat (az_cd 120) = zX8_sunset_18 := rfl
set_option maxRecDepth 100000 in
theorem kX8_sunset_21 : az_seek (21 : Int).toNat (az_cd 120) = zX8_sunset_21 := rfl
set_option maxRecDepth 100000 in
theorem kX8_sunset_36 : az_seek (36 : Int).toNat (az_cd 120) = zX8_sunset_36 := rfl
set_option maxRecDepth 100000 in
theorem kX8_sunset_46 : az_seek (46 : Int).toNat (az_cd 120) = zX8_sunset_46 := rfl
set_option maxRecDepth 100000 in
theorem kX8_sunset_77 : az_seek (77 : Int).toNat (az_cd 120) = zX8_sunset_77 := rfl
set_option maxRecDepth 100000 in
theorem kX8_sunset_88 : az_seek (88 : Int).toNat (az_cd 120) = zX8_sunset_88 := rfl
set_option maxRecDepth 100000 in
theorem kX8_sunset_121 : az_seek (121 : Int).toNat (az_cd 120) = zX8_sunset_121 := rfl
set_option maxRecDepth 100000 in
theorem kX8_sunset_130 : az_seek (130 : Int).toNat (az_cd 120) = zX8_sunset_130 := rfl
set_option maxRecDepth 100000 in
theorem kX8_sunset_214 : az_seek (214 : Int).toNat (az_cd 120) = zX8_sunset_214 := rfl
set_option maxRecDepth 100000 in
theorem kX7_undo_13 : az_seek (13 : Int).toNat (az_cd 122) = zX7_undo_13 := rfl
set_option maxRecDepth 100000 in
theorem kX8_undo_10 : az_seek (10 : Int).toNat (az_cd 123) = zX8_undo_10 := rfl
set_option maxRecDepth 100000 in
theorem kX7_guest_14 : az_seek (14 : Int).toNat (az_cd 124) = zX7_guest_14 := rfl
set_option maxRecDepth 100000 in
theorem kX7_guest_56 : az_seek (56 : Int).toNat (az_cd 124) = zX7_guest_56 := rfl
set_option maxRecDepth 100000 in
theorem kX7_guest_66 : az_seek (66 : Int).toNat (az_cd 124) = zX7_guest_66 := rfl
set_option maxRecDepth 100000 in
theorem kX7_guest_76 : az_seek (76 : Int).toNat (az_cd 124) = zX7_guest_76 := rfl
set_option maxRecDepth 100000 in
theorem kX7_guest_86 : az_seek (86 : Int).toNat (az_cd 124) = zX7_guest_86 := rfl
set_option maxRecDepth 100000 in
theorem kX7_guest_98 : az_seek (98 : Int).toNat (az_cd 124) = zX7_guest_98 := rfl
set_option maxRecDepth 100000 in
theorem kX7_guest_107 : az_seek (107 : Int).toNat (az_cd 124) = zX7_guest_107 := rfl
set_option maxRecDepth 100000 in
theorem kX7_guest_119 : az_seek (119 : Int).toNat (az_cd 124) = zX7_guest_119 := rfl
set_option maxRecDepth 100000 in
theorem kX7_guest_129 : az_seek (129 : Int).toNat (az_cd 124) = zX7_guest_129 := rfl
set_option maxRecDepth 100000 in
theorem kX8_guest_20 : az_seek (20 : Int).toNat (az_cd 125) = zX8_guest_20 := rfl
set_option maxRecDepth 100000 in
theorem kX8_guest_23 : az_seek (23 : Int).toNat (az_cd 125) = zX8_guest_23 := rfl
set_option maxRecDepth 100000 in
theorem kX8_guest_64 : az_seek (64 : Int).toNat (az_cd 125) = zX8_guest_64 := rfl
set_option maxRecDepth 100000 in
theorem kX8_guest_74 : az_seek (74 : Int).toNat (az_cd 125) = zX8_guest_74 := rfl
set_option maxRecDepth 100000 in
theorem kX8_guest_84 : az_seek (84 : Int).toNat (az_cd 125) = zX8_guest_84 := rfl
set_option maxRecDepth 100000 in
theorem kX8_guest_94 : az_seek (94 : Int).toNat (az_cd 125) = zX8_guest_94 := rfl
set_option maxRecDepth 100000 in
theorem kX8_guest_106 : az_seek (106 : Int).toNat (az_cd 125) = zX8_guest_106 := rfl
set_option maxRecDepth 100000 in
theorem kX8_guest_116 : az_seek (116 : Int).toNat (az_cd 125) = zX8_guest_116 := rfl
set_option maxRecDepth 100000 in
theorem kX8_guest_126 : az_seek (126 : Int).toNat (az_cd 125) = zX8_guest_126 := rfl
set_option maxRecDepth 100000 in
theorem kX7_price_13 : az_seek (13 : Int).toNat (az_cd 126) = zX7_price_13 := rfl
set_option maxRecDepth 100000 in
theorem kX7_price_31 : az_seek (31 : Int).toNat (az_cd 126) = zX7_price_31 := rfl
set_option maxRecDepth 100000 in
theorem kX7_price_33 : az_seek (33 : Int).toNat (az_cd 126) = zX7_price_33 := rfl
set_option maxRecDepth 100000 in
theorem kX8_price_12 : az_seek (12 : Int).toNat (az_cd 127) = zX8_price_12 := rfl
set_option maxRecDepth 100000 in
theorem kX8_price_32 : az_seek (32 : Int).toNat (az_cd 127) = zX8_price_32 := rfl
set_option maxRecDepth 100000 in
theorem kX8_price_34 : az_seek (34 : Int).toNat (az_cd 127) = zX8_price_34 := rfl
set_option maxRecDepth 100000 in
theorem kX7_look_13 : az_seek (13 : Int).toNat (az_cd 128) = zX7_look_13 := rfl
set_option maxRecDepth 100000 in
theorem kX7_look_24 : az_seek (24 : Int).toNat (az_cd 128) = zX7_look_24 := rfl
set_option maxRecDepth 100000 in
theorem kX7_look_27 : az_seek (27 : Int).toNat (az_cd 128) = zX7_look_27 := rfl
set_option maxRecDepth 100000 in
theorem kX7_look_49 : az_seek (49 : Int).toNat (az_cd 128) = zX7_look_49 := rfl
set_option maxRecDepth 100000 in
theorem kX7_look_70 : az_seek (70 : Int).toNat (az_cd 128) = zX7_look_70 := rfl
set_option maxRecDepth 100000 in
theorem kX7_look_73 : az_seek (73 : Int).toNat (az_cd 128) = zX7_look_73 := rfl
set_option maxRecDepth 100000 in
theorem kX7_look_108 : az_seek (108 : Int).toNat (az_cd 128) = zX7_look_108 := rfl
set_option maxRecDepth 100000 in
theorem kX7_look_111 : az_seek (111 : Int).toNat (az_cd 128) = zX7_look_111 := rfl
set_option maxRecDepth 100000 in
theorem kX7_look_117 : az_seek (117 : Int).toNat (az_cd 128) = zX7_look_117 := rfl
set_option maxRecDepth 100000 in
theorem kX7_hear_52 : az_seek (52 : Int).toNat (az_cd 129) = zX7_hear_52 := rfl
set_option maxRecDepth 100000 in
theorem kX2_joyIn_5 : az_seek (5 : Int).toNat (az_cd 130) = zX2_joyIn_5 := rfl
set_option maxRecDepth 100000 in
theorem kX2_joyIn_34 : az_seek (34 : Int).toNat (az_cd 130) = zX2_joyIn_34 := rfl
set_option maxRecDepth 100000 in
theorem kX2_joyIn_40 : az_seek (40 : Int).toNat (az_cd 130) = zX2_joyIn_40 := rfl
set_option maxRecDepth 100000 in
theorem kX2_worthOf_4 : az_seek (4 : Int).toNat (az_cd 131) = zX2_worthOf_4 := rfl
set_option maxRecDepth 100000 in
theorem kX2_worthOf_29 : az_seek (29 : Int).toNat (az_cd 131) = zX2_worthOf_29 := rfl
set_option maxRecDepth 100000 in
theorem kX7_worth_25 : az_seek (25 : Int).toNat (az_cd 132) = zX7_worth_25 := rfl
set_option maxRecDepth 100000 in
theorem kX7_worth_26 : az_seek (26 : Int).toNat (az_cd 132) = zX7_worth_26 := rfl
set_option maxRecDepth 100000 in
theorem kX7_worth_39 : az_seek (39 : Int).toNat (az_cd 132) = zX7_worth_39 := rfl
set_option maxRecDepth 100000 in
theorem kX7_worth_68 : az_seek (68 : Int).toNat (az_cd 132) = zX7_worth_68 := rfl
set_option maxRecDepth 100000 in
theorem kX7_worth_77 : az_seek (77 : Int).toNat (az_cd 132) = zX7_worth_77 := rfl
set_option maxRecDepth 100000 in
theorem kX7_worth_86 : az_seek (86 : Int).toNat (az_cd 132) = zX7_worth_86 := rfl
set_option maxRecDepth 100000 in
theorem kX8_tells_10 : az_seek (10 : Int).toNat (az_cd 133) = zX8_tells_10 := rfl
set_option maxRecDepth 100000 in
theorem kX8_tells_21 : az_seek (21 : Int).toNat (az_cd 133) = zX8_tells_21 := rfl
set_option maxRecDepth 100000 in
theorem kX8_tells_24 : az_seek (24 : Int).toNat (az_cd 133) = zX8_tells_24 := rfl
set_option maxRecDepth 100000 in
theorem kX8_tells_39 : az_seek (39 : Int).toNat (az_cd 133) = zX8_tells_39 := rfl
set_option maxRecDepth 100000 in
theorem kX8_tells_60 : az_seek (60 : Int).toNat (az_cd 133) = zX8_tells_60 := rfl
set_option maxRecDepth 100000 in
theorem kX8_tells_63 : az_seek (63 : Int).toNat (az_cd 133) = zX8_tells_63 := rfl
set_option maxRecDepth 100000 in
theorem kX8_tells_99 : az_seek (99 : Int).toNat (az_cd 133) = zX8_tells_99 := rfl
set_option maxRecDepth 100000 in
theorem kX8_tells_124 : az_seek (124 : Int).toNat (az_cd 133) = zX8_tells_124 := rfl
set_option maxRecDepth 100000 in
theorem kX8_joyOf_41 : az_seek (41 : Int).toNat (az_cd 134) = zX8_joyOf_41 := rfl
set_option maxRecDepth 100000 in
theorem kX8_joyOf_60 : az_seek (60 : Int).toNat (az_cd 134) = zX8_joyOf_60 := rfl
set_option maxRecDepth 100000 in
theorem kX8_joyOf_62 : az_seek (62 : Int).toNat (az_cd 134) = zX8_joyOf_62 := rfl
set_option maxRecDepth 100000 in
theorem kX8_joyOf_70 : az_seek (70 : Int).toNat (az_cd 134) = zX8_joyOf_70 := rfl
set_option maxRecDepth 100000 in
theorem kX8_joyOf_104 : az_seek (104 : Int).toNat (az_cd 134) = zX8_joyOf_104 := rfl
set_option maxRecDepth 100000 in
theorem kX8_joyOf_105 : az_seek (105 : Int).toNat (az_cd 134) = zX8_joyOf_105 := rfl
set_option maxRecDepth 100000 in
theorem kX8_joyOf_114 : az_seek (114 : Int).toNat (az_cd 134) = zX8_joyOf_114 := rfl
set_option maxRecDepth 100000 in
theorem kX8_joyOf_131 : az_seek (131 : Int).toNat (az_cd 134) = zX8_joyOf_131 := rfl
set_option maxRecDepth 100000 in
theorem kX8_joyOf_133 : az_seek (133 : Int).toNat (az_cd 134) = zX8_joyOf_133 := rfl
set_option maxRecDepth 100000 in
theorem kX8_joyOf_134 : az_seek (134 : Int).toNat (az_cd 134) = zX8_joyOf_134 := rfl
set_option maxRecDepth 100000 in
theorem kX8_joyOf_147 : az_seek (147 : Int).toNat (az_cd 134) = zX8_joyOf_147 := rfl
set_option maxRecDepth 100000 in
theorem kX8_joyOf_160 : az_seek (160 : Int).toNat (az_cd 134) = zX8_joyOf_160 := rfl
set_option maxRecDepth 100000 in
theorem kX8_joyOf_162 : az_seek (162 : Int).toNat (az_cd 134) = zX8_joyOf_162 := rfl
set_option maxRecDepth 100000 in
theorem kX8_worthOf_13 : az_seek (13 : Int).toNat (az_cd 135) = zX8_worthOf_13 := rfl
set_option maxRecDepth 100000 in
theorem kX8_worthOf_38 : az_seek (38 : Int).toNat (az_cd 135) = zX8_worthOf_38 := rfl
set_option maxRecDepth 100000 in
theorem kX8_worth_26 : az_seek (26 : Int).toNat (az_cd 136) = zX8_worth_26 := rfl
set_option maxRecDepth 100000 in
theorem kX8_worth_27 : az_seek (27 : Int).toNat (az_cd 136) = zX8_worth_27 := rfl
set_option maxRecDepth 100000 in
theorem kX8_worth_42 : az_seek (42 : Int).toNat (az_cd 136) = zX8_worth_42 := rfl
set_option maxRecDepth 100000 in
theorem kX8_worth_58 : az_seek (58 : Int).toNat (az_cd 136) = zX8_worth_58 := rfl
set_option maxRecDepth 100000 in
theorem kX8_worth_71 : az_seek (71 : Int).toNat (az_cd 136) = zX8_worth_71 := rfl
set_option maxRecDepth 100000 in
theorem kX8_worth_77 : az_seek (77 : Int).toNat (az_cd 136) = zX8_worth_77 := rfl
set_option maxRecDepth 100000 in
theorem kX3_bestOf_18 : az_seek (18 : Int).toNat (az_cd 137) = zX3_bestOf_18 := rfl
set_option maxRecDepth 100000 in
theorem kX3_bestOf_88 : az_seek (88 : Int).toNat (az_cd 137) = zX3_bestOf_88 := rfl
set_option maxRecDepth 100000 in
theorem kX3_bestOf_89 : az_seek (89 : Int).toNat (az_cd 137) = zX3_bestOf_89 := rfl
set_option maxRecDepth 100000 in
theorem kX3_bestOf_112 : az_seek (112 : Int).toNat (az_cd 137) = zX3_bestOf_112 := rfl
set_option maxRecDepth 100000 in
theorem kX3_bestOf_113 : az_seek (113 : Int).toNat (az_cd 137) = zX3_bestOf_113 := rfl
set_option maxRecDepth 100000 in
theorem kX3_bestOf_122 : az_seek (122 : Int).toNat (az_cd 137) = zX3_bestOf_122 := rfl
set_option maxRecDepth 100000 in
theorem kX7_best_22 : az_seek (22 : Int).toNat (az_cd 138) = zX7_best_22 := rfl
set_option maxRecDepth 100000 in
theorem kX7_best_30 : az_seek (30 : Int).toNat (az_cd 138) = zX7_best_30 := rfl
set_option maxRecDepth 100000 in
theorem kX8_bestOf_15 : az_seek (15 : Int).toNat (az_cd 139) = zX8_bestOf_15 := rfl
set_option maxRecDepth 100000 in
theorem kX8_bestOf_49 : az_seek (49 : Int).toNat (az_cd 139) = zX8_bestOf_49 := rfl
set_option maxRecDepth 100000 in
theorem kX8_bestOf_56 : az_seek (56 : Int).toNat (az_cd 139) = zX8_bestOf_56 := rfl
set_option maxRecDepth 100000 in
theorem kX8_bestOf_62 : az_seek (62 : Int).toNat (az_cd 139) = zX8_bestOf_62 := rfl
set_option maxRecDepth 100000 in
theorem kX8_best_21 : az_seek (21 : Int).toNat (az_cd 140) = zX8_best_21 := rfl
set_option maxRecDepth 100000 in
theorem kX8_best_26 : az_seek (26 : Int).toNat (az_cd 140) = zX8_best_26 := rfl
set_option maxRecDepth 100000 in
theorem kX3_turns_2 : az_seek (2 : Int).toNat (az_cd 141) = zX3_turns_2 := rfl
set_option maxRecDepth 100000 in
theorem kX3_turns_12 : az_seek (12 : Int).toNat (az_cd 141) = zX3_turns_12 := rfl
set_option maxRecDepth 100000 in
theorem kX3_turns_52 : az_seek (52 : Int).toNat (az_cd 141) = zX3_turns_52 := rfl
set_option maxRecDepth 100000 in
theorem kX3_turns_53 : az_seek (53 : Int).toNat (az_cd 141) = zX3_turns_53 := rfl
set_option maxRecDepth 100000 in
theorem kX3_turns_71 : az_seek (71 : Int).toNat (az_cd 141) = zX3_turns_71 := rfl
set_option maxRecDepth 100000 in
theorem kX3_turns_77 : az_seek (77 : Int).toNat (az_cd 141) = zX3_turns_77 := rfl
set_option maxRecDepth 100000 in
theorem kX3_turns_83 : az_seek (83 : Int).toNat (az_cd 141) = zX3_turns_83 := rfl
set_option maxRecDepth 100000 in
theorem kX7_rounds_18 : az_seek (18 : Int).toNat (az_cd 142) = zX7_rounds_18 := rfl
set_option maxRecDepth 100000 in
theorem kX7_rounds_22 : az_seek (22 : Int).toNat (az_cd 142) = zX7_rounds_22 := rfl
set_option maxRecDepth 100000 in
theorem kX7_rounds_23 : az_seek (23 : Int).toNat (az_cd 142) = zX7_rounds_23 := rfl
set_option maxRecDepth 100000 in
theorem kX7_rounds_33 : az_seek (33 : Int).toNat (az_cd 142) = zX7_rounds_33 := rfl
set_option maxRecDepth 100000 in
theorem kX7_rounds_52 : az_seek (52 : Int).toNat (az_cd 142) = zX7_rounds_52 := rfl
set_option maxRecDepth 100000 in
theorem kX7_rounds_61 : az_seek (61 : Int).toNat (az_cd 142) = zX7_rounds_61 := rfl
set_option maxRecDepth 100000 in
theorem kX8_turns_2 : az_seek (2 : Int).toNat (az_cd 143) = zX8_turns_2 := rfl
set_option maxRecDepth 100000 in
theorem kX8_turns_12 : az_seek (12 : Int).toNat (az_cd 143) = zX8_turns_12 := rfl
set_option maxRecDepth 100000 in
theorem kX8_turns_44 : az_seek (44 : Int).toNat (az_cd 143) = zX8_turns_44 := rfl
set_option maxRecDepth 100000 in
theorem kX8_turns_48 : az_seek (48 : Int).toNat (az_cd 143) = zX8_turns_48 := rfl
set_option maxRecDepth 100000 in
theorem kX8_turns_49 : az_seek (49 : Int).toNat (az_cd 143) = zX8_turns_49 := rfl
set_option maxRecDepth 100000 in
theorem kX8_turns_64 : az_seek (64 : Int).toNat (az_cd 143) = zX8_turns_64 := rfl
set_option maxRecDepth 100000 in
theorem kX8_turns_70 : az_seek (70 : Int).toNat (az_cd 143) = zX8_turns_70 := rfl
set_option maxRecDepth 100000 in
theorem kX8_turns_76 : az_seek (76 : Int).toNat (az_cd 143) = zX8_turns_76 := rfl
set_option maxRecDepth 100000 in
theorem kX8_rounds_15 : az_seek (15 : Int).toNat (az_cd 144) = zX8_rounds_15 := rfl
set_option maxRecDepth 100000 in
theorem kX8_rounds_19 : az_seek (19 : Int).toNat (az_cd 144) = zX8_rounds_19 := rfl
set_option maxRecDepth 100000 in
theorem kX8_rounds_20 : az_seek (20 : Int).toNat (az_cd 144) = zX8_rounds_20 := rfl
set_option maxRecDepth 100000 in
theorem kX8_rounds_32 : az_seek (32 : Int).toNat (az_cd 144) = zX8_rounds_32 := rfl
set_option maxRecDepth 100000 in
theorem kX8_rounds_47 : az_seek (47 : Int).toNat (az_cd 144) = zX8_rounds_47 := rfl
set_option maxRecDepth 100000 in
theorem kX8_rounds_53 : az_seek (53 : Int).toNat (az_cd 144) = zX8_rounds_53 := rfl
set_option maxRecDepth 100000 in
theorem kX3_forgetCommon_2 : az_seek (2 : Int).toNat (az_cd 145) = zX3_forgetCommon_2 := rfl
set_option maxRecDepth 100000 in
theorem kX3_forgetCommon_21 : az_seek (21 : Int).toNat (az_cd 145) = zX3_forgetCommon_21 := rfl
set_option maxRecDepth 100000 in
theorem kX3_countChoices_4 : az_seek (4 : Int).toNat (az_cd 146) = zX3_countChoices_4 := rfl
set_option maxRecDepth 100000 in
theorem kX3_countChoices_26 : az_seek (26 : Int).toNat (az_cd 146) = zX3_countChoices_26 := rfl
set_option maxRecDepth 100000 in
theorem kX3_choose_12 : az_seek (12 : Int).toNat (az_cd 147) = zX3_choose_12 := rfl
set_option maxRecDepth 100000 in
theorem kX3_choose_40 : az_seek (40 : Int).toNat (az_cd 147) = zX3_choose_40 := rfl
set_option maxRecDepth 100000 in
theorem kX3_isContent_33 : az_seek (33 : Int).toNat (az_cd 148) = zX3_isContent_33 := rfl
set_option maxRecDepth 100000 in
theorem kX3_isContent_34 : az_seek (34 : Int).toNat (az_cd 148) = zX3_isContent_34 := rfl
set_option maxRecDepth 100000 in
theorem kX3_isRest_2 : az_seek (2 : Int).toNat (az_cd 149) = zX3_isRest_2 := rfl
set_option maxRecDepth 100000 in
theorem kX3_isRest_23 : az_seek (23 : Int).toNat (az_cd 149) = zX3_isRest_23 := rfl
set_option maxRecDepth 100000 in
theorem kX3_isRest_29 : az_seek (29 : Int).toNat (az_cd 149) = zX3_isRest_29 := rfl
set_option maxRecDepth 100000 in
theorem kX3_countRests_13 : az_seek (13 : Int).toNat (az_cd 150) = zX3_countRests_13 := rfl
set_option maxRecDepth 100000 in
theorem kX3_countRests_57 : az_seek (57 : Int).toNat (az_cd 150) = zX3_countRests_57 := rfl
set_option maxRecDepth 100000 in
theorem kX3_countRests_60 : az_seek (60 : Int).toNat (az_cd 150) = zX3_countRests_60 := rfl
set_option maxRecDepth 100000 in
theorem kX3_countRests_66 : az_seek (66 : Int).toNat (az_cd 150) = zX3_countRests_66 := rfl
set_option maxRecDepth 100000 in
theorem kX7_rests_13 : az_seek (13 : Int).toNat (az_cd 151) = zX7_rests_13 := rfl
set_option maxRecDepth 100000 in
theorem kX7_rests_32 : az_seek (32 : Int).toNat (az_cd 151) = zX7_rests_32 := rfl
set_option maxRecDepth 100000 in
theorem kX7_rests_60 : az_seek (60 : Int).toNat (az_cd 151) = zX7_rests_60 := rfl
set_option maxRecDepth 100000 in
theorem kX7_rests_69 : az_seek (69 : Int).toNat (az_cd 151) = zX7_rests_69 := rfl
set_option maxRecDepth 100000 in
theorem kX8_rows_4 : az_seek (4 : Int).toNat (az_cd 152) = zX8_rows_4 := rfl
set_option maxRecDepth 100000 in
theorem kX8_rows_25 : az_seek (25 : Int).toNat (az_cd 152) = zX8_rows_25 := rfl
set_option maxRecDepth 100000 in
theorem kX8_tellBy_11 : az_seek (11 : Int).toNat (az_cd 153) = zX8_tellBy_11 := rfl
set_option maxRecDepth 100000 in
theorem kX8_tellBy_36 : az_seek (36 : Int).toNat (az_cd 153) = zX8_tellBy_36 := rfl
set_option maxRecDepth 100000 in
theorem kX8_isRest_4 : az_seek (4 : Int).toNat (az_cd 154) = zX8_isRest_4 := rfl
set_option maxRecDepth 100000 in
theorem kX8_isRest_35 : az_seek (35 : Int).toNat (az_cd 154) = zX8_isRest_35 := rfl
set_option maxRecDepth 100000 in
theorem kX8_isRest_68 : az_seek (68 : Int).toNat (az_cd 154) = zX8_isRest_68 := rfl
set_option maxRecDepth 100000 in
theorem kX8_isRest_69 : az_seek (69 : Int).toNat (az_cd 154) = zX8_isRest_69 := rfl
set_option maxRecDepth 100000 in
theorem kX8_isRest_76 : az_seek (76 : Int).toNat (az_cd 154) = zX8_isRest_76 := rfl
set_option maxRecDepth 100000 in
theorem kX8_isRest_89 : az_seek (89 : Int).toNat (az_cd 154) = zX8_isRest_89 := rfl
set_option maxRecDepth 100000 in
theorem kX8_rests_10 : az_seek (10 : Int).toNat (az_cd 155) = zX8_rests_10 := rfl
set_option maxRecDepth 100000 in
theorem kX8_rests_26 : az_seek (26 : Int).toNat (az_cd 155) = zX8_rests_26 := rfl
set_option maxRecDepth 100000 in
theorem kX8_rests_38 : az_seek (38 : Int).toNat (az_cd 155) = zX8_rests_38 := rfl
set_option maxRecDepth 100000 in
theorem kX8_rests_77 : az_seek (77 : Int).toNat (az_cd 155) = zX8_rests_77 := rfl
set_option maxRecDepth 100000 in
theorem kX8_rests_78 : az_seek (78 : Int).toNat (az_cd 155) = zX8_rests_78 := rfl
set_option maxRecDepth 100000 in
theorem kX8_rests_82 : az_seek (82 : Int).toNat (az_cd 155) = zX8_rests_82 := rfl
set_option maxRecDepth 100000 in
theorem kX8_rests_88 : az_seek (88 : Int).toNat (az_cd 155) = zX8_rests_88 := rfl
set_option maxRecDepth 100000 in
theorem kX8_rests_96 : az_seek (96 : Int).toNat (az_cd 155) = zX8_rests_96 := rfl
set_option maxRecDepth 100000 in
theorem kX8_rests_97 : az_seek (97 : Int).toNat (az_cd 155) = zX8_rests_97 := rfl
set_option maxRecDepth 100000 in
theorem kX3_agree_22 : az_seek (22 : Int).toNat (az_cd 156) = zX3_agree_22 := rfl
set_option maxRecDepth 100000 in
theorem kX3_agree_79 : az_seek (79 : Int).toNat (az_cd 156) = zX3_agree_79 := rfl
set_option maxRecDepth 100000 in
theorem kX3_agree_85 : az_seek (85 : Int).toNat (az_cd 156) = zX3_agree_85 := rfl
set_option maxRecDepth 100000 in
theorem kX7_pact_42 : az_seek (42 : Int).toNat (az_cd 157) = zX7_pact_42 := rfl
set_option maxRecDepth 100000 in
theorem kX7_pact_43 : az_seek (43 : Int).toNat (az_cd 157) = zX7_pact_43 := rfl
set_option maxRecDepth 100000 in
theorem kX7_pact_56 : az_seek (56 : Int).toNat (az_cd 157) = zX7_pact_56 := rfl
set_option maxRecDepth 100000 in
theorem kX7_pact_80 : az_seek (80 : Int).toNat (az_cd 157) = zX7_pact_80 := rfl
set_option maxRecDepth 100000 in
theorem kX7_pact_83 : az_seek (83 : Int).toNat (az_cd 157) = zX7_pact_83 := rfl
set_option maxRecDepth 100000 in
theorem kX7_pact_109 : az_seek (109 : Int).toNat (az_cd 157) = zX7_pact_109 := rfl
set_option maxRecDepth 100000 in
theorem kX7_pact_110 : az_seek (110 : Int).toNat (az_cd 157) = zX7_pact_110 := rfl
set_option maxRecDepth 100000 in
theorem kX8_pact_38 : az_seek (38 : Int).toNat (az_cd 158) = zX8_pact_38 := rfl
set_option maxRecDepth 100000 in
theorem kX8_pact_39 : az_seek (39 : Int).toNat (az_cd 158) = zX8_pact_39 := rfl
set_option maxRecDepth 100000 in
theorem kX8_pact_54 : az_seek (54 : Int).toNat (az_cd 158) = zX8_pact_54 := rfl
set_option maxRecDepth 100000 in
theorem kX8_pact_74 : az_seek (74 : Int).toNat (az_cd 158) = zX8_pact_74 := rfl
set_option maxRecDepth 100000 in
theorem kX8_pact_126 : az_seek (126 : Int).toNat (az_cd 158) = zX8_pact_126 := rfl
set_option maxRecDepth 100000 in
theorem kX8_pact_127 : az_seek (127 : Int).toNat (az_cd 158) = zX8_pact_127 := rfl
set_option maxRecDepth 100000 in
theorem kX8_pact_135 : az_seek (135 : Int).toNat (az_cd 158) = zX8_pact_135 := rfl
set_option maxRecDepth 100000 in
theorem kX8_pact_148 : az_seek (148 : Int).toNat (az_cd 158) = zX8_pact_148 := rfl
set_option maxRecDepth 100000 in
theorem kX8_pact_158 : az_seek (158 : Int).toNat (az_cd 158) = zX8_pact_158 := rfl
set_option maxRecDepth 100000 in
theorem kX8_pact_160 : az_seek (160 : Int).toNat (az_cd 158) = zX8_pact_160 := rfl
set_option maxRecDepth 100000 in
theorem kX8_pact_161 : az_seek (161 : Int).toNat (az_cd 158) = zX8_pact_161 := rfl
set_option maxRecDepth 100000 in
theorem kX8_pact_181 : az_seek (181 : Int).toNat (az_cd 158) = zX8_pact_181 := rfl
set_option maxRecDepth 100000 in
theorem kX8_pact_215 : az_seek (215 : Int).toNat (az_cd 158) = zX8_pact_215 := rfl
set_option maxRecDepth 100000 in
theorem kX8_pact_216 : az_seek (216 : Int).toNat (az_cd 158) = zX8_pact_216 := rfl
set_option maxRecDepth 100000 in
theorem kX8_pact_253 : az_seek (253 : Int).toNat (az_cd 158) = zX8_pact_253 := rfl
set_option maxRecDepth 100000 in
theorem kX8_pact_254 : az_seek (254 : Int).toNat (az_cd 158) = zX8_pact_254 := rfl
set_option maxRecDepth 100000 in
theorem kX8_pact_270 : az_seek (270 : Int).toNat (az_cd 158) = zX8_pact_270 := rfl
set_option maxRecDepth 100000 in
theorem kX8_pact_279 : az_seek (279 : Int).toNat (az_cd 158) = zX8_pact_279 := rfl
set_option maxRecDepth 100000 in
theorem kX8_pact_280 : az_seek (280 : Int).toNat (az_cd 158) = zX8_pact_280 := rfl
set_option maxRecDepth 100000 in
theorem kX3_meanAlone_9 : az_seek (9 : Int).toNat (az_cd 159) = zX3_meanAlone_9 := rfl
set_option maxRecDepth 100000 in
theorem kX3_meanAlone_110 : az_seek (110 : Int).toNat (az_cd 159) = zX3_meanAlone_110 := rfl
set_option maxRecDepth 100000 in
theorem kX3_commonDivisor_9 : az_seek (9 : Int).toNat (az_cd 160) = zX3_commonDivisor_9 := rfl
set_option maxRecDepth 100000 in
theorem kX3_commonDivisor_44 : az_seek (44 : Int).toNat (az_cd 160) = zX3_commonDivisor_44 := rfl
set_option maxRecDepth 100000 in
theorem kX7_alone_13 : az_seek (13 : Int).toNat (az_cd 161) = zX7_alone_13 := rfl
set_option maxRecDepth 100000 in
theorem kX7_alone_42 : az_seek (42 : Int).toNat (az_cd 161) = zX7_alone_42 := rfl
set_option maxRecDepth 100000 in
theorem kX7_alone_45 : az_seek (45 : Int).toNat (az_cd 161) = zX7_alone_45 := rfl
set_option maxRecDepth 100000 in
theorem kX7_alone_90 : az_seek (90 : Int).toNat (az_cd 161) = zX7_alone_90 := rfl
set_option maxRecDepth 100000 in
theorem kX7_alone_93 : az_seek (93 : Int).toNat (az_cd 161) = zX7_alone_93 := rfl
set_option maxRecDepth 100000 in
theorem kX8_alone_10 : az_seek (10 : Int).toNat (az_cd 162) = zX8_alone_10 := rfl
set_option maxRecDepth 100000 in
theorem kX8_alone_40 : az_seek (40 : Int).toNat (az_cd 162) = zX8_alone_40 := rfl
set_option maxRecDepth 100000 in
theorem kX8_alone_43 : az_seek (43 : Int).toNat (az_cd 162) = zX8_alone_43 := rfl
set_option maxRecDepth 100000 in
theorem kX8_alone_46 : az_seek (46 : Int).toNat (az_cd 162) = zX8_alone_46 := rfl
set_option maxRecDepth 100000 in
theorem kX8_alone_66 : az_seek (66 : Int).toNat (az_cd 162) = zX8_alone_66 := rfl
set_option maxRecDepth 100000 in
theorem kX8_alone_75 : az_seek (75 : Int).toNat (az_cd 162) = zX8_alone_75 := rfl
set_option maxRecDepth 100000 in
theorem kX8_alone_109 : az_seek (109 : Int).toNat (az_cd 162) = zX8_alone_109 := rfl
set_option maxRecDepth 100000 in
theorem kX8_alone_110 : az_seek (110 : Int).toNat (az_cd 162) = zX8_alone_110 := rfl
set_option maxRecDepth 100000 in
theorem kX8_alone_173 : az_seek (173 : Int).toNat (az_cd 162) = zX8_alone_173 := rfl
set_option maxRecDepth 100000 in
theorem kX8_alone_174 : az_seek (174 : Int).toNat (az_cd 162) = zX8_alone_174 := rfl
set_option maxRecDepth 100000 in
theorem kX8_alone_192 : az_seek (192 : Int).toNat (az_cd 162) = zX8_alone_192 := rfl
set_option maxRecDepth 100000 in
theorem kX8_alone_193 : az_seek (193 : Int).toNat (az_cd 162) = zX8_alone_193 := rfl
set_option maxRecDepth 100000 in
theorem kX8_alone_211 : az_seek (211 : Int).toNat (az_cd 162) = zX8_alone_211 := rfl
set_option maxRecDepth 100000 in
theorem kX8_alone_219 : az_seek (219 : Int).toNat (az_cd 162) = zX8_alone_219 := rfl
set_option maxRecDepth 100000 in
theorem kX8_alone_244 : az_seek (244 : Int).toNat (az_cd 162) = zX8_alone_244 := rfl
set_option maxRecDepth 100000 in
theorem kX8_alone_256 : az_seek (256 : Int).toNat (az_cd 162) = zX8_alone_256 := rfl
set_option maxRecDepth 100000 in
theorem kX8_alone_261 : az_seek (261 : Int).toNat (az_cd 162) = zX8_alone_261 := rfl
set_option maxRecDepth 100000 in
theorem kX3_isPaid_2 : az_seek (2 : Int).toNat (az_cd 163) = zX3_isPaid_2 := rfl
set_option maxRecDepth 100000 in
theorem kX3_isPaid_29 : az_seek (29 : Int).toNat (az_cd 163) = zX3_isPaid_29 := rfl
set_option maxRecDepth 100000 in
theorem kX3_isPaid_35 : az_seek (35 : Int).toNat (az_cd 163) = zX3_isPaid_35 := rfl
set_option maxRecDepth 100000 in
theorem kX3_meetCommon_2 : az_seek (2 : Int).toNat (az_cd 164) = zX3_meetCommon_2 := rfl
set_option maxRecDepth 100000 in
theorem kX3_meetCommon_35 : az_seek (35 : Int).toNat (az_cd 164) = zX3_meetCommon_35 := rfl
set_option maxRecDepth 100000 in
theorem kX3_meetCommon_61 : az_seek (61 : Int).toNat (az_cd 164) = zX3_meetCommon_61 := rfl
set_option maxRecDepth 100000 in
theorem kX3_meetCommon_67 : az_seek (67 : Int).toNat (az_cd 164) = zX3_meetCommon_67 := rfl
set_option maxRecDepth 100000 in
theorem kX3_explain_14 : az_seek (14 : Int).toNat (az_cd 165) = zX3_explain_14 := rfl
set_option maxRecDepth 100000 in
theorem kX3_explain_43 : az_seek (43 : Int).toNat (az_cd 165) = zX3_explain_43 := rfl
set_option maxRecDepth 100000 in
theorem kX3_explain_44 : az_seek (44 : Int).toNat (az_cd 165) = zX3_explain_44 := rfl
set_option maxRecDepth 100000 in
theorem kX3_explain_50 : az_seek (50 : Int).toNat (az_cd 165) = zX3_explain_50 := rfl
set_option maxRecDepth 100000 in
theorem kX3_explain_56 : az_seek (56 : Int).toNat (az_cd 165) = zX3_explain_56 := rfl
set_option maxRecDepth 100000 in
theorem kX7_explained_18 : az_seek (18 : Int).toNat (az_cd 166) = zX7_explained_18 := rfl
set_option maxRecDepth 100000 in
theorem kX7_explained_22 : az_seek (22 : Int).toNat (az_cd 166) = zX7_explained_22 := rfl
set_option maxRecDepth 100000 in
theorem kX7_explained_23 : az_seek (23 : Int).toNat (az_cd 166) = zX7_explained_23 := rfl
set_option maxRecDepth 100000 in
theorem kX7_explained_36 : az_seek (36 : Int).toNat (az_cd 166) = zX7_explained_36 := rfl
set_option maxRecDepth 100000 in
theorem kX7_explained_75 : az_seek (75 : Int).toNat (az_cd 166) = zX7_explained_75 := rfl
set_option maxRecDepth 100000 in
theorem kX7_explained_84 : az_seek (84 : Int).toNat (az_cd 166) = zX7_explained_84 := rfl
set_option maxRecDepth 100000 in
theorem kX8_explained_15 : az_seek (15 : Int).toNat (az_cd 167) = zX8_explained_15 := rfl
set_option maxRecDepth 100000 in
theorem kX8_explained_19 : az_seek (19 : Int).toNat (az_cd 167) = zX8_explained_19 := rfl
set_option maxRecDepth 100000 in
theorem kX8_explained_20 : az_seek (20 : Int).toNat (az_cd 167) = zX8_explained_20 := rfl
set_option maxRecDepth 100000 in
theorem kX8_explained_32 : az_seek (32 : Int).toNat (az_cd 167) = zX8_explained_32 := rfl
set_option maxRecDepth 100000 in
theorem kX8_explained_42 : az_seek (42 : Int).toNat (az_cd 167) = zX8_explained_42 := rfl
set_option maxRecDepth 100000 in
theorem kX8_explained_67 : az_seek (67 : Int).toNat (az_cd 167) = zX8_explained_67 := rfl
set_option maxRecDepth 100000 in
theorem kX8_explained_108 : az_seek (108 : Int).toNat (az_cd 167) = zX8_explained_108 := rfl
set_option maxRecDepth 100000 in
theorem kX8_explained_109 : az_seek (109 : Int).toNat (az_cd 167) = zX8_explained_109 := rfl
set_option maxRecDepth 100000 in
theorem kX8_explained_117 : az_seek (117 : Int).toNat (az_cd 167) = zX8_explained_117 := rfl
set_option maxRecDepth 100000 in
theorem kX8_explained_142 : az_seek (142 : Int).toNat (az_cd 167) = zX8_explained_142 := rfl
set_option maxRecDepth 100000 in
theorem kX8_explained_151 : az_seek (151 : Int).toNat (az_cd 167) = zX8_explained_151 := rfl
set_option maxRecDepth 100000 in
theorem kX8_explained_153 : az_seek (153 : Int).toNat (az_cd 167) = zX8_explained_153 := rfl
set_option maxRecDepth 100000 in
theorem kX8_explained_155 : az_seek (155 : Int).toNat (az_cd 167) = zX8_explained_155 := rfl
set_option maxRecDepth 100000 in
theorem kX8_explained_166 : az_seek (166 : Int).toNat (az_cd 167) = zX8_explained_166 := rfl
set_option maxRecDepth 100000 in
theorem kX8_explained_167 : az_seek (167 : Int).toNat (az_cd 167) = zX8_explained_167 := rfl
set_option maxRecDepth 100000 in
theorem kX8_explained_176 : az_seek (176 : Int).toNat (az_cd 167) = zX8_explained_176 := rfl
set_option maxRecDepth 100000 in
theorem kX8_explained_185 : az_seek (185 : Int).toNat (az_cd 167) = zX8_explained_185 := rfl
set_option maxRecDepth 100000 in
theorem kX8_explained_187 : az_seek (187 : Int).toNat (az_cd 167) = zX8_explained_187 := rfl
set_option maxRecDepth 100000 in
theorem kX3_gapOfWorths_12 : az_seek (12 : Int).toNat (az_cd 168) = zX3_gapOfWorths_12 := rfl
set_option maxRecDepth 100000 in
theorem kX3_gapOfWorths_25 : az_seek (25 : Int).toNat (az_cd 168) = zX3_gapOfWorths_25 := rfl
set_option maxRecDepth 100000 in
theorem kX3_gapOfWorths_66 : az_seek (66 : Int).toNat (az_cd 168) = zX3_gapOfWorths_66 := rfl
set_option maxRecDepth 100000 in
theorem kX3_fairestSplit_7 : az_seek (7 : Int).toNat (az_cd 169) = zX3_fairestSplit_7 := rfl
set_option maxRecDepth 100000 in
theorem kX3_fairestSplit_37 : az_seek (37 : Int).toNat (az_cd 169) = zX3_fairestSplit_37 := rfl
set_option maxRecDepth 100000 in
theorem kX3_fairestSplit_43 : az_seek (43 : Int).toNat (az_cd 169) = zX3_fairestSplit_43 := rfl
set_option maxRecDepth 100000 in
theorem kX3_restingSplits_4 : az_seek (4 : Int).toNat (az_cd 170) = zX3_restingSplits_4 := rfl
set_option maxRecDepth 100000 in
theorem kX3_restingSplits_30 : az_seek (30 : Int).toNat (az_cd 170) = zX3_restingSplits_30 := rfl
set_option maxRecDepth 100000 in
theorem kX3_restingSplits_36 : az_seek (36 : Int).toNat (az_cd 170) = zX3_restingSplits_36 := rfl
set_option maxRecDepth 100000 in
theorem kX7_laws_17 : az_seek (17 : Int).toNat (az_cd 171) = zX7_laws_17 := rfl
set_option maxRecDepth 100000 in
theorem kX7_laws_31 : az_seek (31 : Int).toNat (az_cd 171) = zX7_laws_31 := rfl
set_option maxRecDepth 100000 in
theorem kX7_laws_38 : az_seek (38 : Int).toNat (az_cd 171) = zX7_laws_38 := rfl
set_option maxRecDepth 100000 in
theorem kX8_laws_21 : az_seek (21 : Int).toNat (az_cd 172) = zX8_laws_21 := rfl
set_option maxRecDepth 100000 in
theorem kX8_laws_33 : az_seek (33 : Int).toNat (az_cd 172) = zX8_laws_33 := rfl
set_option maxRecDepth 100000 in
theorem kX8_laws_54 : az_seek (54 : Int).toNat (az_cd 172) = zX8_laws_54 := rfl
set_option maxRecDepth 100000 in
theorem kX8_laws_85 : az_seek (85 : Int).toNat (az_cd 172) = zX8_laws_85 := rfl
set_option maxRecDepth 100000 in
theorem kX8_laws_90 : az_seek (90 : Int).toNat (az_cd 172) = zX8_laws_90 := rfl
set_option maxRecDepth 100000 in
theorem kX8_laws_92 : az_seek (92 : Int).toNat (az_cd 172) = zX8_laws_92 := rfl
set_option maxRecDepth 100000 in
theorem kX8_laws_106 : az_seek (106 : Int).toNat (az_cd 172) = zX8_laws_106 := rfl
set_option maxRecDepth 100000 in
theorem kX8_laws_111 : az_seek (111 : Int).toNat (az_cd 172) = zX8_laws_111 := rfl
set_option maxRecDepth 100000 in
theorem kX8_laws_113 : az_seek (113 : Int).toNat (az_cd 172) = zX8_laws_113 := rfl
set_option maxRecDepth 100000 in
theorem kX8_laws_121 : az_seek (121 : Int).toNat (az_cd 172) = zX8_laws_121 := rfl
set_option maxRecDepth 100000 in
theorem kX8_laws_136 : az_seek (136 : Int).toNat (az_cd 172) = zX8_laws_136 := rfl
set_option maxRecDepth 100000 in
theorem kX8_laws_147 : az_seek (147 : Int).toNat (az_cd 172) = zX8_laws_147 := rfl
set_option maxRecDepth 100000 in
theorem kX8_laws_163 : az_seek (163 : Int).toNat (az_cd 172) = zX8_laws_163 := rfl
set_option maxRecDepth 100000 in
theorem kX8_laws_164 : az_seek (164 : Int).toNat (az_cd 172) = zX8_laws_164 := rfl
set_option maxRecDepth 100000 in
theorem kX8_laws_173 : az_seek (173 : Int).toNat (az_cd 172) = zX8_laws_173 := rfl
set_option maxRecDepth 100000 in
theorem kX8_laws_182 : az_seek (182 : Int).toNat (az_cd 172) = zX8_laws_182 := rfl
set_option maxRecDepth 100000 in
theorem kX8_laws_184 : az_seek (184 : Int).toNat (az_cd 172) = zX8_laws_184 := rfl
set_option maxRecDepth 100000 in
theorem kX3_ownersPrice_26 : az_seek (26 : Int).toNat (az_cd 173) = zX3_ownersPrice_26 := rfl
set_option maxRecDepth 100000 in
theorem kX3_ownersPrice_51 : az_seek (51 : Int).toNat (az_cd 173) = zX3_ownersPrice_51 := rfl
set_option maxRecDepth 100000 in
theorem kX3_ownersPrice_73 : az_seek (73 : Int).toNat (az_cd 173) = zX3_ownersPrice_73 := rfl
set_option maxRecDepth 100000 in
theorem kX3_ownersPrice_101 : az_seek (101 : Int).toNat (az_cd 173) = zX3_ownersPrice_101 := rfl
set_option maxRecDepth 100000 in
theorem kX3_ownersPrice_107 : az_seek (107 : Int).toNat (az_cd 173) = zX3_ownersPrice_107 := rfl
set_option maxRecDepth 100000 in
theorem kX7_owner_17 : az_seek (17 : Int).toNat (az_cd 174) = zX7_owner_17 := rfl
set_option maxRecDepth 100000 in
theorem kX7_owner_35 : az_seek (35 : Int).toNat (az_cd 174) = zX7_owner_35 := rfl
set_option maxRecDepth 100000 in
theorem kX7_owner_42 : az_seek (42 : Int).toNat (az_cd 174) = zX7_owner_42 := rfl
set_option maxRecDepth 100000 in
theorem kX8_owner_21 : az_seek (21 : Int).toNat (az_cd 175) = zX8_owner_21 := rfl
set_option maxRecDepth 100000 in
theorem kX8_owner_30 : az_seek (30 : Int).toNat (az_cd 175) = zX8_owner_30 := rfl
set_option maxRecDepth 100000 in
theorem kX8_owner_49 : az_seek (49 : Int).toNat (az_cd 175) = zX8_owner_49 := rfl
set_option maxRecDepth 100000 in
theorem kX8_owner_71 : az_seek (71 : Int).toNat (az_cd 175) = zX8_owner_71 := rfl
set_option maxRecDepth 100000 in
theorem kX8_owner_96 : az_seek (96 : Int).toNat (az_cd 175) = zX8_owner_96 := rfl
set_option maxRecDepth 100000 in
theorem kX8_owner_102 : az_seek (102 : Int).toNat (az_cd 175) = zX8_owner_102 := rfl
set_option maxRecDepth 100000 in
theorem kX8_owner_111 : az_seek (111 : Int).toNat (az_cd 175) = zX8_owner_111 := rfl
set_option maxRecDepth 100000 in
theorem kX8_owner_113 : az_seek (113 : Int).toNat (az_cd 175) = zX8_owner_113 := rfl
set_option maxRecDepth 100000 in
theorem kX7_owes_21 : az_seek (21 : Int).toNat (az_cd 176) = zX7_owes_21 := rfl
set_option maxRecDepth 100000 in
theorem kX7_owes_24 : az_seek (24 : Int).toNat (az_cd 176) = zX7_owes_24 := rfl
set_option maxRecDepth 100000 in
theorem kX7_owes_37 : az_seek (37 : Int).toNat (az_cd 176) = zX7_owes_37 := rfl
set_option maxRecDepth 100000 in
theorem kX7_owes_54 : az_seek (54 : Int).toNat (az_cd 176) = zX7_owes_54 := rfl
set_option maxRecDepth 100000 in
theorem kX8_owes_20 : az_seek (20 : Int).toNat (az_cd 177) = zX8_owes_20 := rfl
set_option maxRecDepth 100000 in
theorem kX8_owes_23 : az_seek (23 : Int).toNat (az_cd 177) = zX8_owes_23 := rfl
set_option maxRecDepth 100000 in
theorem kX8_owes_36 : az_seek (36 : Int).toNat (az_cd 177) = zX8_owes_36 := rfl
set_option maxRecDepth 100000 in
theorem kX8_owes_58 : az_seek (58 : Int).toNat (az_cd 177) = zX8_owes_58 := rfl
set_option maxRecDepth 100000 in
theorem kX7_image_11 : az_seek (11 : Int).toNat (az_cd 178) = zX7_image_11 := rfl
set_option maxRecDepth 100000 in
theorem kX7_image_24 : az_seek (24 : Int).toNat (az_cd 178) = zX7_image_24 := rfl
set_option maxRecDepth 100000 in
theorem kX8_image_13 : az_seek (13 : Int).toNat (az_cd 179) = zX8_image_13 := rfl
set_option maxRecDepth 100000 in
theorem kX8_image_23 : az_seek (23 : Int).toNat (az_cd 179) = zX8_image_23 := rfl
set_option maxRecDepth 100000 in
theorem kX7_restore_11 : az_seek (11 : Int).toNat (az_cd 180) = zX7_restore_11 := rfl
set_option maxRecDepth 100000 in
theorem kX7_restore_26 : az_seek (26 : Int).toNat (az_cd 180) = zX7_restore_26 := rfl
set_option maxRecDepth 100000 in
theorem kX8_restore_13 : az_seek (13 : Int).toNat (az_cd 181) = zX8_restore_13 := rfl
set_option maxRecDepth 100000 in
theorem kX8_restore_25 : az_seek (25 : Int).toNat (az_cd 181) = zX8_restore_25 := rfl
set_option maxRecDepth 100000 in
theorem kX7_kind_23 : az_seek (23 : Int).toNat (az_cd 182) = zX7_kind_23 := rfl
set_option maxRecDepth 100000 in
theorem kX7_kind_25 : az_seek (25 : Int).toNat (az_cd 182) = zX7_kind_25 := rfl
set_option maxRecDepth 100000 in
theorem kX8_kind_20 : az_seek (20 : Int).toNat (az_cd 183) = zX8_kind_20 := rfl
set_option maxRecDepth 100000 in
theorem kX8_kind_22 : az_seek (22 : Int).toNat (az_cd 183) = zX8_kind_22 := rfl
set_option maxRecDepth 100000 in
theorem kX0_isKindOf_4 : az_seek (4 : Int).toNat (az_cd 184) = zX0_isKindOf_4 := rfl
set_option maxRecDepth 100000 in
theorem kX0_isKindOf_25 : az_seek (25 : Int).toNat (az_cd 184) = zX0_isKindOf_25 := rfl
set_option maxRecDepth 100000 in
theorem kX0_isKindOf_37 : az_seek (37 : Int).toNat (az_cd 184) = zX0_isKindOf_37 := rfl
set_option maxRecDepth 100000 in
theorem kX7_as_20 : az_seek (20 : Int).toNat (az_cd 185) = zX7_as_20 := rfl
set_option maxRecDepth 100000 in
theorem kX7_as_23 : az_seek (23 : Int).toNat (az_cd 185) = zX7_as_23 := rfl
set_option maxRecDepth 100000 in
theorem kX7_as_45 : az_seek (45 : Int).toNat (az_cd 185) = zX7_as_45 := rfl
set_option maxRecDepth 100000 in
theorem kX8_isOf_24 : az_seek (24 : Int).toNat (az_cd 186) = zX8_isOf_24 := rfl
set_option maxRecDepth 100000 in
theorem kX8_isOf_34 : az_seek (34 : Int).toNat (az_cd 186) = zX8_isOf_34 := rfl
set_option maxRecDepth 100000 in
theorem kX8_isOf_38 : az_seek (38 : Int).toNat (az_cd 186) = zX8_isOf_38 := rfl
set_option maxRecDepth 100000 in
theorem kX8_isOf_39 : az_seek (39 : Int).toNat (az_cd 186) = zX8_isOf_39 := rfl
set_option maxRecDepth 100000 in
theorem kX8_as_20 : az_seek (20 : Int).toNat (az_cd 187) = zX8_as_20 := rfl
set_option maxRecDepth 100000 in
theorem kX8_as_23 : az_seek (23 : Int).toNat (az_cd 187) = zX8_as_23 := rfl
set_option maxRecDepth 100000 in
theorem kX8_as_47 : az_seek (47 : Int).toNat (az_cd 187) = zX8_as_47 := rfl
set_option maxRecDepth 100000 in
theorem kX8_as_52 : az_seek (52 : Int).toNat (az_cd 187) = zX8_as_52 := rfl
set_option maxRecDepth 100000 in
theorem kX0_note_29 : az_seek (29 : Int).toNat (az_cd 188) = zX0_note_29 := rfl
set_option maxRecDepth 100000 in
theorem kX0_markAs0_9 : az_seek (9 : Int).toNat (az_cd 189) = zX0_markAs0_9 := rfl
set_option maxRecDepth 100000 in
theorem kX0_markAs0_44 : az_seek (44 : Int).toNat (az_cd 189) = zX0_markAs0_44 := rfl
set_option maxRecDepth 100000 in
theorem kX0_markAs0_69 : az_seek (69 : Int).toNat (az_cd 189) = zX0_markAs0_69 := rfl
set_option maxRecDepth 100000 in
theorem kX0_markAs0_89 : az_seek (89 : Int).toNat (az_cd 189) = zX0_markAs0_89 := rfl
set_option maxRecDepth 100000 in
theorem kX0_markAs0_111 : az_seek (111 : Int).toNat (az_cd 189) = zX0_markAs0_111 := rfl
set_option maxRecDepth 100000 in
theorem kX0_markAs0_150 : az_seek (150 : Int).toNat (az_cd 189) = zX0_markAs0_150 := rfl
set_option maxRecDepth 100000 in
theorem kX0_markAs0_162 : az_seek (162 : Int).toNat (az_cd 189) = zX0_markAs0_162 := rfl
set_option maxRecDepth 100000 in
theorem kX0_sizeAs0_9 : az_seek (9 : Int).toNat (az_cd 190) = zX0_sizeAs0_9 := rfl
set_option maxRecDepth 100000 in
theorem kX0_sizeAs0_44 : az_seek (44 : Int).toNat (az_cd 190) = zX0_sizeAs0_44 := rfl
set_option maxRecDepth 100000 in
theorem kX0_sizeAs0_83 : az_seek (83 : Int).toNat (az_cd 190) = zX0_sizeAs0_83 := rfl
set_option maxRecDepth 100000 in
theorem kX0_sizeAs0_102 : az_seek (102 : Int).toNat (az_cd 190) = zX0_sizeAs0_102 := rfl
set_option maxRecDepth 100000 in
theorem kX0_sizeAs0_123 : az_seek (123 : Int).toNat (az_cd 190) = zX0_sizeAs0_123 := rfl
set_option maxRecDepth 100000 in
theorem kX0_sizeAs0_143 : az_seek (143 : Int).toNat (az_cd 190) = zX0_sizeAs0_143 := rfl
set_option maxRecDepth 100000 in
theorem kX0_sizeAs0_155 : az_seek (155 : Int).toNat (az_cd 190) = zX0_sizeAs0_155 := rfl
set_option maxRecDepth 100000 in
theorem kX0_markAs1_9 : az_seek (9 : Int).toNat (az_cd 191) = zX0_markAs1_9 := rfl
set_option maxRecDepth 100000 in
theorem kX0_markAs1_44 : az_seek (44 : Int).toNat (az_cd 191) = zX0_markAs1_44 := rfl
set_option maxRecDepth 100000 in
theorem kX0_markAs1_69 : az_seek (69 : Int).toNat (az_cd 191) = zX0_markAs1_69 := rfl
set_option maxRecDepth 100000 in
theorem kX0_markAs1_89 : az_seek (89 : Int).toNat (az_cd 191) = zX0_markAs1_89 := rfl
set_option maxRecDepth 100000 in
theorem kX0_markAs1_111 : az_seek (111 : Int).toNat (az_cd 191) = zX0_markAs1_111 := rfl
set_option maxRecDepth 100000 in
theorem kX0_markAs1_150 : az_seek (150 : Int).toNat (az_cd 191) = zX0_markAs1_150 := rfl
set_option maxRecDepth 100000 in
theorem kX0_markAs1_162 : az_seek (162 : Int).toNat (az_cd 191) = zX0_markAs1_162 := rfl
set_option maxRecDepth 100000 in
theorem kX0_sizeAs1_9 : az_seek (9 : Int).toNat (az_cd 192) = zX0_sizeAs1_9 := rfl
set_option maxRecDepth 100000 in
theorem kX0_sizeAs1_44 : az_seek (44 : Int).toNat (az_cd 192) = zX0_sizeAs1_44 := rfl
set_option maxRecDepth 100000 in
theorem kX0_sizeAs1_83 : az_seek (83 : Int).toNat (az_cd 192) = zX0_sizeAs1_83 := rfl
set_option maxRecDepth 100000 in
theorem kX0_sizeAs1_102 : az_seek (102 : Int).toNat (az_cd 192) = zX0_sizeAs1_102 := rfl
set_option maxRecDepth 100000 in
theorem kX0_sizeAs1_123 : az_seek (123 : Int).toNat (az_cd 192) = zX0_sizeAs1_123 := rfl
set_option maxRecDepth 100000 in
theorem kX0_sizeAs1_143 : az_seek (143 : Int).toNat (az_cd 192) = zX0_sizeAs1_143 := rfl
set_option maxRecDepth 100000 in
theorem kX0_sizeAs1_155 : az_seek (155 : Int).toNat (az_cd 192) = zX0_sizeAs1_155 := rfl
set_option maxRecDepth 100000 in
theorem kX0_markAs2_9 : az_seek (9 : Int).toNat (az_cd 193) = zX0_markAs2_9 := rfl
set_option maxRecDepth 100000 in
theorem kX0_markAs2_44 : az_seek (44 : Int).toNat (az_cd 193) = zX0_markAs2_44 := rfl
set_option maxRecDepth 100000 in
theorem kX0_markAs2_69 : az_seek (69 : Int).toNat (az_cd 193) = zX0_markAs2_69 := rfl
set_option maxRecDepth 100000 in
theorem kX0_markAs2_89 : az_seek (89 : Int).toNat (az_cd 193) = zX0_markAs2_89 := rfl
set_option maxRecDepth 100000 in
theorem kX0_markAs2_111 : az_seek (111 : Int).toNat (az_cd 193) = zX0_markAs2_111 := rfl
set_option maxRecDepth 100000 in
theorem kX0_markAs2_150 : az_seek (150 : Int).toNat (az_cd 193) = zX0_markAs2_150 := rfl
set_option maxRecDepth 100000 in
theorem kX0_markAs2_162 : az_seek (162 : Int).toNat (az_cd 193) = zX0_markAs2_162 := rfl
set_option maxRecDepth 100000 in
theorem kX0_sizeAs2_9 : az_seek (9 : Int).toNat (az_cd 194) = zX0_sizeAs2_9 := rfl
set_option maxRecDepth 100000 in
theorem kX0_sizeAs2_44 : az_seek (44 : Int).toNat (az_cd 194) = zX0_sizeAs2_44 := rfl
set_option maxRecDepth 100000 in
theorem kX0_sizeAs2_83 : az_seek (83 : Int).toNat (az_cd 194) = zX0_sizeAs2_83 := rfl
set_option maxRecDepth 100000 in
theorem kX0_sizeAs2_102 : az_seek (102 : Int).toNat (az_cd 194) = zX0_sizeAs2_102 := rfl
set_option maxRecDepth 100000 in
theorem kX0_sizeAs2_123 : az_seek (123 : Int).toNat (az_cd 194) = zX0_sizeAs2_123 := rfl
set_option maxRecDepth 100000 in
theorem kX0_sizeAs2_143 : az_seek (143 : Int).toNat (az_cd 194) = zX0_sizeAs2_143 := rfl
set_option maxRecDepth 100000 in
theorem kX0_sizeAs2_155 : az_seek (155 : Int).toNat (az_cd 194) = zX0_sizeAs2_155 := rfl
set_option maxRecDepth 100000 in
theorem kX0_markAs3_9 : az_seek (9 : Int).toNat (az_cd 195) = zX0_markAs3_9 := rfl
set_option maxRecDepth 100000 in
theorem kX0_markAs3_44 : az_seek (44 : Int).toNat (az_cd 195) = zX0_markAs3_44 := rfl
set_option maxRecDepth 100000 in
theorem kX0_markAs3_69 : az_seek (69 : Int).toNat (az_cd 195) = zX0_markAs3_69 := rfl
set_option maxRecDepth 100000 in
theorem kX0_markAs3_89 : az_seek (89 : Int).toNat (az_cd 195) = zX0_markAs3_89 := rfl
set_option maxRecDepth 100000 in
theorem kX0_markAs3_111 : az_seek (111 : Int).toNat (az_cd 195) = zX0_markAs3_111 := rfl
set_option maxRecDepth 100000 in
theorem kX0_markAs3_150 : az_seek (150 : Int).toNat (az_cd 195) = zX0_markAs3_150 := rfl
set_option maxRecDepth 100000 in
theorem kX0_markAs3_162 : az_seek (162 : Int).toNat (az_cd 195) = zX0_markAs3_162 := rfl
set_option maxRecDepth 100000 in
theorem kX0_sizeAs3_9 : az_seek (9 : Int).toNat (az_cd 196) = zX0_sizeAs3_9 := rfl
set_option maxRecDepth 100000 in
theorem kX0_sizeAs3_44 : az_seek (44 : Int).toNat (az_cd 196) = zX0_sizeAs3_44 := rfl
set_option maxRecDepth 100000 in
theorem kX0_sizeAs3_83 : az_seek (83 : Int).toNat (az_cd 196) = zX0_sizeAs3_83 := rfl
set_option maxRecDepth 100000 in
theorem kX0_sizeAs3_102 : az_seek (102 : Int).toNat (az_cd 196) = zX0_sizeAs3_102 := rfl
set_option maxRecDepth 100000 in
theorem kX0_sizeAs3_123 : az_seek (123 : Int).toNat (az_cd 196) = zX0_sizeAs3_123 := rfl
set_option maxRecDepth 100000 in
theorem kX0_sizeAs3_143 : az_seek (143 : Int).toNat (az_cd 196) = zX0_sizeAs3_143 := rfl
set_option maxRecDepth 100000 in
theorem kX0_sizeAs3_155 : az_seek (155 : Int).toNat (az_cd 196) = zX0_sizeAs3_155 := rfl
set_option maxRecDepth 100000 in
theorem kX0_markAs4_9 : az_seek (9 : Int).toNat (az_cd 197) = zX0_markAs4_9 := rfl
set_option maxRecDepth 100000 in
theorem kX0_markAs4_44 : az_seek (44 : Int).toNat (az_cd 197) = zX0_markAs4_44 := rfl
set_option maxRecDepth 100000 in
theorem kX0_markAs4_69 : az_seek (69 : Int).toNat (az_cd 197) = zX0_markAs4_69 := rfl
set_option maxRecDepth 100000 in
theorem kX0_markAs4_89 : az_seek (89 : Int).toNat (az_cd 197) = zX0_markAs4_89 := rfl
set_option maxRecDepth 100000 in
theorem kX0_markAs4_111 : az_seek (111 : Int).toNat (az_cd 197) = zX0_markAs4_111 := rfl
set_option maxRecDepth 100000 in
theorem kX0_markAs4_150 : az_seek (150 : Int).toNat (az_cd 197) = zX0_markAs4_150 := rfl
set_option maxRecDepth 100000 in
theorem kX0_markAs4_162 : az_seek (162 : Int).toNat (az_cd 197) = zX0_markAs4_162 := rfl
set_option maxRecDepth 100000 in
theorem kX0_sizeAs4_9 : az_seek (9 : Int).toNat (az_cd 198) = zX0_sizeAs4_9 := rfl
set_option maxRecDepth 100000 in
theorem kX0_sizeAs4_44 : az_seek (44 : Int).toNat (az_cd 198) = zX0_sizeAs4_44 := rfl
set_option maxRecDepth 100000 in
theorem kX0_sizeAs4_83 : az_seek (83 : Int).toNat (az_cd 198) = zX0_sizeAs4_83 := rfl
set_option maxRecDepth 100000 in
theorem kX0_sizeAs4_102 : az_seek (102 : Int).toNat (az_cd 198) = zX0_sizeAs4_102 := rfl
set_option maxRecDepth 100000 in
theorem kX0_sizeAs4_123 : az_seek (123 : Int).toNat (az_cd 198) = zX0_sizeAs4_123 := rfl
set_option maxRecDepth 100000 in
theorem kX0_sizeAs4_143 : az_seek (143 : Int).toNat (az_cd 198) = zX0_sizeAs4_143 := rfl
set_option maxRecDepth 100000 in
theorem kX0_sizeAs4_155 : az_seek (155 : Int).toNat (az_cd 198) = zX0_sizeAs4_155 := rfl
set_option maxRecDepth 100000 in
theorem kX0_markAs5_9 : az_seek (9 : Int).toNat (az_cd 199) = zX0_markAs5_9 := rfl
set_option maxRecDepth 100000 in
theorem kX0_markAs5_44 : az_seek (44 : Int).toNat (az_cd 199) = zX0_markAs5_44 := rfl
set_option maxRecDepth 100000 in
theorem kX0_markAs5_69 : az_seek (69 : Int).toNat (az_cd 199) = zX0_markAs5_69 := rfl
set_option maxRecDepth 100000 in
theorem kX0_markAs5_89 : az_seek (89 : Int).toNat (az_cd 199) = zX0_markAs5_89 := rfl
set_option maxRecDepth 100000 in
theorem kX0_markAs5_111 : az_seek (111 : Int).toNat (az_cd 199) = zX0_markAs5_111 := rfl
set_option maxRecDepth 100000 in
theorem kX0_markAs5_150 : az_seek (150 : Int).toNat (az_cd 199) = zX0_markAs5_150 := rfl
set_option maxRecDepth 100000 in
theorem kX0_markAs5_162 : az_seek (162 : Int).toNat (az_cd 199) = zX0_markAs5_162 := rfl
set_option maxRecDepth 100000 in
theorem kX0_sizeAs5_9 : az_seek (9 : Int).toNat (az_cd 200) = zX0_sizeAs5_9 := rfl
set_option maxRecDepth 100000 in
theorem kX0_sizeAs5_44 : az_seek (44 : Int).toNat (az_cd 200) = zX0_sizeAs5_44 := rfl
set_option maxRecDepth 100000 in
theorem kX0_sizeAs5_83 : az_seek (83 : Int).toNat (az_cd 200) = zX0_sizeAs5_83 := rfl
set_option maxRecDepth 100000 in
theorem kX0_sizeAs5_102 : az_seek (102 : Int).toNat (az_cd 200) = zX0_sizeAs5_102 := rfl
set_option maxRecDepth 100000 in
theorem kX0_sizeAs5_123 : az_seek (123 : Int).toNat (az_cd 200) = zX0_sizeAs5_123 := rfl
set_option maxRecDepth 100000 in
theorem kX0_sizeAs5_143 : az_seek (143 : Int).toNat (az_cd 200) = zX0_sizeAs5_143 := rfl
set_option maxRecDepth 100000 in
theorem kX0_sizeAs5_155 : az_seek (155 : Int).toNat (az_cd 200) = zX0_sizeAs5_155 := rfl
set_option maxRecDepth 100000 in
theorem kX0_markAs6_9 : az_seek (9 : Int).toNat (az_cd 201) = zX0_markAs6_9 := rfl
set_option maxRecDepth 100000 in
theorem kX0_markAs6_44 : az_seek (44 : Int).toNat (az_cd 201) = zX0_markAs6_44 := rfl
set_option maxRecDepth 100000 in
theorem kX0_markAs6_69 : az_seek (69 : Int).toNat (az_cd 201) = zX0_markAs6_69 := rfl
set_option maxRecDepth 100000 in
theorem kX0_markAs6_89 : az_seek (89 : Int).toNat (az_cd 201) = zX0_markAs6_89 := rfl
set_option maxRecDepth 100000 in
theorem kX0_markAs6_111 : az_seek (111 : Int).toNat (az_cd 201) = zX0_markAs6_111 := rfl
set_option maxRecDepth 100000 in
theorem kX0_markAs6_150 : az_seek (150 : Int).toNat (az_cd 201) = zX0_markAs6_150 := rfl
set_option maxRecDepth 100000 in
theorem kX0_markAs6_162 : az_seek (162 : Int).toNat (az_cd 201) = zX0_markAs6_162 := rfl
set_option maxRecDepth 100000 in
theorem kX0_sizeAs6_9 : az_seek (9 : Int).toNat (az_cd 202) = zX0_sizeAs6_9 := rfl
set_option maxRecDepth 100000 in
theorem kX0_sizeAs6_44 : az_seek (44 : Int).toNat (az_cd 202) = zX0_sizeAs6_44 := rfl
set_option maxRecDepth 100000 in
theorem kX0_sizeAs6_83 : az_seek (83 : Int).toNat (az_cd 202) = zX0_sizeAs6_83 := rfl
set_option maxRecDepth 100000 in
theorem kX0_sizeAs6_102 : az_seek (102 : Int).toNat (az_cd 202) = zX0_sizeAs6_102 := rfl
set_option maxRecDepth 100000 in
theorem kX0_sizeAs6_123 : az_seek (123 : Int).toNat (az_cd 202) = zX0_sizeAs6_123 := rfl
set_option maxRecDepth 100000 in
theorem kX0_sizeAs6_143 : az_seek (143 : Int).toNat (az_cd 202) = zX0_sizeAs6_143 := rfl
set_option maxRecDepth 100000 in
theorem kX0_sizeAs6_155 : az_seek (155 : Int).toNat (az_cd 202) = zX0_sizeAs6_155 := rfl
set_option maxRecDepth 100000 in
theorem kX0_begin_29 : az_seek (29 : Int).toNat (az_cd 203) = zX0_begin_29 := rfl
set_option maxRecDepth 100000 in
theorem kX0_begin_38 : az_seek (38 : Int).toNat (az_cd 203) = zX0_begin_38 := rfl
set_option maxRecDepth 100000 in
theorem kX7_ask_19 : az_seek (19 : Int).toNat (az_cd 204) = zX7_ask_19 := rfl
set_option maxRecDepth 100000 in
theorem kX7_ask_22 : az_seek (22 : Int).toNat (az_cd 204) = zX7_ask_22 := rfl
set_option maxRecDepth 100000 in
theorem kX8_leave__2 : az_seek (2 : Int).toNat (az_cd 205) = zX8_leave__2 := rfl
set_option maxRecDepth 100000 in
theorem kX8_leave__21 : az_seek (21 : Int).toNat (az_cd 205) = zX8_leave__21 := rfl
set_option maxRecDepth 100000 in
theorem kX8_leave__24 : az_seek (24 : Int).toNat (az_cd 205) = zX8_leave__24 := rfl
set_option maxRecDepth 100000 in
theorem kX8_leave__69 : az_seek (69 : Int).toNat (az_cd 205) = zX8_leave__69 := rfl
set_option maxRecDepth 100000 in
theorem kX8_mark_34 : az_seek (34 : Int).toNat (az_cd 206) = zX8_mark_34 := rfl
set_option maxRecDepth 100000 in
theorem kX8_mark_45 : az_seek (45 : Int).toNat (az_cd 206) = zX8_mark_45 := rfl
set_option maxRecDepth 100000 in
theorem kX8_mark_48 : az_seek (48 : Int).toNat (az_cd 206) = zX8_mark_48 := rfl
set_option maxRecDepth 100000 in
theorem kX8_mark_62 : az_seek (62 : Int).toNat (az_cd 206) = zX8_mark_62 := rfl
set_option maxRecDepth 100000 in
theorem kX8_mark_75 : az_seek (75 : Int).toNat (az_cd 206) = zX8_mark_75 := rfl
set_option maxRecDepth 100000 in
theorem kX8_mark_76 : az_seek (76 : Int).toNat (az_cd 206) = zX8_mark_76 := rfl
set_option maxRecDepth 100000 in
theorem kX8_sizeOf_30 : az_seek (30 : Int).toNat (az_cd 207) = zX8_sizeOf_30 := rfl
set_option maxRecDepth 100000 in
theorem kX8_sizeOf_31 : az_seek (31 : Int).toNat (az_cd 207) = zX8_sizeOf_31 := rfl
set_option maxRecDepth 100000 in
theorem kX8_sizeOf_43 : az_seek (43 : Int).toNat (az_cd 207) = zX8_sizeOf_43 := rfl
set_option maxRecDepth 100000 in
theorem kX8_sizeOf_46 : az_seek (46 : Int).toNat (az_cd 207) = zX8_sizeOf_46 := rfl
set_option maxRecDepth 100000 in
theorem kX8_sizeOf_59 : az_seek (59 : Int).toNat (az_cd 207) = zX8_sizeOf_59 := rfl
set_option maxRecDepth 100000 in
theorem kX8_sizeOf_60 : az_seek (60 : Int).toNat (az_cd 207) = zX8_sizeOf_60 := rfl
set_option maxRecDepth 100000 in
theorem kX8_ask_18 : az_seek (18 : Int).toNat (az_cd 208) = zX8_ask_18 := rfl
set_option maxRecDepth 100000 in
theorem kX8_ask_21 : az_seek (21 : Int).toNat (az_cd 208) = zX8_ask_21 := rfl
set_option maxRecDepth 100000 in
theorem kX8_ask_52 : az_seek (52 : Int).toNat (az_cd 208) = zX8_ask_52 := rfl
set_option maxRecDepth 100000 in
theorem kX8_ask_64 : az_seek (64 : Int).toNat (az_cd 208) = zX8_ask_64 := rfl
set_option maxRecDepth 100000 in
theorem kX8_ask_67 : az_seek (67 : Int).toNat (az_cd 208) = zX8_ask_67 := rfl
set_option maxRecDepth 100000 in
theorem kX8_ask_98 : az_seek (98 : Int).toNat (az_cd 208) = zX8_ask_98 := rfl
set_option maxRecDepth 100000 in
theorem kX8_ask_100 : az_seek (100 : Int).toNat (az_cd 208) = zX8_ask_100 := rfl
set_option maxRecDepth 100000 in
theorem kX8_ask_101 : az_seek (101 : Int).toNat (az_cd 208) = zX8_ask_101 := rfl
set_option maxRecDepth 100000 in
theorem kX8_ask_111 : az_seek (111 : Int).toNat (az_cd 208) = zX8_ask_111 := rfl
set_option maxRecDepth 100000 in
theorem kX7_trace_26 : az_seek (26 : Int).toNat (az_cd 209) = zX7_trace_26 := rfl
set_option maxRecDepth 100000 in
theorem kX7_trace_29 : az_seek (29 : Int).toNat (az_cd 209) = zX7_trace_29 := rfl
set_option maxRecDepth 100000 in
theorem kX8_trace_25 : az_seek (25 : Int).toNat (az_cd 210) = zX8_trace_25 := rfl
set_option maxRecDepth 100000 in
theorem kX8_trace_27 : az_seek (27 : Int).toNat (az_cd 210) = zX8_trace_27 := rfl
set_option maxRecDepth 100000 in
theorem kX7_countRows_4 : az_seek (4 : Int).toNat (az_cd 211) = zX7_countRows_4 := rfl
set_option maxRecDepth 100000 in
theorem kX7_countRows_25 : az_seek (25 : Int).toNat (az_cd 211) = zX7_countRows_25 := rfl
set_option maxRecDepth 100000 in
theorem kX7_countRows_31 : az_seek (31 : Int).toNat (az_cd 211) = zX7_countRows_31 := rfl
set_option maxRecDepth 100000 in
theorem kX1_debtOfAll_4 : az_seek (4 : Int).toNat (az_cd 213) = zX1_debtOfAll_4 := rfl
set_option maxRecDepth 100000 in
theorem kX1_debtOfAll_27 : az_seek (27 : Int).toNat (az_cd 213) = zX1_debtOfAll_27 := rfl
set_option maxRecDepth 100000 in
theorem kX7_count_48 : az_seek (48 : Int).toNat (az_cd 214) = zX7_count_48 := rfl
set_option maxRecDepth 100000 in
theorem kX7_count_53 : az_seek (53 : Int).toNat (az_cd 214) = zX7_count_53 := rfl
set_option maxRecDepth 100000 in
theorem kX7_count_61 : az_seek (61 : Int).toNat (az_cd 214) = zX7_count_61 := rfl
set_option maxRecDepth 100000 in
theorem kX7_count_69 : az_seek (69 : Int).toNat (az_cd 214) = zX7_count_69 := rfl
set_option maxRecDepth 100000 in
theorem kX7_count_77 : az_seek (77 : Int).toNat (az_cd 214) = zX7_count_77 := rfl
set_option maxRecDepth 100000 in
theorem kX7_count_85 : az_seek (85 : Int).toNat (az_cd 214) = zX7_count_85 := rfl
set_option maxRecDepth 100000 in
theorem kX7_count_96 : az_seek (96 : Int).toNat (az_cd 214) = zX7_count_96 := rfl
set_option maxRecDepth 100000 in
theorem kX7_count_104 : az_seek (104 : Int).toNat (az_cd 214) = zX7_count_104 := rfl
set_option maxRecDepth 100000 in
theorem kX7_count_112 : az_seek (112 : Int).toNat (az_cd 214) = zX7_count_112 := rfl
set_option maxRecDepth 100000 in
theorem kX8_count_10 : az_seek (10 : Int).toNat (az_cd 215) = zX8_count_10 := rfl
set_option maxRecDepth 100000 in
theorem kX8_count_32 : az_seek (32 : Int).toNat (az_cd 215) = zX8_count_32 := rfl
set_option maxRecDepth 100000 in
theorem kX8_count_33 : az_seek (33 : Int).toNat (az_cd 215) = zX8_count_33 := rfl
set_option maxRecDepth 100000 in
theorem kX8_count_41 : az_seek (41 : Int).toNat (az_cd 215) = zX8_count_41 := rfl
set_option maxRecDepth 100000 in
theorem kX8_count_44 : az_seek (44 : Int).toNat (az_cd 215) = zX8_count_44 := rfl
set_option maxRecDepth 100000 in
theorem kX8_count_91 : az_seek (91 : Int).toNat (az_cd 215) = zX8_count_91 := rfl
set_option maxRecDepth 100000 in
theorem kX8_count_140 : az_seek (140 : Int).toNat (az_cd 215) = zX8_count_140 := rfl
set_option maxRecDepth 100000 in
theorem kX8_count_142 : az_seek (142 : Int).toNat (az_cd 215) = zX8_count_142 := rfl
set_option maxRecDepth 100000 in
theorem kX8_count_149 : az_seek (149 : Int).toNat (az_cd 215) = zX8_count_149 := rfl
set_option maxRecDepth 100000 in
theorem kX8_count_156 : az_seek (156 : Int).toNat (az_cd 215) = zX8_count_156 := rfl
set_option maxRecDepth 100000 in
theorem kX8_count_163 : az_seek (163 : Int).toNat (az_cd 215) = zX8_count_163 := rfl
set_option maxRecDepth 100000 in
theorem kX8_count_168 : az_seek (168 : Int).toNat (az_cd 215) = zX8_count_168 := rfl
set_option maxRecDepth 100000 in
theorem kX8_count_170 : az_seek (170 : Int).toNat (az_cd 215) = zX8_count_170 := rfl
set_option maxRecDepth 100000 in
theorem kX8_count_173 : az_seek (173 : Int).toNat (az_cd 215) = zX8_count_173 := rfl
set_option maxRecDepth 100000 in
theorem kX8_count_178 : az_seek (178 : Int).toNat (az_cd 215) = zX8_count_178 := rfl
set_option maxRecDepth 100000 in
theorem kL_law_18 : az_seek (18 : Int).toNat (az_cd 218) = zL_law_18 := rfl
set_option maxRecDepth 100000 in
theorem kL_law_184 : az_seek (184 : Int).toNat (az_cd 218) = zL_law_184 := rfl
set_option maxRecDepth 100000 in
theorem kL_law_227 : az_seek (227 : Int).toNat (az_cd 218) = zL_law_227 := rfl
set_option maxRecDepth 100000 in
theorem kL_law_270 : az_seek (270 : Int).toNat (az_cd 218) = zL_law_270 := rfl
set_option maxRecDepth 100000 in
theorem kL_law_333 : az_seek (333 : Int).toNat (az_cd 218) = zL_law_333 := rfl
set_option maxRecDepth 100000 in
theorem kL_law_356 : az_seek (356 : Int).toNat (az_cd 218) = zL_law_356 := rfl
set_option maxRecDepth 100000 in
theorem kL_law_419 : az_seek (419 : Int).toNat (az_cd 218) = zL_law_419 := rfl
set_option maxRecDepth 100000 in
theorem kL_law_432 : az_seek (432 : Int).toNat (az_cd 218) = zL_law_432 := rfl
set_option maxRecDepth 100000 in
theorem kL_law_445 : az_seek (445 : Int).toNat (az_cd 218) = zL_law_445 := rfl
set_option maxRecDepth 100000 in
theorem kL_law_458 : az_seek (458 : Int).toNat (az_cd 218) = zL_law_458 := rfl
set_option maxRecDepth 100000 in
theorem kL_law_481 : az_seek (481 : Int).toNat (az_cd 218) = zL_law_481 := rfl
set_option maxRecDepth 100000 in
theorem kL_law_504 : az_seek (504 : Int).toNat (az_cd 218) = zL_law_504 := rfl
set_option maxRecDepth 100000 in
theorem kL_law_537 : az_seek (537 : Int).toNat (az_cd 218) = zL_law_537 := rfl
set_option maxRecDepth 100000 in
theorem kL_law_570 : az_seek (570 : Int).toNat (az_cd 218) = zL_law_570 := rfl
set_option maxRecDepth 100000 in
theorem kL_law_583 : az_seek (583 : Int).toNat (az_cd 218) = zL_law_583 := rfl
set_option maxRecDepth 100000 in
theorem kL_law_596 : az_seek (596 : Int).toNat (az_cd 218) = zL_law_596 := rfl
set_option maxRecDepth 100000 in
theorem kL_law_629 : az_seek (629 : Int).toNat (az_cd 218) = zL_law_629 := rfl
set_option maxRecDepth 100000 in
theorem kL_law_652 : az_seek (652 : Int).toNat (az_cd 218) = zL_law_652 := rfl
set_option maxRecDepth 100000 in
theorem kL_law_695 : az_seek (695 : Int).toNat (az_cd 218) = zL_law_695 := rfl
set_option maxRecDepth 100000 in
theorem kL_law_728 : az_seek (728 : Int).toNat (az_cd 218) = zL_law_728 := rfl
set_option maxRecDepth 100000 in
theorem kL_law_761 : az_seek (761 : Int).toNat (az_cd 218) = zL_law_761 := rfl
set_option maxRecDepth 100000 in
theorem kL_law_784 : az_seek (784 : Int).toNat (az_cd 218) = zL_law_784 := rfl
set_option maxRecDepth 100000 in
theorem kL_law_837 : az_seek (837 : Int).toNat (az_cd 218) = zL_law_837 := rfl
set_option maxRecDepth 100000 in
theorem kL_law_880 : az_seek (880 : Int).toNat (az_cd 218) = zL_law_880 := rfl
set_option maxRecDepth 100000 in
theorem kL_law_913 : az_seek (913 : Int).toNat (az_cd 218) = zL_law_913 := rfl
set_option maxRecDepth 100000 in
theorem kL_law_946 : az_seek (946 : Int).toNat (az_cd 218) = zL_law_946 := rfl
set_option maxRecDepth 100000 in
theorem kL_law_979 : az_seek (979 : Int).toNat (az_cd 218) = zL_law_979 := rfl
set_option maxRecDepth 100000 in
theorem kL_law_1012 : az_seek (1012 : Int).toNat (az_cd 218) = zL_law_1012 := rfl
set_option maxRecDepth 100000 in
theorem kL_law_1035 : az_seek (1035 : Int).toNat (az_cd 218) = zL_law_1035 := rfl
set_option maxRecDepth 100000 in
theorem kL_law_1058 : az_seek (1058 : Int).toNat (az_cd 218) = zL_law_1058 := rfl
set_option maxRecDepth 100000 in
theorem kL_law_1081 : az_seek (1081 : Int).toNat (az_cd 218) = zL_law_1081 := rfl
set_option maxRecDepth 100000 in
theorem kL_law_1114 : az_seek (1114 : Int).toNat (az_cd 218) = zL_law_1114 := rfl
set_option maxRecDepth 100000 in
theorem kL_law_1147 : az_seek (1147 : Int).toNat (az_cd 218) = zL_law_1147 := rfl
set_option maxRecDepth 100000 in
theorem kL_law_1170 : az_seek (1170 : Int).toNat (az_cd 218) = zL_law_1170 := rfl
set_option maxRecDepth 100000 in
theorem kL_law_1193 : az_seek (1193 : Int).toNat (az_cd 218) = zL_law_1193 := rfl
set_option maxRecDepth 100000 in
theorem kL_law_1206 : az_seek (1206 : Int).toNat (az_cd 218) = zL_law_1206 := rfl
set_option maxRecDepth 100000 in
theorem kL_law_1212 : az_seek (1212 : Int).toNat (az_cd 218) = zL_law_1212 := rfl
end
section
/-! THE START: what the two constructors make, by the kernel -/
/-- the memory behind the constructors -/
def az_mi (a : Nat) (j : Int) : Int := if a < 19 then az_m0 a j else if 247 ≤ a ∧ a < 263 ∧ a % 2 = 1 ∧ j = 1 then -1 else if a = 281 then -1 else 0
def az_chk (g0 : aG) (r : Option (Option aV × aG × aM)) : Bool := match r with
  | some (v, g, m) => decide (v = none) && decide (g = g0) && (List.range g0.length).all (fun a => (List.range ((g0.getD a (0, 0, [])).2.1)).all (fun j => decide (m a (j : Int) = az_mi a (j : Int))))
  | none => false
def az_r1 : Option (Option aV × aG × aM) := az_run none 5000 7 (az_cd 7) (az_ent [.inr (.inr 20)] (az_ml 7)) [] (az_g0 ++ [(7, 10, List.replicate 10 0)]) (az_bl az_m0 19)
def az_r2 : Option (Option aV × aG × aM) := match az_r1 with
  | some (_, g, m) => az_run none 5000 8 (az_cd 8) (az_ent [.inr (.inr 280)] (az_ml 8)) [] (g ++ [(8, 25, List.replicate 25 0)]) (az_bl m 279)
  | none => none
theorem az_r1_ok : (az_r1.map fun r => (r.1, r.2.1)) = some (none, az_G1) := by decide +kernel
theorem az_r2_ok : az_chk az_G az_r2 = true := by decide +kernel
end
section
/-! RULES FOR WALKS: a method over fixed shapes, from a state to its answer and its memory -/
theorem az_run_up (sc : aX) : ∀ (n M : Nat) (c : aC) (l : aL) (s : aS) (g : aG) (m : aM) (r : Option aV × aG × aM), az_run sc n M c l s g m = some r → ∀ k, az_run sc (n + k) M c l s g m = some r
  | 0, M, c, l, s, g, m, r, h, k => by simp [az_run] at h
  | n + 1, M, [], l, s, g, m, r, h, k => by simp [az_run] at h
  | n + 1, M, e :: c, l, s, g, m, r, h, k => by
    rw [show n + 1 + k = (n + k) + 1 by omega]
    unfold az_run at h ⊢
    split at h
    · cases h
    · next o ho =>
      exact az_run_up sc n _ _ _ _ _ _ _ h k
    · next o ho =>
      exact az_run_up sc n _ _ _ _ _ _ _ h k
    · next v hv =>
      exact h
    · next o ho =>
      split at h
      · next hf =>
        rw [if_pos hf]
        split at h
        · cases h
        · next r2 hr2 =>
          rw [az_run_up sc n _ _ _ _ _ _ _ hr2 k]
          exact az_run_up sc n _ _ _ _ _ _ _ h k
      · cases h
def az_E (sc : aX) (g : aG) (M : Nat) (c : aC) (l : aL) (s : aS) (m : aM) (Q : Option aV → aM → Prop) : Prop := ∃ (n : Nat) (v : Option aV) (m' : aM), az_run sc n M c l s g m = some (v, g, m') ∧ Q v m'
/-- a method's contract at its arguments and memory -/
def az_C (sc : aX) (g : aG) (M : Nat) (as : List aV) (m : aM) (Q : Option aV → aM → Prop) : Prop := az_E sc g M (az_cd M) (az_ent as (az_ml M)) [] m Q
theorem az_C_mono {sc : aX} {g : aG} {M : Nat} {as : List aV} {m : aM} {Q Q' : Option aV → aM → Prop} (h : az_C sc g M as m Q) (hq : ∀ v m', Q v m' → Q' v m') : az_C sc g M as m Q' := by
  obtain ⟨n, v, m', h1, h2⟩ := h
  exact ⟨n, v, m', h1, hq v m' h2⟩
section RU
variable {sc : aX} {g : aG} {M pc : Nat} {f : List Int} {c c' : aC} {l l' : aL} {s s' : aS} {m m' : aM} {Q : Option aV → aM → Prop} {i : Instr}
theorem az_nxt (h : az_step sc M i f l s g m = some (.inl (l', s', g, m'))) (K : az_E sc g M c l' s' m' Q) : az_E sc g M ((pc, i, f) :: c) l s m Q := by
  obtain ⟨n, v, m2, h1, h2⟩ := K
  refine ⟨n + 1, v, m2, ?_, h2⟩
  simp only [az_run, h]
  exact h1
theorem az_jmpr {t : Nat} (h : az_step sc M i f l s g m = some (.inr (.inl (t, s')))) (hk : az_seek t (az_cd M) = c') (K : az_E sc g M c' l s' m Q) : az_E sc g M ((pc, i, f) :: c) l s m Q := by
  obtain ⟨n, v, m2, h1, h2⟩ := K
  refine ⟨n + 1, v, m2, ?_, h2⟩
  simp only [az_run, h, hk]
  exact h1
theorem az_rtn {v : Option aV} (h : az_step sc M i f l s g m = some (.inr (.inr (.inl v)))) (q : Q v m) : az_E sc g M ((pc, i, f) :: c) l s m Q := by
  refine ⟨1, v, m, ?_, q⟩
  simp only [az_run, h]
theorem az_cal {M' k : Nat} {Qc : Option aV → aM → Prop} (h : az_step sc M i f l s g m = some (.inr (.inr (.inr (M', k))))) (hf : (az_args ((s.take k).reverse)).length ≤ az_ml M') (hc : az_C sc g M' ((s.take k).reverse) m Qc) (K : ∀ v m', Qc v m' → az_E sc g M c l (v.toList ++ s.drop k) m' Q) : az_E sc g M ((pc, i, f) :: c) l s m Q := by
  obtain ⟨n1, v1, m1, h1, q1⟩ := hc
  obtain ⟨n2, v2, m2, h2, q2⟩ := K v1 m1 q1
  refine ⟨(n1 + n2) + 1, v2, m2, ?_, q2⟩
  simp only [az_run, h, if_pos hf]
  rw [az_run_up sc n1 _ _ _ _ _ _ _ h1 n2]
  simp only []
  rw [Nat.add_comm n1 n2]
  exact az_run_up sc n2 _ _ _ _ _ _ _ h2 n1

theorem r_iconst {n : Int} (K : az_E sc g M c l (.inl n :: s) m Q) : az_E sc g M ((pc, .iconst n, f) :: c) l (s) m Q := az_nxt rfl K
theorem r_bipush {n : Int} (K : az_E sc g M c l (.inl n :: s) m Q) : az_E sc g M ((pc, .bipush n, f) :: c) l (s) m Q := az_nxt rfl K
theorem r_sipush {n : Int} (K : az_E sc g M c l (.inl n :: s) m Q) : az_E sc g M ((pc, .sipush n, f) :: c) l (s) m Q := az_nxt rfl K
theorem r_lconst0  (K : az_E sc g M c l (.inr (.inl 0) :: s) m Q) : az_E sc g M ((pc, .lconst 0, f) :: c) l (s) m Q := az_nxt rfl K
theorem r_lconst1  (K : az_E sc g M c l (.inr (.inl 1) :: s) m Q) : az_E sc g M ((pc, .lconst 1, f) :: c) l (s) m Q := az_nxt rfl K
theorem r_iload {k : Nat} {x : Int} (h : l[k]? = some (some (.inl x))) (K : az_E sc g M c l (.inl x :: s) m Q) : az_E sc g M ((pc, .iload k, f) :: c) l (s) m Q := az_nxt (by show az_ldI l s g m k = _; unfold az_ldI; rw [h]; rfl) K
theorem r_iload_n {k : Fin 4} {x : Int} (h : l[k.val]? = some (some (.inl x))) (K : az_E sc g M c l (.inl x :: s) m Q) : az_E sc g M ((pc, .iload_n k, f) :: c) l (s) m Q := az_nxt (by show az_ldI l s g m k.val = _; unfold az_ldI; rw [h]; rfl) K
theorem r_lload {k : Nat} {x : Int} (h : l[k]? = some (some (.inr (.inl x)))) (K : az_E sc g M c l (.inr (.inl x) :: s) m Q) : az_E sc g M ((pc, .lload k, f) :: c) l (s) m Q := az_nxt (by show az_ldL l s g m k = _; unfold az_ldL; rw [h]; rfl) K
theorem r_lload_n {k : Fin 4} {x : Int} (h : l[k.val]? = some (some (.inr (.inl x)))) (K : az_E sc g M c l (.inr (.inl x) :: s) m Q) : az_E sc g M ((pc, .lload_n k, f) :: c) l (s) m Q := az_nxt (by show az_ldL l s g m k.val = _; unfold az_ldL; rw [h]; rfl) K
theorem r_aload {k x : Nat} (h : l[k]? = some (some (.inr (.inr x)))) (K : az_E sc g M c l (.inr (.inr x) :: s) m Q) : az_E sc g M ((pc, .aload k, f) :: c) l (s) m Q := az_nxt (by show az_ldA l s g m k = _; unfold az_ldA; rw [h]; rfl) K
theorem r_aload_n {k : Fin 4} {x : Nat} (h : l[k.val]? = some (some (.inr (.inr x)))) (K : az_E sc g M c l (.inr (.inr x) :: s) m Q) : az_E sc g M ((pc, .aload_n k, f) :: c) l (s) m Q := az_nxt (by show az_ldA l s g m k.val = _; unfold az_ldA; rw [h]; rfl) K
theorem r_istore {k : Nat} {x : Int} (h : k < l.length) (hl : az_st1 l k (.inl x) = l') (K : az_E sc g M c l' (s) m Q) : az_E sc g M ((pc, .istore k, f) :: c) l (.inl x :: s) m Q := az_nxt (by simp only [az_step, az_stI]; rw [if_pos h, hl]; rfl) K
theorem r_istore_n {k : Fin 4} {x : Int} (h : k.val < l.length) (hl : az_st1 l k.val (.inl x) = l') (K : az_E sc g M c l' (s) m Q) : az_E sc g M ((pc, .istore_n k, f) :: c) l (.inl x :: s) m Q := az_nxt (by simp only [az_step, az_stI]; rw [if_pos h, hl]; rfl) K
theorem r_astore {k : Nat} {x : Nat} (h : k < l.length) (hl : az_st1 l k (.inr (.inr x)) = l') (K : az_E sc g M c l' (s) m Q) : az_E sc g M ((pc, .astore k, f) :: c) l (.inr (.inr x) :: s) m Q := az_nxt (by simp only [az_step, az_stA]; rw [if_pos h, hl]; rfl) K
theorem r_astore_n {k : Fin 4} {x : Nat} (h : k.val < l.length) (hl : az_st1 l k.val (.inr (.inr x)) = l') (K : az_E sc g M c l' (s) m Q) : az_E sc g M ((pc, .astore_n k, f) :: c) l (.inr (.inr x) :: s) m Q := az_nxt (by simp only [az_step, az_stA]; rw [if_pos h, hl]; rfl) K
theorem r_lstore {k : Nat} {x : Int} (h : k + 1 < l.length) (hl : az_st2 l k (.inr (.inl x)) = l') (K : az_E sc g M c l' (s) m Q) : az_E sc g M ((pc, .lstore k, f) :: c) l (.inr (.inl x) :: s) m Q := az_nxt (by simp only [az_step, az_stL]; rw [if_pos h, hl]; rfl) K
theorem r_lstore_n {k : Fin 4} {x : Int} (h : k.val + 1 < l.length) (hl : az_st2 l k.val (.inr (.inl x)) = l') (K : az_E sc g M c l' (s) m Q) : az_E sc g M ((pc, .lstore_n k, f) :: c) l (.inr (.inl x) :: s) m Q := az_nxt (by simp only [az_step, az_stL]; rw [if_pos h, hl]; rfl) K
theorem r_iinc {k : Nat} {n x y : Int} (h : l[k]? = some (some (.inl x))) (hy : az_w (x + n) = y) (hl : az_st1 l k (.inl y) = l') (K : az_E sc g M c l' (s) m Q) : az_E sc g M ((pc, .iinc k n, f) :: c) l (s) m Q := az_nxt (by show az_iinc l s g m k n = _; unfold az_iinc; rw [h]; simp only []; rw [hy, hl]; rfl) K
theorem r_iaddw {x y : Int} (K : az_E sc g M c l (.inl (az_w (x + y)) :: s) m Q) : az_E sc g M ((pc, .iadd, f) :: c) l (.inl y :: .inl x :: s) m Q := az_nxt rfl K
theorem r_iadd {x y z : Int} (h : az_w (x + y) = z) (K : az_E sc g M c l (.inl z :: s) m Q) : az_E sc g M ((pc, .iadd, f) :: c) l (.inl y :: .inl x :: s) m Q := az_nxt (by simp only [az_step, az_b2, az_u1, az_l2, az_li, az_nx, h]) K
theorem r_isubw {x y : Int} (K : az_E sc g M c l (.inl (az_w (x - y)) :: s) m Q) : az_E sc g M ((pc, .isub, f) :: c) l (.inl y :: .inl x :: s) m Q := az_nxt rfl K
theorem r_isub {x y z : Int} (h : az_w (x - y) = z) (K : az_E sc g M c l (.inl z :: s) m Q) : az_E sc g M ((pc, .isub, f) :: c) l (.inl y :: .inl x :: s) m Q := az_nxt (by simp only [az_step, az_b2, az_u1, az_l2, az_li, az_nx, h]) K
theorem r_imulw {x y : Int} (K : az_E sc g M c l (.inl (az_w (x * y)) :: s) m Q) : az_E sc g M ((pc, .imul, f) :: c) l (.inl y :: .inl x :: s) m Q := az_nxt rfl K
theorem r_imul {x y z : Int} (h : az_w (x * y) = z) (K : az_E sc g M c l (.inl z :: s) m Q) : az_E sc g M ((pc, .imul, f) :: c) l (.inl y :: .inl x :: s) m Q := az_nxt (by simp only [az_step, az_b2, az_u1, az_l2, az_li, az_nx, h]) K
theorem r_iand {x y z : Int} (h : az_and x y = z) (K : az_E sc g M c l (.inl z :: s) m Q) : az_E sc g M ((pc, .iand, f) :: c) l (.inl y :: .inl x :: s) m Q := az_nxt (by simp only [az_step, az_b2, az_u1, az_l2, az_li, az_nx, h]) K
theorem r_ior {x y z : Int} (h : az_or x y = z) (K : az_E sc g M c l (.inl z :: s) m Q) : az_E sc g M ((pc, .ior, f) :: c) l (.inl y :: .inl x :: s) m Q := az_nxt (by simp only [az_step, az_b2, az_u1, az_l2, az_li, az_nx, h]) K
theorem r_ixor {x y z : Int} (h : az_xor x y = z) (K : az_E sc g M c l (.inl z :: s) m Q) : az_E sc g M ((pc, .ixor, f) :: c) l (.inl y :: .inl x :: s) m Q := az_nxt (by simp only [az_step, az_b2, az_u1, az_l2, az_li, az_nx, h]) K
theorem r_ishl {x y z : Int} (h : az_shl x y = z) (K : az_E sc g M c l (.inl z :: s) m Q) : az_E sc g M ((pc, .ishl, f) :: c) l (.inl y :: .inl x :: s) m Q := az_nxt (by simp only [az_step, az_b2, az_u1, az_l2, az_li, az_nx, h]) K
theorem r_ishr {x y z : Int} (h : az_shr x y = z) (K : az_E sc g M c l (.inl z :: s) m Q) : az_E sc g M ((pc, .ishr, f) :: c) l (.inl y :: .inl x :: s) m Q := az_nxt (by simp only [az_step, az_b2, az_u1, az_l2, az_li, az_nx, h]) K
theorem r_iushr {x y z : Int} (h : az_ush x y = z) (K : az_E sc g M c l (.inl z :: s) m Q) : az_E sc g M ((pc, .iushr, f) :: c) l (.inl y :: .inl x :: s) m Q := az_nxt (by simp only [az_step, az_b2, az_u1, az_l2, az_li, az_nx, h]) K
theorem r_idiv {x y z : Int} (h0 : y ≠ 0) (h : az_w (x.tdiv y) = z) (K : az_E sc g M c l (.inl z :: s) m Q) : az_E sc g M ((pc, .idiv, f) :: c) l (.inl y :: .inl x :: s) m Q := az_nxt (by simp only [az_step, az_d2, az_dl2, az_nx]; rw [if_neg h0, h]) K
theorem r_irem {x y z : Int} (h0 : y ≠ 0) (h : x.tmod y = z) (K : az_E sc g M c l (.inl z :: s) m Q) : az_E sc g M ((pc, .irem, f) :: c) l (.inl y :: .inl x :: s) m Q := az_nxt (by simp only [az_step, az_d2, az_dl2, az_nx]; rw [if_neg h0, h]) K
theorem r_ineg {x z : Int} (h : az_w (-x) = z) (K : az_E sc g M c l (.inl z :: s) m Q) : az_E sc g M ((pc, .ineg, f) :: c) l (.inl x :: s) m Q := az_nxt (by simp only [az_step, az_b2, az_u1, az_l2, az_li, az_nx, h]) K
theorem r_i2b {x z : Int} (h : az_i2b x = z) (K : az_E sc g M c l (.inl z :: s) m Q) : az_E sc g M ((pc, .i2b, f) :: c) l (.inl x :: s) m Q := az_nxt (by simp only [az_step, az_b2, az_u1, az_l2, az_li, az_nx, h]) K
theorem r_i2s {x z : Int} (h : az_i2s x = z) (K : az_E sc g M c l (.inl z :: s) m Q) : az_E sc g M ((pc, .i2s, f) :: c) l (.inl x :: s) m Q := az_nxt (by simp only [az_step, az_b2, az_u1, az_l2, az_li, az_nx, h]) K
theorem r_i2c {x z : Int} (h : az_i2c x = z) (K : az_E sc g M c l (.inl z :: s) m Q) : az_E sc g M ((pc, .i2c, f) :: c) l (.inl x :: s) m Q := az_nxt (by simp only [az_step, az_b2, az_u1, az_l2, az_li, az_nx, h]) K
theorem r_i2l {x : Int} (K : az_E sc g M c l (.inr (.inl x) :: s) m Q) : az_E sc g M ((pc, .i2l, f) :: c) l (.inl x :: s) m Q := az_nxt rfl K
theorem r_l2i {x z : Int} (h : az_w x = z) (K : az_E sc g M c l (.inl z :: s) m Q) : az_E sc g M ((pc, .l2i, f) :: c) l (.inr (.inl x) :: s) m Q := az_nxt (by simp only [az_step, az_b2, az_u1, az_l2, az_li, az_nx, h]) K
theorem r_ladd {x y z : Int} (h : az_wl (x + y) = z) (K : az_E sc g M c l (.inr (.inl z) :: s) m Q) : az_E sc g M ((pc, .ladd, f) :: c) l (.inr (.inl y) :: .inr (.inl x) :: s) m Q := az_nxt (by simp only [az_step, az_b2, az_u1, az_l2, az_li, az_nx, h]) K
theorem r_lsub {x y z : Int} (h : az_wl (x - y) = z) (K : az_E sc g M c l (.inr (.inl z) :: s) m Q) : az_E sc g M ((pc, .lsub, f) :: c) l (.inr (.inl y) :: .inr (.inl x) :: s) m Q := az_nxt (by simp only [az_step, az_b2, az_u1, az_l2, az_li, az_nx, h]) K
theorem r_lmul {x y z : Int} (h : az_wl (x * y) = z) (K : az_E sc g M c l (.inr (.inl z) :: s) m Q) : az_E sc g M ((pc, .lmul, f) :: c) l (.inr (.inl y) :: .inr (.inl x) :: s) m Q := az_nxt (by simp only [az_step, az_b2, az_u1, az_l2, az_li, az_nx, h]) K
theorem r_land {x y z : Int} (h : az_land x y = z) (K : az_E sc g M c l (.inr (.inl z) :: s) m Q) : az_E sc g M ((pc, .land, f) :: c) l (.inr (.inl y) :: .inr (.inl x) :: s) m Q := az_nxt (by simp only [az_step, az_b2, az_u1, az_l2, az_li, az_nx, h]) K
theorem r_lor {x y z : Int} (h : az_lor x y = z) (K : az_E sc g M c l (.inr (.inl z) :: s) m Q) : az_E sc g M ((pc, .lor, f) :: c) l (.inr (.inl y) :: .inr (.inl x) :: s) m Q := az_nxt (by simp only [az_step, az_b2, az_u1, az_l2, az_li, az_nx, h]) K
theorem r_lshl {x y z : Int} (h : az_lshl x y = z) (K : az_E sc g M c l (.inr (.inl z) :: s) m Q) : az_E sc g M ((pc, .lshl, f) :: c) l (.inl y :: .inr (.inl x) :: s) m Q := az_nxt (by simp only [az_step, az_b2, az_u1, az_l2, az_li, az_nx, h]) K
theorem r_lshr {x y z : Int} (h : az_lshr x y = z) (K : az_E sc g M c l (.inr (.inl z) :: s) m Q) : az_E sc g M ((pc, .lshr, f) :: c) l (.inl y :: .inr (.inl x) :: s) m Q := az_nxt (by simp only [az_step, az_b2, az_u1, az_l2, az_li, az_nx, h]) K
theorem r_ldiv {x y z : Int} (h0 : y ≠ 0) (h : az_wl (x.tdiv y) = z) (K : az_E sc g M c l (.inr (.inl z) :: s) m Q) : az_E sc g M ((pc, .ldiv, f) :: c) l (.inr (.inl y) :: .inr (.inl x) :: s) m Q := az_nxt (by simp only [az_step, az_d2, az_dl2, az_nx]; rw [if_neg h0, h]) K
theorem r_lrem {x y z : Int} (h0 : y ≠ 0) (h : x.tmod y = z) (K : az_E sc g M c l (.inr (.inl z) :: s) m Q) : az_E sc g M ((pc, .lrem, f) :: c) l (.inr (.inl y) :: .inr (.inl x) :: s) m Q := az_nxt (by simp only [az_step, az_d2, az_dl2, az_nx]; rw [if_neg h0, h]) K
theorem r_lcmp {x y : Int} (K : az_E sc g M c l (.inl (az_cmp x y) :: s) m Q) : az_E sc g M ((pc, .lcmp, f) :: c) l (.inr (.inl y) :: .inr (.inl x) :: s) m Q := az_nxt rfl K
theorem r_dupI {x : Int} (K : az_E sc g M c l (.inl x :: .inl x :: s) m Q) : az_E sc g M ((pc, .dup, f) :: c) l (.inl x :: s) m Q := az_nxt rfl K
theorem r_dupR {x : Nat} (K : az_E sc g M c l (.inr (.inr x) :: .inr (.inr x) :: s) m Q) : az_E sc g M ((pc, .dup, f) :: c) l (.inr (.inr x) :: s) m Q := az_nxt rfl K
theorem r_dup2 {x : Int} {r : Nat} (K : az_E sc g M c l (.inl x :: .inr (.inr r) :: .inl x :: .inr (.inr r) :: s) m Q) : az_E sc g M ((pc, .dup2, f) :: c) l (.inl x :: .inr (.inr r) :: s) m Q := az_nxt rfl K
theorem r_pop {x : Int} (K : az_E sc g M c l (s) m Q) : az_E sc g M ((pc, .pop, f) :: c) l (.inl x :: s) m Q := az_nxt rfl K
theorem r_ldcI {v : Int} {q : List Int} {k : Nat} (K : az_E sc g M c l (.inl v :: s) m Q) : az_E sc g M ((pc, .ldc k, 0 :: v :: q) :: c) l (s) m Q := az_nxt rfl K
theorem r_ldcS {v : Int} {q : List Int} {k : Nat} (K : az_E sc g M c l (.inr (.inr (v.toNat + 1)) :: s) m Q) : az_E sc g M ((pc, .ldc k, 1 :: v :: q) :: c) l (s) m Q := az_nxt rfl K
theorem r_ldcw {v : Int} {q : List Int} {k : Nat} (K : az_E sc g M c l (.inl v :: s) m Q) : az_E sc g M ((pc, .ldc_w k, 0 :: v :: q) :: c) l (s) m Q := az_nxt rfl K
theorem r_ldc2 {v : Int} {q : List Int} {k : Nat} (K : az_E sc g M c l (.inr (.inl v) :: s) m Q) : az_E sc g M ((pc, .ldc2_w k, 0 :: v :: q) :: c) l (s) m Q := az_nxt rfl K
theorem r_icmp_eq {x y : Int} {off : Int} {t : Int} (hk : az_seek t.toNat (az_cd M) = c') (kt : x = y → az_E sc g M c' l s m Q) (kf : x ≠ y → az_E sc g M c l s m Q) : az_E sc g M ((pc, .if_icmp .eq off, [t]) :: c) l (.inl y :: .inl x :: s) m Q := by
  by_cases h : x = y
  · exact az_jmpr (t := t.toNat) (s' := s) (by show (if az_cnd .eq x y = true then az_jmp [t] s else az_nx l s g m) = _; rw [if_pos (by simp only [az_cnd, decide_eq_true_eq]; exact h)]; rfl) hk (kt h)
  · exact az_nxt (l' := l) (s' := s) (m' := m) (by show (if az_cnd .eq x y = true then az_jmp [t] s else az_nx l s g m) = _; rw [if_neg (by simp only [az_cnd, decide_eq_true_eq]; exact h)]; rfl) (kf (by omega))
theorem r_if_eq {x : Int} {off : Int} {t : Int} (hk : az_seek t.toNat (az_cd M) = c') (kt : x = 0 → az_E sc g M c' l s m Q) (kf : x ≠ 0 → az_E sc g M c l s m Q) : az_E sc g M ((pc, .ifCond .eq off, [t]) :: c) l (.inl x :: s) m Q := by
  by_cases h : x = 0
  · exact az_jmpr (t := t.toNat) (s' := s) (by show (if az_cnd .eq x 0 = true then az_jmp [t] s else az_nx l s g m) = _; rw [if_pos (by simp only [az_cnd, decide_eq_true_eq]; exact h)]; rfl) hk (kt h)
  · exact az_nxt (l' := l) (s' := s) (m' := m) (by show (if az_cnd .eq x 0 = true then az_jmp [t] s else az_nx l s g m) = _; rw [if_neg (by simp only [az_cnd, decide_eq_true_eq]; exact h)]; rfl) (kf (by omega))
theorem r_icmp_ne {x y : Int} {off : Int} {t : Int} (hk : az_seek t.toNat (az_cd M) = c') (kt : x ≠ y → az_E sc g M c' l s m Q) (kf : x = y → az_E sc g M c l s m Q) : az_E sc g M ((pc, .if_icmp .ne off, [t]) :: c) l (.inl y :: .inl x :: s) m Q := by
  by_cases h : x ≠ y
  · exact az_jmpr (t := t.toNat) (s' := s) (by show (if az_cnd .ne x y = true then az_jmp [t] s else az_nx l s g m) = _; rw [if_pos (by simp only [az_cnd, decide_eq_true_eq]; exact h)]; rfl) hk (kt h)
  · exact az_nxt (l' := l) (s' := s) (m' := m) (by show (if az_cnd .ne x y = true then az_jmp [t] s else az_nx l s g m) = _; rw [if_neg (by simp only [az_cnd, decide_eq_true_eq]; exact h)]; rfl) (kf (by omega))
theorem r_if_ne {x : Int} {off : Int} {t : Int} (hk : az_seek t.toNat (az_cd M) = c') (kt : x ≠ 0 → az_E sc g M c' l s m Q) (kf : x = 0 → az_E sc g M c l s m Q) : az_E sc g M ((pc, .ifCond .ne off, [t]) :: c) l (.inl x :: s) m Q := by
  by_cases h : x ≠ 0
  · exact az_jmpr (t := t.toNat) (s' := s) (by show (if az_cnd .ne x 0 = true then az_jmp [t] s else az_nx l s g m) = _; rw [if_pos (by simp only [az_cnd, decide_eq_true_eq]; exact h)]; rfl) hk (kt h)
  · exact az_nxt (l' := l) (s' := s) (m' := m) (by show (if az_cnd .ne x 0 = true then az_jmp [t] s else az_nx l s g m) = _; rw [if_neg (by simp only [az_cnd, decide_eq_true_eq]; exact h)]; rfl) (kf (by omega))
theorem r_icmp_lt {x y : Int} {off : Int} {t : Int} (hk : az_seek t.toNat (az_cd M) = c') (kt : x < y → az_E sc g M c' l s m Q) (kf : y ≤ x → az_E sc g M c l s m Q) : az_E sc g M ((pc, .if_icmp .lt off, [t]) :: c) l (.inl y :: .inl x :: s) m Q := by
  by_cases h : x < y
  · exact az_jmpr (t := t.toNat) (s' := s) (by show (if az_cnd .lt x y = true then az_jmp [t] s else az_nx l s g m) = _; rw [if_pos (by simp only [az_cnd, decide_eq_true_eq]; exact h)]; rfl) hk (kt h)
  · exact az_nxt (l' := l) (s' := s) (m' := m) (by show (if az_cnd .lt x y = true then az_jmp [t] s else az_nx l s g m) = _; rw [if_neg (by simp only [az_cnd, decide_eq_true_eq]; exact h)]; rfl) (kf (by omega))
theorem r_if_lt {x : Int} {off : Int} {t : Int} (hk : az_seek t.toNat (az_cd M) = c') (kt : x < 0 → az_E sc g M c' l s m Q) (kf : 0 ≤ x → az_E sc g M c l s m Q) : az_E sc g M ((pc, .ifCond .lt off, [t]) :: c) l (.inl x :: s) m Q := by
  by_cases h : x < 0
  · exact az_jmpr (t := t.toNat) (s' := s) (by show (if az_cnd .lt x 0 = true then az_jmp [t] s else az_nx l s g m) = _; rw [if_pos (by simp only [az_cnd, decide_eq_true_eq]; exact h)]; rfl) hk (kt h)
  · exact az_nxt (l' := l) (s' := s) (m' := m) (by show (if az_cnd .lt x 0 = true then az_jmp [t] s else az_nx l s g m) = _; rw [if_neg (by simp only [az_cnd, decide_eq_true_eq]; exact h)]; rfl) (kf (by omega))
theorem r_icmp_ge {x y : Int} {off : Int} {t : Int} (hk : az_seek t.toNat (az_cd M) = c') (kt : y ≤ x → az_E sc g M c' l s m Q) (kf : x < y → az_E sc g M c l s m Q) : az_E sc g M ((pc, .if_icmp .ge off, [t]) :: c) l (.inl y :: .inl x :: s) m Q := by
  by_cases h : y ≤ x
  · exact az_jmpr (t := t.toNat) (s' := s) (by show (if az_cnd .ge x y = true then az_jmp [t] s else az_nx l s g m) = _; rw [if_pos (by simp only [az_cnd, decide_eq_true_eq]; exact h)]; rfl) hk (kt h)
  · exact az_nxt (l' := l) (s' := s) (m' := m) (by show (if az_cnd .ge x y = true then az_jmp [t] s else az_nx l s g m) = _; rw [if_neg (by simp only [az_cnd, decide_eq_true_eq]; exact h)]; rfl) (kf (by omega))
theorem r_if_ge {x : Int} {off : Int} {t : Int} (hk : az_seek t.toNat (az_cd M) = c') (kt : 0 ≤ x → az_E sc g M c' l s m Q) (kf : x < 0 → az_E sc g M c l s m Q) : az_E sc g M ((pc, .ifCond .ge off, [t]) :: c) l (.inl x :: s) m Q := by
  by_cases h : 0 ≤ x
  · exact az_jmpr (t := t.toNat) (s' := s) (by show (if az_cnd .ge x 0 = true then az_jmp [t] s else az_nx l s g m) = _; rw [if_pos (by simp only [az_cnd, decide_eq_true_eq]; exact h)]; rfl) hk (kt h)
  · exact az_nxt (l' := l) (s' := s) (m' := m) (by show (if az_cnd .ge x 0 = true then az_jmp [t] s else az_nx l s g m) = _; rw [if_neg (by simp only [az_cnd, decide_eq_true_eq]; exact h)]; rfl) (kf (by omega))
theorem r_icmp_gt {x y : Int} {off : Int} {t : Int} (hk : az_seek t.toNat (az_cd M) = c') (kt : y < x → az_E sc g M c' l s m Q) (kf : x ≤ y → az_E sc g M c l s m Q) : az_E sc g M ((pc, .if_icmp .gt off, [t]) :: c) l (.inl y :: .inl x :: s) m Q := by
  by_cases h : y < x
  · exact az_jmpr (t := t.toNat) (s' := s) (by show (if az_cnd .gt x y = true then az_jmp [t] s else az_nx l s g m) = _; rw [if_pos (by simp only [az_cnd, decide_eq_true_eq]; exact h)]; rfl) hk (kt h)
  · exact az_nxt (l' := l) (s' := s) (m' := m) (by show (if az_cnd .gt x y = true then az_jmp [t] s else az_nx l s g m) = _; rw [if_neg (by simp only [az_cnd, decide_eq_true_eq]; exact h)]; rfl) (kf (by omega))
theorem r_if_gt {x : Int} {off : Int} {t : Int} (hk : az_seek t.toNat (az_cd M) = c') (kt : 0 < x → az_E sc g M c' l s m Q) (kf : x ≤ 0 → az_E sc g M c l s m Q) : az_E sc g M ((pc, .ifCond .gt off, [t]) :: c) l (.inl x :: s) m Q := by
  by_cases h : 0 < x
  · exact az_jmpr (t := t.toNat) (s' := s) (by show (if az_cnd .gt x 0 = true then az_jmp [t] s else az_nx l s g m) = _; rw [if_pos (by simp only [az_cnd, decide_eq_true_eq]; exact h)]; rfl) hk (kt h)
  · exact az_nxt (l' := l) (s' := s) (m' := m) (by show (if az_cnd .gt x 0 = true then az_jmp [t] s else az_nx l s g m) = _; rw [if_neg (by simp only [az_cnd, decide_eq_true_eq]; exact h)]; rfl) (kf (by omega))
theorem r_icmp_le {x y : Int} {off : Int} {t : Int} (hk : az_seek t.toNat (az_cd M) = c') (kt : x ≤ y → az_E sc g M c' l s m Q) (kf : y < x → az_E sc g M c l s m Q) : az_E sc g M ((pc, .if_icmp .le off, [t]) :: c) l (.inl y :: .inl x :: s) m Q := by
  by_cases h : x ≤ y
  · exact az_jmpr (t := t.toNat) (s' := s) (by show (if az_cnd .le x y = true then az_jmp [t] s else az_nx l s g m) = _; rw [if_pos (by simp only [az_cnd, decide_eq_true_eq]; exact h)]; rfl) hk (kt h)
  · exact az_nxt (l' := l) (s' := s) (m' := m) (by show (if az_cnd .le x y = true then az_jmp [t] s else az_nx l s g m) = _; rw [if_neg (by simp only [az_cnd, decide_eq_true_eq]; exact h)]; rfl) (kf (by omega))
theorem r_if_le {x : Int} {off : Int} {t : Int} (hk : az_seek t.toNat (az_cd M) = c') (kt : x ≤ 0 → az_E sc g M c' l s m Q) (kf : 0 < x → az_E sc g M c l s m Q) : az_E sc g M ((pc, .ifCond .le off, [t]) :: c) l (.inl x :: s) m Q := by
  by_cases h : x ≤ 0
  · exact az_jmpr (t := t.toNat) (s' := s) (by show (if az_cnd .le x 0 = true then az_jmp [t] s else az_nx l s g m) = _; rw [if_pos (by simp only [az_cnd, decide_eq_true_eq]; exact h)]; rfl) hk (kt h)
  · exact az_nxt (l' := l) (s' := s) (m' := m) (by show (if az_cnd .le x 0 = true then az_jmp [t] s else az_nx l s g m) = _; rw [if_neg (by simp only [az_cnd, decide_eq_true_eq]; exact h)]; rfl) (kf (by omega))
theorem r_goto {off : Int} {t : Int} (hk : az_seek t.toNat (az_cd M) = c') (K : az_E sc g M c' l s m Q) : az_E sc g M ((pc, .goto off, [t]) :: c) l s m Q := az_jmpr (t := t.toNat) rfl hk K
theorem r_tswO {d lo hi x t : Int} {os : Array Int} {q : List Int} (h : x < lo ∨ hi < x) (hk : az_seek t.toNat (az_cd M) = c') (K : az_E sc g M c' l s m Q) : az_E sc g M ((pc, .tableswitch d lo hi os, t :: q) :: c) l (.inl x :: s) m Q := az_jmpr (t := t.toNat) (s' := s) (by show (if x < lo ∨ hi < x then some _ else some _) = _; rw [if_pos h]; rfl) hk K
theorem r_tswI {d lo hi x : Int} {os : Array Int} {t : Nat} (h : ¬ (x < lo ∨ hi < x)) (ht : (f.getD ((x - lo).toNat + 1) 0).toNat = t) (hk : az_seek t (az_cd M) = c') (K : az_E sc g M c' l s m Q) : az_E sc g M ((pc, .tableswitch d lo hi os, f) :: c) l (.inl x :: s) m Q := az_jmpr (t := t) (s' := s) (by show (if x < lo ∨ hi < x then some _ else some _) = _; rw [if_neg h, ht]) hk K
theorem r_lsw {d x : Int} {ps : Array (Int × Int)} {t : Nat} (ht : az_lk (f.drop 1) x (f.headD 0).toNat = t) (hk : az_seek t (az_cd M) = c') (K : az_E sc g M c' l s m Q) : az_E sc g M ((pc, .lookupswitch d ps, f) :: c) l (.inl x :: s) m Q := az_jmpr (t := t) (s' := s) (by show some _ = some _; rw [ht]) hk K
theorem r_iald {a n r : Nat} {rs : List Nat} {j : Int} (hg : g[a]? = some (20, n, rs)) (hr : a + 1 = r) (ha : a ≠ 0) (h0 : 0 ≤ j) (h1 : j < (n : Int)) (K : az_E sc g M c l (.inl (m a j) :: s) m Q) : az_E sc g M ((pc, .iaload, f) :: c) l (.inl j :: .inr (.inr r) :: s) m Q := az_nxt (by subst hr; simp only [az_step, az_ald, az_aln]; rw [if_neg (by omega), hg]; simp only []; rw [if_pos ⟨List.mem_singleton.mpr rfl, h0, h1⟩]; rfl) K
theorem r_sld {L : Nat} {xs : Int → Int} {j : Int} (hs : sc = some (L, xs)) (h0 : 0 ≤ j) (h1 : j < (L : Int)) (K : az_E sc g M c l (.inl (xs j) :: s) m Q) : az_E sc g M ((pc, .iaload, f) :: c) l (.inl j :: .inr (.inr 1) :: s) m Q := az_nxt (by subst hs; simp only [az_step, az_ald]; rw [if_pos trivial, if_pos ⟨trivial, h0, h1⟩]; rfl) K
theorem r_slen {L : Nat} {xs : Int → Int} (hs : sc = some (L, xs)) (K : az_E sc g M c l (.inl (L : Int) :: s) m Q) : az_E sc g M ((pc, .arraylength, f) :: c) l (.inr (.inr 1) :: s) m Q := az_nxt (by subst hs; rfl) K
theorem r_bald {a t n r : Nat} {rs : List Nat} {j : Int} (hg : g[a]? = some (t, n, rs)) (hr : a + 1 = r) (ha : a ≠ 0) (ht : t = 21 ∨ t = 22) (h0 : 0 ≤ j) (h1 : j < (n : Int)) (K : az_E sc g M c l (.inl (m a j) :: s) m Q) : az_E sc g M ((pc, .baload, f) :: c) l (.inl j :: .inr (.inr r) :: s) m Q := az_nxt (by subst hr; simp only [az_step, az_ald, az_aln]; rw [if_neg (by omega), hg]; simp only []; rw [if_pos ⟨by rcases ht with h | h <;> simp [h], h0, h1⟩]; rfl) K
theorem r_aald {a t n r : Nat} {rs : List Nat} {j : Int} (hg : g[a]? = some (t, n, rs)) (ht : 23 ≤ t ∧ t ≤ 24) (h0 : 0 ≤ j) (h1 : j < (n : Int)) (hr : rs.getD j.toNat 0 = r) (K : az_E sc g M c l (.inr (.inr r) :: s) m Q) : az_E sc g M ((pc, .aaload, f) :: c) l (.inl j :: .inr (.inr (a + 1)) :: s) m Q := az_nxt (by simp only [az_step, az_aald, az_iast, az_bast, az_get, az_put]; rw [hg]; simp only []; rw [if_pos ⟨ht.1, ht.2, h0, h1⟩, hr]; rfl) K
theorem r_alen {a t n r : Nat} {rs : List Nat} (hg : g[a]? = some (t, n, rs)) (hr : a + 1 = r) (ha : a ≠ 0) (ht : 20 ≤ t ∧ t ≤ 24) (K : az_E sc g M c l (.inl (n : Int) :: s) m Q) : az_E sc g M ((pc, .arraylength, f) :: c) l (.inr (.inr r) :: s) m Q := az_nxt (by subst hr; simp only [az_step, az_ald, az_aln]; rw [if_neg (by omega), hg]; simp only []; rw [if_pos ht]; rfl) K
theorem r_iast {a n : Nat} {rs : List Nat} {j v : Int} (hg : g[a]? = some (20, n, rs)) (ha : 19 ≤ a) (h0 : 0 ≤ j) (h1 : j < (n : Int)) (K : az_E sc g M c l s (az_up m a j v) Q) : az_E sc g M ((pc, .iastore, f) :: c) l (.inl v :: .inl j :: .inr (.inr (a + 1)) :: s) m Q := az_nxt (by simp only [az_step, az_aald, az_iast, az_bast, az_get, az_put]; rw [hg]; simp only []; rw [if_pos ⟨ha, trivial, h0, h1⟩]; rfl) K
theorem r_bast {a t n : Nat} {rs : List Nat} {j v : Int} (hg : g[a]? = some (t, n, rs)) (ha : 19 ≤ a) (ht : (t = 21 ∧ -128 ≤ v ∧ v < 128) ∨ (t = 22 ∧ 0 ≤ v ∧ v < 2)) (h0 : 0 ≤ j) (h1 : j < (n : Int)) (K : az_E sc g M c l s (az_up m a j v) Q) : az_E sc g M ((pc, .bastore, f) :: c) l (.inl v :: .inl j :: .inr (.inr (a + 1)) :: s) m Q := az_nxt (by simp only [az_step, az_aald, az_iast, az_bast, az_get, az_put]; rw [hg]; simp only []; rw [if_pos ⟨ha, ht, h0, h1⟩]; rfl) K
theorem r_getI {a tg n x : Nat} {rs : List Nat} {k : Int} {q : List Int} (hg : g[a]? = some (tg, n, rs)) (K : az_E sc g M c l (.inl (m a k) :: s) m Q) : az_E sc g M ((pc, .getfield x, (tg : Int) :: k :: 0 :: q) :: c) l (.inr (.inr (a + 1)) :: s) m Q := az_nxt (by simp only [az_step, az_aald, az_iast, az_bast, az_get, az_put]; rw [hg]; simp only []; rw [if_pos trivial]; rfl) K
theorem r_getZ {a tg n x : Nat} {rs : List Nat} {k : Int} {q : List Int} (hg : g[a]? = some (tg, n, rs)) (K : az_E sc g M c l (.inl (m a k) :: s) m Q) : az_E sc g M ((pc, .getfield x, (tg : Int) :: k :: 3 :: q) :: c) l (.inr (.inr (a + 1)) :: s) m Q := az_nxt (by simp only [az_step, az_aald, az_iast, az_bast, az_get, az_put]; rw [hg]; simp only []; rw [if_pos trivial]; rfl) K
theorem r_getL {a tg n x : Nat} {rs : List Nat} {k : Int} {q : List Int} (hg : g[a]? = some (tg, n, rs)) (K : az_E sc g M c l (.inr (.inl (m a k)) :: s) m Q) : az_E sc g M ((pc, .getfield x, (tg : Int) :: k :: 1 :: q) :: c) l (.inr (.inr (a + 1)) :: s) m Q := az_nxt (by simp only [az_step, az_aald, az_iast, az_bast, az_get, az_put]; rw [hg]; simp only []; rw [if_pos trivial]; rfl) K
theorem r_getR {a tg n x r : Nat} {rs : List Nat} {k : Int} {q : List Int} (hg : g[a]? = some (tg, n, rs)) (hr : rs.getD k.toNat 0 = r) (K : az_E sc g M c l (.inr (.inr r) :: s) m Q) : az_E sc g M ((pc, .getfield x, (tg : Int) :: k :: 2 :: q) :: c) l (.inr (.inr (a + 1)) :: s) m Q := az_nxt (by simp only [az_step, az_aald, az_iast, az_bast, az_get, az_put]; rw [hg]; simp only []; rw [if_pos trivial, hr]; rfl) K
theorem r_putI {a tg n x : Nat} {rs : List Nat} {k v : Int} {q : List Int} (hg : g[a]? = some (tg, n, rs)) (ha : 19 ≤ a) (K : az_E sc g M c l s (az_up m a k v) Q) : az_E sc g M ((pc, .putfield x, (tg : Int) :: k :: 0 :: q) :: c) l (.inl v :: .inr (.inr (a + 1)) :: s) m Q := az_nxt (by simp only [az_step, az_aald, az_iast, az_bast, az_get, az_put]; rw [hg]; simp only []; rw [if_pos ⟨ha, trivial, Or.inl trivial⟩]; rfl) K
theorem r_putZ {a tg n x : Nat} {rs : List Nat} {k v : Int} {q : List Int} (hg : g[a]? = some (tg, n, rs)) (ha : 19 ≤ a) (hv : 0 ≤ v ∧ v < 2) (K : az_E sc g M c l s (az_up m a k v) Q) : az_E sc g M ((pc, .putfield x, (tg : Int) :: k :: 3 :: q) :: c) l (.inl v :: .inr (.inr (a + 1)) :: s) m Q := az_nxt (by simp only [az_step, az_aald, az_iast, az_bast, az_get, az_put]; rw [hg]; simp only []; rw [if_pos ⟨ha, trivial, Or.inr ⟨trivial, hv.1, hv.2⟩⟩]; rfl) K
theorem r_putL {a tg n x : Nat} {rs : List Nat} {k v : Int} {q : List Int} (hg : g[a]? = some (tg, n, rs)) (ha : 19 ≤ a) (K : az_E sc g M c l s (az_up m a k v) Q) : az_E sc g M ((pc, .putfield x, (tg : Int) :: k :: 1 :: q) :: c) l (.inr (.inl v) :: .inr (.inr (a + 1)) :: s) m Q := az_nxt (by simp only [az_step, az_aald, az_iast, az_bast, az_get, az_put]; rw [hg]; simp only []; rw [if_pos ⟨ha, trivial, trivial⟩]; rfl) K
theorem r_gst0 {x : Nat} {q : List Int} (K : az_E sc g M c l (.inr (.inr 3) :: s) m Q) : az_E sc g M ((pc, .getstatic x, 0 :: q) :: c) l s m Q := az_nxt rfl K
theorem r_gst1 {x : Nat} {q : List Int} (K : az_E sc g M c l (.inl 1 :: s) m Q) : az_E sc g M ((pc, .getstatic x, 1 :: q) :: c) l s m Q := az_nxt rfl K
theorem r_gst2 {x : Nat} {q : List Int} (K : az_E sc g M c l (.inr (.inr 2) :: s) m Q) : az_E sc g M ((pc, .getstatic x, 2 :: q) :: c) l s m Q := az_nxt rfl K
theorem r_cpy {x a d n0 n1 : Nat} {rs rs2 : List Nat} {n dp sp : Int} {q : List Int} (hg : g[a]? = some (20, n0, rs)) (hg2 : g[d]? = some (20, n1, rs2)) (ha : 19 ≤ a) (hd : 19 ≤ d) (h1 : 0 ≤ n) (h2 : 0 ≤ sp) (h3 : 0 ≤ dp) (h4 : sp + n ≤ (n0 : Int)) (h5 : dp + n ≤ (n1 : Int)) (hs : s.length ≤ 4) (K : az_E sc g M c l s (az_cp m a sp d dp n) Q) : az_E sc g M ((pc, .invokestatic x, 9 :: q) :: c) l (.inl n :: .inl dp :: .inr (.inr (d + 1)) :: .inl sp :: .inr (.inr (a + 1)) :: s) m Q := az_nxt (by simp only [az_step, az_inv, az_cpy]; rw [hg, hg2]; simp only []; rw [if_pos ⟨ha, hd, trivial, trivial, h1, h2, h3, h4, h5, hs⟩]; rfl) K
theorem r_max {x : Nat} {a b z : Int} {q : List Int} (hs : s.length ≤ 4) (h : (if a < b then b else a) = z) (K : az_E sc g M c l (.inl z :: s) m Q) : az_E sc g M ((pc, .invokestatic x, 7 :: 0 :: q) :: c) l (.inl b :: .inl a :: s) m Q := az_nxt (by simp only [az_step, az_inv]; rw [if_pos hs, if_pos trivial, h]; rfl) K
theorem r_min {x : Nat} {a b z : Int} {q : List Int} (hs : s.length ≤ 4) (h : (if b < a then b else a) = z) (K : az_E sc g M c l (.inl z :: s) m Q) : az_E sc g M ((pc, .invokestatic x, 7 :: 1 :: q) :: c) l (.inl b :: .inl a :: s) m Q := az_nxt (by simp only [az_step, az_inv]; rw [if_pos hs, if_neg (by decide), if_pos trivial, h]; rfl) K
theorem r_maxL {x : Nat} {a b z : Int} {q : List Int} (hs : s.length ≤ 4) (h : (if a < b then b else a) = z) (K : az_E sc g M c l (.inr (.inl z) :: s) m Q) : az_E sc g M ((pc, .invokestatic x, 7 :: 2 :: q) :: c) l (.inr (.inl b) :: .inr (.inl a) :: s) m Q := az_nxt (by simp only [az_step, az_inv]; rw [if_pos ⟨hs, trivial⟩, h]; rfl) K
theorem r_callS {x k : Nat} {kd Mi n c0 : Int} {q : List Int} {Qc : Option aV → aM → Prop} (as : List aV) (hk : kd = 2 ∨ kd = 5) (hn : n.toNat = k) (hl : k ≤ s.length ∧ (s.length : Int) ≤ n + 4) (ha : (s.take k).reverse = as) (hf : (az_args as).length ≤ az_ml Mi.toNat) (hc : az_C sc g Mi.toNat as m Qc) (K : ∀ v m', Qc v m' → az_E sc g M c l (v.toList ++ s.drop k) m' Q) : az_E sc g M ((pc, .invokestatic x, kd :: Mi :: n :: c0 :: q) :: c) l s m Q := by
  subst hn; subst ha
  refine az_cal (M' := Mi.toNat) (k := n.toNat) ?_ hf hc K
  rcases hk with rfl | rfl
  · show (if n.toNat ≤ s.length ∧ (s.length : Int) ≤ n + 4 then _ else none) = _
    rw [if_pos hl, if_pos (Or.inl rfl)]
  · show (if n.toNat ≤ s.length ∧ (s.length : Int) ≤ n + 4 then _ else none) = _
    rw [if_pos hl, if_pos (Or.inr rfl)]
theorem r_callV {x k a n2 tg : Nat} {Mi n : Int} {q : List Int} {rs : List Nat} {Qc : Option aV → aM → Prop} (as : List aV) (hn : n.toNat = k) (hl : k ≤ s.length ∧ (s.length : Int) ≤ n + 4) (hr : s[k - 1]? = some (.inr (.inr (a + 1)))) (hg : g[a]? = some (tg, n2, rs)) (ha : (s.take k).reverse = as) (hf : (az_args as).length ≤ az_ml Mi.toNat) (hc : az_C sc g Mi.toNat as m Qc) (K : ∀ v m', Qc v m' → az_E sc g M c l (v.toList ++ s.drop k) m' Q) : az_E sc g M ((pc, .invokevirtual x, 1 :: Mi :: n :: (tg : Int) :: q) :: c) l s m Q := by
  subst hn; subst ha
  refine az_cal (M' := Mi.toNat) (k := n.toNat) ?_ hf hc K
  show (if n.toNat ≤ s.length ∧ (s.length : Int) ≤ n + 4 then _ else none) = _
  rw [if_pos hl, if_neg (by decide), hr]
  simp only []
  rw [hg]
  simp only []
  rw [if_pos trivial]
theorem r_iret {v : Int} (h : az_rt M = 1) (q : Q (some (.inl v)) m) : az_E sc g M ((pc, .ireturn, f) :: c) l [.inl v] m Q := az_rtn (v := some (.inl v)) (by show (if _ then _ else none) = _; rw [if_pos (Or.inl h)]) q
theorem r_zret {v : Int} (h : az_rt M = 2) (hv : 0 ≤ v ∧ v < 2) (q : Q (some (.inl v)) m) : az_E sc g M ((pc, .ireturn, f) :: c) l [.inl v] m Q := az_rtn (v := some (.inl v)) (by show (if _ then _ else none) = _; rw [if_pos (Or.inr (Or.inl ⟨h, hv.1, hv.2⟩))]) q
theorem r_cret {v : Int} (h : az_rt M = 5) (hv : 0 ≤ v ∧ v < 65536) (q : Q (some (.inl v)) m) : az_E sc g M ((pc, .ireturn, f) :: c) l [.inl v] m Q := az_rtn (v := some (.inl v)) (by show (if _ then _ else none) = _; rw [if_pos (Or.inr (Or.inr (Or.inl ⟨h, hv.1, hv.2⟩)))]) q
theorem r_bret {v : Int} (h : az_rt M = 6) (hv : -128 ≤ v ∧ v < 128) (q : Q (some (.inl v)) m) : az_E sc g M ((pc, .ireturn, f) :: c) l [.inl v] m Q := az_rtn (v := some (.inl v)) (by show (if _ then _ else none) = _; rw [if_pos (Or.inr (Or.inr (Or.inr ⟨h, hv.1, hv.2⟩)))]) q
theorem r_lret {v : Int} (h : az_rt M = 3) (q : Q (some (.inr (.inl v))) m) : az_E sc g M ((pc, .lreturn, f) :: c) l [.inr (.inl v)] m Q := az_rtn (v := some (.inr (.inl v))) (by show (if _ then _ else none) = _; rw [if_pos h]) q
theorem r_aret {r : Nat} (h : az_rt M = 4) (q : Q (some (.inr (.inr r))) m) : az_E sc g M ((pc, .areturn, f) :: c) l [.inr (.inr r)] m Q := az_rtn (v := some (.inr (.inr r))) (by show (if _ then _ else none) = _; rw [if_pos h]) q
theorem r_vret (h : az_rt M = 0) (q : Q none m) : az_E sc g M ((pc, .return_, f) :: c) l [] m Q := az_rtn (v := none) (by show (if _ then _ else none) = _; rw [if_pos h]) q
/-- the numbers without wrap -/
theorem az_wid {x : Int} (h1 : -2147483648 ≤ x) (h2 : x < 2147483648) : az_w x = x := az_bm32 h1 h2
theorem az_wlid {x : Int} (h1 : -9223372036854775808 ≤ x) (h2 : x < 9223372036854775808) : az_wl x = x := az_bm64 h1 h2
end RU
end
section
/-! the law as far as its loop -/
/-- a run without a script is a run with one -/
theorem az_step_sc {sc : aX} {M : Nat} {i : Instr} {f : List Int} {l : aL} {s : aS} {g : aG} {m : aM} {o : aO} (h : az_step none M i f l s g m = some o) : az_step sc M i f l s g m = some o := by
  have key : ∀ ts, az_ald none l s g m ts = some o → az_ald sc l s g m ts = some o := fun ts h => by
    unfold az_ald at h ⊢
    split at h
    · next j a s1 =>
      split at h
      · cases h
      · next ha =>
        simp only [if_neg ha]
        exact h
    · cases h
  cases i with
  | iaload => exact key _ h
  | baload => exact key _ h
  | arraylength =>
    have h : az_aln none l s g m = some o := h
    show az_aln sc l s g m = some o
    unfold az_aln at h ⊢
    split at h
    · next a s1 =>
      split at h
      · cases h
      · next ha =>
        simp only [if_neg ha]
        exact h
    · cases h
  | _ => exact h
theorem az_run_sc {sc : aX} : ∀ (n M : Nat) (c : aC) (l : aL) (s : aS) (g : aG) (m : aM) (r : Option aV × aG × aM), az_run none n M c l s g m = some r → az_run sc n M c l s g m = some r
  | 0, M, c, l, s, g, m, r, h => by simp [az_run] at h
  | n + 1, M, [], l, s, g, m, r, h => by simp [az_run] at h
  | n + 1, M, e :: c, l, s, g, m, r, h => by
    have hs : ∀ o, az_step none M e.2.1 e.2.2 l s g m = some o → az_step sc M e.2.1 e.2.2 l s g m = some o := fun o => az_step_sc
    simp only [az_run] at h ⊢
    cases hz : az_step none M e.2.1 e.2.2 l s g m with
    | none => rw [hz] at h; cases h
    | some o =>
      rw [hz] at h
      rw [hs o hz]
      rcases o with o | o | v | o
      · exact az_run_sc n _ _ _ _ _ _ _ h
      · exact az_run_sc n _ _ _ _ _ _ _ h
      · exact h
      · simp only [] at h ⊢
        split at h
        · next hf =>
          rw [if_pos hf]
          split at h
          · cases h
          · next r2 hr2 =>
            rw [az_run_sc n _ _ _ _ _ _ _ hr2]
            exact az_run_sc n _ _ _ _ _ _ _ h
        · cases h
theorem az_run_nx {sc : aX} {n M : Nat} {e : aI} {c : aC} {l : aL} {s : aS} {g : aG} {m : aM} {r : Option aV × aG × aM} {o : aL × aS × aG × aM} (h : az_step sc M e.2.1 e.2.2 l s g m = some (.inl o)) (k : az_run sc n M c o.1 o.2.1 o.2.2.1 o.2.2.2 = some r) : az_run sc (n + 1) M (e :: c) l s g m = some r := by
  simp only [az_run, h]
  exact k
theorem az_run_cl {sc : aX} {n k M : Nat} {e : aI} {c : aC} {l : aL} {s : aS} {g : aG} {m : aM} {r r2 : Option aV × aG × aM} {o : Nat × Nat} (h : az_step sc M e.2.1 e.2.2 l s g m = some (.inr (.inr (.inr o)))) (hf : (az_args ((s.take o.2).reverse)).length ≤ az_ml o.1) (h2 : az_run sc k o.1 (az_cd o.1) (az_ent ((s.take o.2).reverse) (az_ml o.1)) [] g m = some r2) (h3 : az_run sc n M c l (r2.1.toList ++ s.drop o.2) r2.2.1 r2.2.2 = some r) : az_run sc (n + k + 1) M (e :: c) l s g m = some r := by
  simp only [az_run, h, if_pos hf]
  rw [Nat.add_comm n k, az_run_up sc k _ _ _ _ _ _ _ h2 n]
  simp only []
  rw [Nat.add_comm k n]
  exact az_run_up sc n _ _ _ _ _ _ _ h3 k
set_option maxRecDepth 100000 in
theorem az_law0 (L : Nat) (xs : Int → Int) : ∃ m : aM, (∀ a j : Nat, a < 293 → j < (az_G.getD a (0, 0, [])).2.1 → m a (j : Int) = az_mi a (j : Int)) ∧ ∀ Q, az_E (some (L, xs)) az_G 218 zL_law_18 [some (.inr (.inr 1)), some (.inr (.inr 20)), some (.inr (.inr 280)), some (.inl 0)] [] m Q → ∃ n v m', az_run (some (L, xs)) n 218 (az_cd 218) (az_ent [.inr (.inr 1)] (az_ml 218)) [] az_g0 az_m0 = some (v, az_G, m') ∧ Q v m' := by
  have h1 := az_r1_ok
  have h2 := az_r2_ok
  cases e1 : az_r1 with
  | none => rw [e1] at h1; cases h1
  | some r1 =>
    obtain ⟨v1, g1, m1⟩ := r1
    rw [e1] at h1
    simp only [Option.map_some, Option.some.injEq, Prod.mk.injEq] at h1
    obtain ⟨rfl, rfl⟩ := h1
    cases e2 : az_r2 with
    | none => rw [e2] at h2; cases h2
    | some r2 =>
      obtain ⟨v2, g2, m2⟩ := r2
      rw [e2] at h2
      simp only [az_chk, Bool.and_eq_true, decide_eq_true_eq] at h2
      obtain ⟨⟨rfl, rfl⟩, h3⟩ := h2
      have e2' : az_run none 5000 8 (az_cd 8) (az_ent [.inr (.inr 280)] (az_ml 8)) [] (az_G1 ++ [(8, 25, List.replicate 25 0)]) (az_bl m1 279) = some (none, az_G, m2) := by
        have := e2
        unfold az_r2 at this
        rw [e1] at this
        exact this
      refine ⟨m2, fun a j ha hj => ?_, fun Q hQ => ?_⟩
      · exact decide_eq_true_eq.mp (List.all_eq_true.mp (List.all_eq_true.mp h3 a (List.mem_range.mpr (by rw [show az_G.length = 293 by decide +kernel]; exact ha))) j (List.mem_range.mpr hj))
      · obtain ⟨n, v, m', q1, q2⟩ := hQ
        refine ⟨((n + 1 + 1 + 1) + 5000 + 1 + 1 + 1 + 1) + 5000 + 1 + 1 + 1, v, m', ?_, q2⟩
        show az_run _ _ 218 zL_law_0 _ _ _ _ = _
        unfold zL_law_0
        have e1' : az_run none 5000 7 (az_cd 7) (az_ent [.inr (.inr 20)] (az_ml 7)) [] (az_g0 ++ [(7, 10, List.replicate 10 0)]) (az_bl az_m0 19) = some (none, az_G1, m1) := e1
        have f1 := az_run_sc (sc := some (L, xs)) 5000 _ _ _ _ _ _ _ e1'
        have f2 := az_run_sc (sc := some (L, xs)) 5000 _ _ _ _ _ _ _ e2'
        clear e1 e2 e1' e2' h3
        refine az_run_nx (o := (_, [.inr (.inr 20)], az_g0 ++ [(7, 10, List.replicate 10 0)], az_bl az_m0 19)) rfl ?_
        refine az_run_nx (o := (_, [.inr (.inr 20), .inr (.inr 20)], az_g0 ++ [(7, 10, List.replicate 10 0)], az_bl az_m0 19)) rfl ?_
        refine az_run_cl (k := 5000) (o := (7, 1)) (r2 := (none, az_G1, m1)) rfl (Nat.le_of_ble_eq_true rfl) f1 ?_
        refine az_run_nx (o := ([some (.inr (.inr 1)), some (.inr (.inr 20)), none, none], [], az_G1, m1)) rfl ?_
        refine az_run_nx (o := ([some (.inr (.inr 1)), some (.inr (.inr 20)), none, none], [.inr (.inr 280)], az_G1 ++ [(8, 25, List.replicate 25 0)], az_bl m1 279)) (by simp only [az_step, az_new]; rw [show az_G1.length = 279 by decide +kernel, if_pos (by decide)]; rfl) ?_
        refine az_run_nx (o := ([some (.inr (.inr 1)), some (.inr (.inr 20)), none, none], [.inr (.inr 280), .inr (.inr 280)], az_G1 ++ [(8, 25, List.replicate 25 0)], az_bl m1 279)) rfl ?_
        refine az_run_cl (k := 5000) (o := (8, 1)) (r2 := (none, az_G, m2)) rfl (Nat.le_of_ble_eq_true rfl) f2 ?_
        refine az_run_nx (o := ([some (.inr (.inr 1)), some (.inr (.inr 20)), some (.inr (.inr 280)), none], [], az_G, m2)) rfl ?_
        refine az_run_nx (o := ([some (.inr (.inr 1)), some (.inr (.inr 20)), some (.inr (.inr 280)), none], [.inl 0], az_G, m2)) rfl ?_
        refine az_run_nx (o := ([some (.inr (.inr 1)), some (.inr (.inr 20)), some (.inr (.inr 280)), some (.inl 0)], [], az_G, m2)) rfl ?_
        exact q1
end
section
/-! calls, by the number of their arguments -/
def az_CI (sc : aX) (M : Nat) (as : List aV) (m : aM) (x : Int) (m1 : aM) : Prop := az_C sc az_G M as m (fun v m' => v = some (.inl x) ∧ m' = m1)
def az_CL (sc : aX) (M : Nat) (as : List aV) (m : aM) (x : Int) (m1 : aM) : Prop := az_C sc az_G M as m (fun v m' => v = some (.inr (.inl x)) ∧ m' = m1)
def az_CV (sc : aX) (M : Nat) (as : List aV) (m : aM) (m1 : aM) : Prop := az_C sc az_G M as m (fun v m' => v = none ∧ m' = m1)
theorem az_CI_to {sc : aX} {M : Nat} {as : List aV} {m : aM} {x y : Int} {m1 m2 : aM} (h : az_CI sc M as m x m1) (hx : x = y) (hm : m1 = m2) : az_CI sc M as m y m2 := by subst hx; subst hm; exact h
section CR
variable {sc : aX} {M pc : Nat} {c : aC} {l : aL} {s : aS} {m m1 : aM} {Q : Option aV → aM → Prop} {x : Nat} {Mi kd c0 z : Int} {q : List Int} {Qc : Option aV → aM → Prop}
theorem r_cS0  (hk : kd = 2 ∨ kd = 5) (hs : s.length ≤ 4) (hf : (az_args []).length ≤ az_ml Mi.toNat) (hc : az_C sc az_G Mi.toNat [] m Qc) (K : ∀ v m', Qc v m' → az_E sc az_G M c l (v.toList ++ s) m' Q) : az_E sc az_G M ((pc, .invokestatic x, kd :: Mi :: 0 :: c0 :: q) :: c) l (s) m Q := r_callS [] hk rfl ⟨by simp, by simp; omega⟩ (by simp) hf hc K
theorem r_cS0I  (hk : kd = 2 ∨ kd = 5) (hs : s.length ≤ 4) (hf : (az_args []).length ≤ az_ml Mi.toNat) (hc : az_CI sc Mi.toNat [] m z m1) (K : az_E sc az_G M c l (.inl z :: s) m1 Q) : az_E sc az_G M ((pc, .invokestatic x, kd :: Mi :: 0 :: c0 :: q) :: c) l (s) m Q := r_cS0 hk hs hf hc (fun v m' h => by obtain ⟨rfl, rfl⟩ := h; exact K)
theorem r_cS0L  (hk : kd = 2 ∨ kd = 5) (hs : s.length ≤ 4) (hf : (az_args []).length ≤ az_ml Mi.toNat) (hc : az_CL sc Mi.toNat [] m z m1) (K : az_E sc az_G M c l (.inr (.inl z) :: s) m1 Q) : az_E sc az_G M ((pc, .invokestatic x, kd :: Mi :: 0 :: c0 :: q) :: c) l (s) m Q := r_cS0 hk hs hf hc (fun v m' h => by obtain ⟨rfl, rfl⟩ := h; exact K)
theorem r_cS0V  (hk : kd = 2 ∨ kd = 5) (hs : s.length ≤ 4) (hf : (az_args []).length ≤ az_ml Mi.toNat) (hc : az_CV sc Mi.toNat [] m m1) (K : az_E sc az_G M c l (s) m1 Q) : az_E sc az_G M ((pc, .invokestatic x, kd :: Mi :: 0 :: c0 :: q) :: c) l (s) m Q := r_cS0 hk hs hf hc (fun v m' h => by obtain ⟨rfl, rfl⟩ := h; exact K)
theorem r_cS1 {a1 : aV} (hk : kd = 2 ∨ kd = 5) (hs : s.length ≤ 4) (hf : (az_args [a1]).length ≤ az_ml Mi.toNat) (hc : az_C sc az_G Mi.toNat [a1] m Qc) (K : ∀ v m', Qc v m' → az_E sc az_G M c l (v.toList ++ s) m' Q) : az_E sc az_G M ((pc, .invokestatic x, kd :: Mi :: 1 :: c0 :: q) :: c) l (a1 :: s) m Q := r_callS [a1] hk rfl ⟨by simp, by simp; omega⟩ (by simp) hf hc K
theorem r_cS1I {a1 : aV} (hk : kd = 2 ∨ kd = 5) (hs : s.length ≤ 4) (hf : (az_args [a1]).length ≤ az_ml Mi.toNat) (hc : az_CI sc Mi.toNat [a1] m z m1) (K : az_E sc az_G M c l (.inl z :: s) m1 Q) : az_E sc az_G M ((pc, .invokestatic x, kd :: Mi :: 1 :: c0 :: q) :: c) l (a1 :: s) m Q := r_cS1 hk hs hf hc (fun v m' h => by obtain ⟨rfl, rfl⟩ := h; exact K)
theorem r_cS1L {a1 : aV} (hk : kd = 2 ∨ kd = 5) (hs : s.length ≤ 4) (hf : (az_args [a1]).length ≤ az_ml Mi.toNat) (hc : az_CL sc Mi.toNat [a1] m z m1) (K : az_E sc az_G M c l (.inr (.inl z) :: s) m1 Q) : az_E sc az_G M ((pc, .invokestatic x, kd :: Mi :: 1 :: c0 :: q) :: c) l (a1 :: s) m Q := r_cS1 hk hs hf hc (fun v m' h => by obtain ⟨rfl, rfl⟩ := h; exact K)
theorem r_cS1V {a1 : aV} (hk : kd = 2 ∨ kd = 5) (hs : s.length ≤ 4) (hf : (az_args [a1]).length ≤ az_ml Mi.toNat) (hc : az_CV sc Mi.toNat [a1] m m1) (K : az_E sc az_G M c l (s) m1 Q) : az_E sc az_G M ((pc, .invokestatic x, kd :: Mi :: 1 :: c0 :: q) :: c) l (a1 :: s) m Q := r_cS1 hk hs hf hc (fun v m' h => by obtain ⟨rfl, rfl⟩ := h; exact K)
theorem r_cS2 {a1 : aV} {a2 : aV} (hk : kd = 2 ∨ kd = 5) (hs : s.length ≤ 4) (hf : (az_args [a1, a2]).length ≤ az_ml Mi.toNat) (hc : az_C sc az_G Mi.toNat [a1, a2] m Qc) (K : ∀ v m', Qc v m' → az_E sc az_G M c l (v.toList ++ s) m' Q) : az_E sc az_G M ((pc, .invokestatic x, kd :: Mi :: 2 :: c0 :: q) :: c) l (a2 :: a1 :: s) m Q := r_callS [a1, a2] hk rfl ⟨by simp, by simp; omega⟩ (by simp) hf hc K
theorem r_cS2I {a1 : aV} {a2 : aV} (hk : kd = 2 ∨ kd = 5) (hs : s.length ≤ 4) (hf : (az_args [a1, a2]).length ≤ az_ml Mi.toNat) (hc : az_CI sc Mi.toNat [a1, a2] m z m1) (K : az_E sc az_G M c l (.inl z :: s) m1 Q) : az_E sc az_G M ((pc, .invokestatic x, kd :: Mi :: 2 :: c0 :: q) :: c) l (a2 :: a1 :: s) m Q := r_cS2 hk hs hf hc (fun v m' h => by obtain ⟨rfl, rfl⟩ := h; exact K)
theorem r_cS2L {a1 : aV} {a2 : aV} (hk : kd = 2 ∨ kd = 5) (hs : s.length ≤ 4) (hf : (az_args [a1, a2]).length ≤ az_ml Mi.toNat) (hc : az_CL sc Mi.toNat [a1, a2] m z m1) (K : az_E sc az_G M c l (.inr (.inl z) :: s) m1 Q) : az_E sc az_G M ((pc, .invokestatic x, kd :: Mi :: 2 :: c0 :: q) :: c) l (a2 :: a1 :: s) m Q := r_cS2 hk hs hf hc (fun v m' h => by obtain ⟨rfl, rfl⟩ := h; exact K)
theorem r_cS2V {a1 : aV} {a2 : aV} (hk : kd = 2 ∨ kd = 5) (hs : s.length ≤ 4) (hf : (az_args [a1, a2]).length ≤ az_ml Mi.toNat) (hc : az_CV sc Mi.toNat [a1, a2] m m1) (K : az_E sc az_G M c l (s) m1 Q) : az_E sc az_G M ((pc, .invokestatic x, kd :: Mi :: 2 :: c0 :: q) :: c) l (a2 :: a1 :: s) m Q := r_cS2 hk hs hf hc (fun v m' h => by obtain ⟨rfl, rfl⟩ := h; exact K)
theorem r_cS3 {a1 : aV} {a2 : aV} {a3 : aV} (hk : kd = 2 ∨ kd = 5) (hs : s.length ≤ 4) (hf : (az_args [a1, a2, a3]).length ≤ az_ml Mi.toNat) (hc : az_C sc az_G Mi.toNat [a1, a2, a3] m Qc) (K : ∀ v m', Qc v m' → az_E sc az_G M c l (v.toList ++ s) m' Q) : az_E sc az_G M ((pc, .invokestatic x, kd :: Mi :: 3 :: c0 :: q) :: c) l (a3 :: a2 :: a1 :: s) m Q := r_callS [a1, a2, a3] hk rfl ⟨by simp, by simp; omega⟩ (by simp) hf hc K
theorem r_cS3I {a1 : aV} {a2 : aV} {a3 : aV} (hk : kd = 2 ∨ kd = 5) (hs : s.length ≤ 4) (hf : (az_args [a1, a2, a3]).length ≤ az_ml Mi.toNat) (hc : az_CI sc Mi.toNat [a1, a2, a3] m z m1) (K : az_E sc az_G M c l (.inl z :: s) m1 Q) : az_E sc az_G M ((pc, .invokestatic x, kd :: Mi :: 3 :: c0 :: q) :: c) l (a3 :: a2 :: a1 :: s) m Q := r_cS3 hk hs hf hc (fun v m' h => by obtain ⟨rfl, rfl⟩ := h; exact K)
theorem r_cS3L {a1 : aV} {a2 : aV} {a3 : aV} (hk : kd = 2 ∨ kd = 5) (hs : s.length ≤ 4) (hf : (az_args [a1, a2, a3]).length ≤ az_ml Mi.toNat) (hc : az_CL sc Mi.toNat [a1, a2, a3] m z m1) (K : az_E sc az_G M c l (.inr (.inl z) :: s) m1 Q) : az_E sc az_G M ((pc, .invokestatic x, kd :: Mi :: 3 :: c0 :: q) :: c) l (a3 :: a2 :: a1 :: s) m Q := r_cS3 hk hs hf hc (fun v m' h => by obtain ⟨rfl, rfl⟩ := h; exact K)
theorem r_cS3V {a1 : aV} {a2 : aV} {a3 : aV} (hk : kd = 2 ∨ kd = 5) (hs : s.length ≤ 4) (hf : (az_args [a1, a2, a3]).length ≤ az_ml Mi.toNat) (hc : az_CV sc Mi.toNat [a1, a2, a3] m m1) (K : az_E sc az_G M c l (s) m1 Q) : az_E sc az_G M ((pc, .invokestatic x, kd :: Mi :: 3 :: c0 :: q) :: c) l (a3 :: a2 :: a1 :: s) m Q := r_cS3 hk hs hf hc (fun v m' h => by obtain ⟨rfl, rfl⟩ := h; exact K)
theorem r_cS4 {a1 : aV} {a2 : aV} {a3 : aV} {a4 : aV} (hk : kd = 2 ∨ kd = 5) (hs : s.length ≤ 4) (hf : (az_args [a1, a2, a3, a4]).length ≤ az_ml Mi.toNat) (hc : az_C sc az_G Mi.toNat [a1, a2, a3, a4] m Qc) (K : ∀ v m', Qc v m' → az_E sc az_G M c l (v.toList ++ s) m' Q) : az_E sc az_G M ((pc, .invokestatic x, kd :: Mi :: 4 :: c0 :: q) :: c) l (a4 :: a3 :: a2 :: a1 :: s) m Q := r_callS [a1, a2, a3, a4] hk rfl ⟨by simp, by simp; omega⟩ (by simp) hf hc K
theorem r_cS4I {a1 : aV} {a2 : aV} {a3 : aV} {a4 : aV} (hk : kd = 2 ∨ kd = 5) (hs : s.length ≤ 4) (hf : (az_args [a1, a2, a3, a4]).length ≤ az_ml Mi.toNat) (hc : az_CI sc Mi.toNat [a1, a2, a3, a4] m z m1) (K : az_E sc az_G M c l (.inl z :: s) m1 Q) : az_E sc az_G M ((pc, .invokestatic x, kd :: Mi :: 4 :: c0 :: q) :: c) l (a4 :: a3 :: a2 :: a1 :: s) m Q := r_cS4 hk hs hf hc (fun v m' h => by obtain ⟨rfl, rfl⟩ := h; exact K)
theorem r_cS4L {a1 : aV} {a2 : aV} {a3 : aV} {a4 : aV} (hk : kd = 2 ∨ kd = 5) (hs : s.length ≤ 4) (hf : (az_args [a1, a2, a3, a4]).length ≤ az_ml Mi.toNat) (hc : az_CL sc Mi.toNat [a1, a2, a3, a4] m z m1) (K : az_E sc az_G M c l (.inr (.inl z) :: s) m1 Q) : az_E sc az_G M ((pc, .invokestatic x, kd :: Mi :: 4 :: c0 :: q) :: c) l (a4 :: a3 :: a2 :: a1 :: s) m Q := r_cS4 hk hs hf hc (fun v m' h => by obtain ⟨rfl, rfl⟩ := h; exact K)
theorem r_cS4V {a1 : aV} {a2 : aV} {a3 : aV} {a4 : aV} (hk : kd = 2 ∨ kd = 5) (hs : s.length ≤ 4) (hf : (az_args [a1, a2, a3, a4]).length ≤ az_ml Mi.toNat) (hc : az_CV sc Mi.toNat [a1, a2, a3, a4] m m1) (K : az_E sc az_G M c l (s) m1 Q) : az_E sc az_G M ((pc, .invokestatic x, kd :: Mi :: 4 :: c0 :: q) :: c) l (a4 :: a3 :: a2 :: a1 :: s) m Q := r_cS4 hk hs hf hc (fun v m' h => by obtain ⟨rfl, rfl⟩ := h; exact K)
theorem r_cS5 {a1 : aV} {a2 : aV} {a3 : aV} {a4 : aV} {a5 : aV} (hk : kd = 2 ∨ kd = 5) (hs : s.length ≤ 4) (hf : (az_args [a1, a2, a3, a4, a5]).length ≤ az_ml Mi.toNat) (hc : az_C sc az_G Mi.toNat [a1, a2, a3, a4, a5] m Qc) (K : ∀ v m', Qc v m' → az_E sc az_G M c l (v.toList ++ s) m' Q) : az_E sc az_G M ((pc, .invokestatic x, kd :: Mi :: 5 :: c0 :: q) :: c) l (a5 :: a4 :: a3 :: a2 :: a1 :: s) m Q := r_callS [a1, a2, a3, a4, a5] hk rfl ⟨by simp, by simp; omega⟩ (by simp) hf hc K
theorem r_cS5I {a1 : aV} {a2 : aV} {a3 : aV} {a4 : aV} {a5 : aV} (hk : kd = 2 ∨ kd = 5) (hs : s.length ≤ 4) (hf : (az_args [a1, a2, a3, a4, a5]).length ≤ az_ml Mi.toNat) (hc : az_CI sc Mi.toNat [a1, a2, a3, a4, a5] m z m1) (K : az_E sc az_G M c l (.inl z :: s) m1 Q) : az_E sc az_G M ((pc, .invokestatic x, kd :: Mi :: 5 :: c0 :: q) :: c) l (a5 :: a4 :: a3 :: a2 :: a1 :: s) m Q := r_cS5 hk hs hf hc (fun v m' h => by obtain ⟨rfl, rfl⟩ := h; exact K)
theorem r_cS5L {a1 : aV} {a2 : aV} {a3 : aV} {a4 : aV} {a5 : aV} (hk : kd = 2 ∨ kd = 5) (hs : s.length ≤ 4) (hf : (az_args [a1, a2, a3, a4, a5]).length ≤ az_ml Mi.toNat) (hc : az_CL sc Mi.toNat [a1, a2, a3, a4, a5] m z m1) (K : az_E sc az_G M c l (.inr (.inl z) :: s) m1 Q) : az_E sc az_G M ((pc, .invokestatic x, kd :: Mi :: 5 :: c0 :: q) :: c) l (a5 :: a4 :: a3 :: a2 :: a1 :: s) m Q := r_cS5 hk hs hf hc (fun v m' h => by obtain ⟨rfl, rfl⟩ := h; exact K)
theorem r_cS5V {a1 : aV} {a2 : aV} {a3 : aV} {a4 : aV} {a5 : aV} (hk : kd = 2 ∨ kd = 5) (hs : s.length ≤ 4) (hf : (az_args [a1, a2, a3, a4, a5]).length ≤ az_ml Mi.toNat) (hc : az_CV sc Mi.toNat [a1, a2, a3, a4, a5] m m1) (K : az_E sc az_G M c l (s) m1 Q) : az_E sc az_G M ((pc, .invokestatic x, kd :: Mi :: 5 :: c0 :: q) :: c) l (a5 :: a4 :: a3 :: a2 :: a1 :: s) m Q := r_cS5 hk hs hf hc (fun v m' h => by obtain ⟨rfl, rfl⟩ := h; exact K)
theorem r_cS6 {a1 : aV} {a2 : aV} {a3 : aV} {a4 : aV} {a5 : aV} {a6 : aV} (hk : kd = 2 ∨ kd = 5) (hs : s.length ≤ 4) (hf : (az_args [a1, a2, a3, a4, a5, a6]).length ≤ az_ml Mi.toNat) (hc : az_C sc az_G Mi.toNat [a1, a2, a3, a4, a5, a6] m Qc) (K : ∀ v m', Qc v m' → az_E sc az_G M c l (v.toList ++ s) m' Q) : az_E sc az_G M ((pc, .invokestatic x, kd :: Mi :: 6 :: c0 :: q) :: c) l (a6 :: a5 :: a4 :: a3 :: a2 :: a1 :: s) m Q := r_callS [a1, a2, a3, a4, a5, a6] hk rfl ⟨by simp, by simp; omega⟩ (by simp) hf hc K
theorem r_cS6I {a1 : aV} {a2 : aV} {a3 : aV} {a4 : aV} {a5 : aV} {a6 : aV} (hk : kd = 2 ∨ kd = 5) (hs : s.length ≤ 4) (hf : (az_args [a1, a2, a3, a4, a5, a6]).length ≤ az_ml Mi.toNat) (hc : az_CI sc Mi.toNat [a1, a2, a3, a4, a5, a6] m z m1) (K : az_E sc az_G M c l (.inl z :: s) m1 Q) : az_E sc az_G M ((pc, .invokestatic x, kd :: Mi :: 6 :: c0 :: q) :: c) l (a6 :: a5 :: a4 :: a3 :: a2 :: a1 :: s) m Q := r_cS6 hk hs hf hc (fun v m' h => by obtain ⟨rfl, rfl⟩ := h; exact K)
theorem r_cS6L {a1 : aV} {a2 : aV} {a3 : aV} {a4 : aV} {a5 : aV} {a6 : aV} (hk : kd = 2 ∨ kd = 5) (hs : s.length ≤ 4) (hf : (az_args [a1, a2, a3, a4, a5, a6]).length ≤ az_ml Mi.toNat) (hc : az_CL sc Mi.toNat [a1, a2, a3, a4, a5, a6] m z m1) (K : az_E sc az_G M c l (.inr (.inl z) :: s) m1 Q) : az_E sc az_G M ((pc, .invokestatic x, kd :: Mi :: 6 :: c0 :: q) :: c) l (a6 :: a5 :: a4 :: a3 :: a2 :: a1 :: s) m Q := r_cS6 hk hs hf hc (fun v m' h => by obtain ⟨rfl, rfl⟩ := h; exact K)
theorem r_cS6V {a1 : aV} {a2 : aV} {a3 : aV} {a4 : aV} {a5 : aV} {a6 : aV} (hk : kd = 2 ∨ kd = 5) (hs : s.length ≤ 4) (hf : (az_args [a1, a2, a3, a4, a5, a6]).length ≤ az_ml Mi.toNat) (hc : az_CV sc Mi.toNat [a1, a2, a3, a4, a5, a6] m m1) (K : az_E sc az_G M c l (s) m1 Q) : az_E sc az_G M ((pc, .invokestatic x, kd :: Mi :: 6 :: c0 :: q) :: c) l (a6 :: a5 :: a4 :: a3 :: a2 :: a1 :: s) m Q := r_cS6 hk hs hf hc (fun v m' h => by obtain ⟨rfl, rfl⟩ := h; exact K)
theorem r_cV1 {a n2 tg r : Nat} {rs : List Nat}  (hg : az_G[a]? = some (tg, n2, rs)) (hr : a + 1 = r) (hs : s.length ≤ 4) (hf : (az_args [.inr (.inr r)]).length ≤ az_ml Mi.toNat) (hc : az_C sc az_G Mi.toNat [.inr (.inr r)] m Qc) (K : ∀ v m', Qc v m' → az_E sc az_G M c l (v.toList ++ s) m' Q) : az_E sc az_G M ((pc, .invokevirtual x, 1 :: Mi :: 1 :: (tg : Int) :: q) :: c) l (.inr (.inr r) :: s) m Q := by
  subst hr
  exact r_callV [.inr (.inr (a + 1))] rfl ⟨by simp, by simp; omega⟩ rfl hg (by simp) hf hc K
theorem r_cV1I {a n2 tg r : Nat} {rs : List Nat}  (hg : az_G[a]? = some (tg, n2, rs)) (hr : a + 1 = r) (hs : s.length ≤ 4) (hf : (az_args [.inr (.inr r)]).length ≤ az_ml Mi.toNat) (hc : az_CI sc Mi.toNat [.inr (.inr r)] m z m1) (K : az_E sc az_G M c l (.inl z :: s) m1 Q) : az_E sc az_G M ((pc, .invokevirtual x, 1 :: Mi :: 1 :: (tg : Int) :: q) :: c) l (.inr (.inr r) :: s) m Q := r_cV1 hg hr hs hf hc (fun v m' h => by obtain ⟨rfl, rfl⟩ := h; exact K)
theorem r_cV1L {a n2 tg r : Nat} {rs : List Nat}  (hg : az_G[a]? = some (tg, n2, rs)) (hr : a + 1 = r) (hs : s.length ≤ 4) (hf : (az_args [.inr (.inr r)]).length ≤ az_ml Mi.toNat) (hc : az_CL sc Mi.toNat [.inr (.inr r)] m z m1) (K : az_E sc az_G M c l (.inr (.inl z) :: s) m1 Q) : az_E sc az_G M ((pc, .invokevirtual x, 1 :: Mi :: 1 :: (tg : Int) :: q) :: c) l (.inr (.inr r) :: s) m Q := r_cV1 hg hr hs hf hc (fun v m' h => by obtain ⟨rfl, rfl⟩ := h; exact K)
theorem r_cV1V {a n2 tg r : Nat} {rs : List Nat}  (hg : az_G[a]? = some (tg, n2, rs)) (hr : a + 1 = r) (hs : s.length ≤ 4) (hf : (az_args [.inr (.inr r)]).length ≤ az_ml Mi.toNat) (hc : az_CV sc Mi.toNat [.inr (.inr r)] m m1) (K : az_E sc az_G M c l (s) m1 Q) : az_E sc az_G M ((pc, .invokevirtual x, 1 :: Mi :: 1 :: (tg : Int) :: q) :: c) l (.inr (.inr r) :: s) m Q := r_cV1 hg hr hs hf hc (fun v m' h => by obtain ⟨rfl, rfl⟩ := h; exact K)
theorem r_cV2 {a n2 tg r : Nat} {rs : List Nat} {a2 : aV} (hg : az_G[a]? = some (tg, n2, rs)) (hr : a + 1 = r) (hs : s.length ≤ 4) (hf : (az_args [.inr (.inr r), a2]).length ≤ az_ml Mi.toNat) (hc : az_C sc az_G Mi.toNat [.inr (.inr r), a2] m Qc) (K : ∀ v m', Qc v m' → az_E sc az_G M c l (v.toList ++ s) m' Q) : az_E sc az_G M ((pc, .invokevirtual x, 1 :: Mi :: 2 :: (tg : Int) :: q) :: c) l (a2 :: .inr (.inr r) :: s) m Q := by
  subst hr
  exact r_callV [.inr (.inr (a + 1)), a2] rfl ⟨by simp, by simp; omega⟩ rfl hg (by simp) hf hc K
theorem r_cV2I {a n2 tg r : Nat} {rs : List Nat} {a2 : aV} (hg : az_G[a]? = some (tg, n2, rs)) (hr : a + 1 = r) (hs : s.length ≤ 4) (hf : (az_args [.inr (.inr r), a2]).length ≤ az_ml Mi.toNat) (hc : az_CI sc Mi.toNat [.inr (.inr r), a2] m z m1) (K : az_E sc az_G M c l (.inl z :: s) m1 Q) : az_E sc az_G M ((pc, .invokevirtual x, 1 :: Mi :: 2 :: (tg : Int) :: q) :: c) l (a2 :: .inr (.inr r) :: s) m Q := r_cV2 hg hr hs hf hc (fun v m' h => by obtain ⟨rfl, rfl⟩ := h; exact K)
theorem r_cV2L {a n2 tg r : Nat} {rs : List Nat} {a2 : aV} (hg : az_G[a]? = some (tg, n2, rs)) (hr : a + 1 = r) (hs : s.length ≤ 4) (hf : (az_args [.inr (.inr r), a2]).length ≤ az_ml Mi.toNat) (hc : az_CL sc Mi.toNat [.inr (.inr r), a2] m z m1) (K : az_E sc az_G M c l (.inr (.inl z) :: s) m1 Q) : az_E sc az_G M ((pc, .invokevirtual x, 1 :: Mi :: 2 :: (tg : Int) :: q) :: c) l (a2 :: .inr (.inr r) :: s) m Q := r_cV2 hg hr hs hf hc (fun v m' h => by obtain ⟨rfl, rfl⟩ := h; exact K)
theorem r_cV2V {a n2 tg r : Nat} {rs : List Nat} {a2 : aV} (hg : az_G[a]? = some (tg, n2, rs)) (hr : a + 1 = r) (hs : s.length ≤ 4) (hf : (az_args [.inr (.inr r), a2]).length ≤ az_ml Mi.toNat) (hc : az_CV sc Mi.toNat [.inr (.inr r), a2] m m1) (K : az_E sc az_G M c l (s) m1 Q) : az_E sc az_G M ((pc, .invokevirtual x, 1 :: Mi :: 2 :: (tg : Int) :: q) :: c) l (a2 :: .inr (.inr r) :: s) m Q := r_cV2 hg hr hs hf hc (fun v m' h => by obtain ⟨rfl, rfl⟩ := h; exact K)
theorem r_cV3 {a n2 tg r : Nat} {rs : List Nat} {a2 : aV} {a3 : aV} (hg : az_G[a]? = some (tg, n2, rs)) (hr : a + 1 = r) (hs : s.length ≤ 4) (hf : (az_args [.inr (.inr r), a2, a3]).length ≤ az_ml Mi.toNat) (hc : az_C sc az_G Mi.toNat [.inr (.inr r), a2, a3] m Qc) (K : ∀ v m', Qc v m' → az_E sc az_G M c l (v.toList ++ s) m' Q) : az_E sc az_G M ((pc, .invokevirtual x, 1 :: Mi :: 3 :: (tg : Int) :: q) :: c) l (a3 :: a2 :: .inr (.inr r) :: s) m Q := by
  subst hr
  exact r_callV [.inr (.inr (a + 1)), a2, a3] rfl ⟨by simp, by simp; omega⟩ rfl hg (by simp) hf hc K
theorem r_cV3I {a n2 tg r : Nat} {rs : List Nat} {a2 : aV} {a3 : aV} (hg : az_G[a]? = some (tg, n2, rs)) (hr : a + 1 = r) (hs : s.length ≤ 4) (hf : (az_args [.inr (.inr r), a2, a3]).length ≤ az_ml Mi.toNat) (hc : az_CI sc Mi.toNat [.inr (.inr r), a2, a3] m z m1) (K : az_E sc az_G M c l (.inl z :: s) m1 Q) : az_E sc az_G M ((pc, .invokevirtual x, 1 :: Mi :: 3 :: (tg : Int) :: q) :: c) l (a3 :: a2 :: .inr (.inr r) :: s) m Q := r_cV3 hg hr hs hf hc (fun v m' h => by obtain ⟨rfl, rfl⟩ := h; exact K)
theorem r_cV3L {a n2 tg r : Nat} {rs : List Nat} {a2 : aV} {a3 : aV} (hg : az_G[a]? = some (tg, n2, rs)) (hr : a + 1 = r) (hs : s.length ≤ 4) (hf : (az_args [.inr (.inr r), a2, a3]).length ≤ az_ml Mi.toNat) (hc : az_CL sc Mi.toNat [.inr (.inr r), a2, a3] m z m1) (K : az_E sc az_G M c l (.inr (.inl z) :: s) m1 Q) : az_E sc az_G M ((pc, .invokevirtual x, 1 :: Mi :: 3 :: (tg : Int) :: q) :: c) l (a3 :: a2 :: .inr (.inr r) :: s) m Q := r_cV3 hg hr hs hf hc (fun v m' h => by obtain ⟨rfl, rfl⟩ := h; exact K)
theorem r_cV3V {a n2 tg r : Nat} {rs : List Nat} {a2 : aV} {a3 : aV} (hg : az_G[a]? = some (tg, n2, rs)) (hr : a + 1 = r) (hs : s.length ≤ 4) (hf : (az_args [.inr (.inr r), a2, a3]).length ≤ az_ml Mi.toNat) (hc : az_CV sc Mi.toNat [.inr (.inr r), a2, a3] m m1) (K : az_E sc az_G M c l (s) m1 Q) : az_E sc az_G M ((pc, .invokevirtual x, 1 :: Mi :: 3 :: (tg : Int) :: q) :: c) l (a3 :: a2 :: .inr (.inr r) :: s) m Q := r_cV3 hg hr hs hf hc (fun v m' h => by obtain ⟨rfl, rfl⟩ := h; exact K)
theorem r_cV4 {a n2 tg r : Nat} {rs : List Nat} {a2 : aV} {a3 : aV} {a4 : aV} (hg : az_G[a]? = some (tg, n2, rs)) (hr : a + 1 = r) (hs : s.length ≤ 4) (hf : (az_args [.inr (.inr r), a2, a3, a4]).length ≤ az_ml Mi.toNat) (hc : az_C sc az_G Mi.toNat [.inr (.inr r), a2, a3, a4] m Qc) (K : ∀ v m', Qc v m' → az_E sc az_G M c l (v.toList ++ s) m' Q) : az_E sc az_G M ((pc, .invokevirtual x, 1 :: Mi :: 4 :: (tg : Int) :: q) :: c) l (a4 :: a3 :: a2 :: .inr (.inr r) :: s) m Q := by
  subst hr
  exact r_callV [.inr (.inr (a + 1)), a2, a3, a4] rfl ⟨by simp, by simp; omega⟩ rfl hg (by simp) hf hc K
theorem r_cV4I {a n2 tg r : Nat} {rs : List Nat} {a2 : aV} {a3 : aV} {a4 : aV} (hg : az_G[a]? = some (tg, n2, rs)) (hr : a + 1 = r) (hs : s.length ≤ 4) (hf : (az_args [.inr (.inr r), a2, a3, a4]).length ≤ az_ml Mi.toNat) (hc : az_CI sc Mi.toNat [.inr (.inr r), a2, a3, a4] m z m1) (K : az_E sc az_G M c l (.inl z :: s) m1 Q) : az_E sc az_G M ((pc, .invokevirtual x, 1 :: Mi :: 4 :: (tg : Int) :: q) :: c) l (a4 :: a3 :: a2 :: .inr (.inr r) :: s) m Q := r_cV4 hg hr hs hf hc (fun v m' h => by obtain ⟨rfl, rfl⟩ := h; exact K)
theorem r_cV4L {a n2 tg r : Nat} {rs : List Nat} {a2 : aV} {a3 : aV} {a4 : aV} (hg : az_G[a]? = some (tg, n2, rs)) (hr : a + 1 = r) (hs : s.length ≤ 4) (hf : (az_args [.inr (.inr r), a2, a3, a4]).length ≤ az_ml Mi.toNat) (hc : az_CL sc Mi.toNat [.inr (.inr r), a2, a3, a4] m z m1) (K : az_E sc az_G M c l (.inr (.inl z) :: s) m1 Q) : az_E sc az_G M ((pc, .invokevirtual x, 1 :: Mi :: 4 :: (tg : Int) :: q) :: c) l (a4 :: a3 :: a2 :: .inr (.inr r) :: s) m Q := r_cV4 hg hr hs hf hc (fun v m' h => by obtain ⟨rfl, rfl⟩ := h; exact K)
theorem r_cV4V {a n2 tg r : Nat} {rs : List Nat} {a2 : aV} {a3 : aV} {a4 : aV} (hg : az_G[a]? = some (tg, n2, rs)) (hr : a + 1 = r) (hs : s.length ≤ 4) (hf : (az_args [.inr (.inr r), a2, a3, a4]).length ≤ az_ml Mi.toNat) (hc : az_CV sc Mi.toNat [.inr (.inr r), a2, a3, a4] m m1) (K : az_E sc az_G M c l (s) m1 Q) : az_E sc az_G M ((pc, .invokevirtual x, 1 :: Mi :: 4 :: (tg : Int) :: q) :: c) l (a4 :: a3 :: a2 :: .inr (.inr r) :: s) m Q := r_cV4 hg hr hs hf hc (fun v m' h => by obtain ⟨rfl, rfl⟩ := h; exact K)
theorem r_cV5 {a n2 tg r : Nat} {rs : List Nat} {a2 : aV} {a3 : aV} {a4 : aV} {a5 : aV} (hg : az_G[a]? = some (tg, n2, rs)) (hr : a + 1 = r) (hs : s.length ≤ 4) (hf : (az_args [.inr (.inr r), a2, a3, a4, a5]).length ≤ az_ml Mi.toNat) (hc : az_C sc az_G Mi.toNat [.inr (.inr r), a2, a3, a4, a5] m Qc) (K : ∀ v m', Qc v m' → az_E sc az_G M c l (v.toList ++ s) m' Q) : az_E sc az_G M ((pc, .invokevirtual x, 1 :: Mi :: 5 :: (tg : Int) :: q) :: c) l (a5 :: a4 :: a3 :: a2 :: .inr (.inr r) :: s) m Q := by
  subst hr
  exact r_callV [.inr (.inr (a + 1)), a2, a3, a4, a5] rfl ⟨by simp, by simp; omega⟩ rfl hg (by simp) hf hc K
theorem r_cV5I {a n2 tg r : Nat} {rs : List Nat} {a2 : aV} {a3 : aV} {a4 : aV} {a5 : aV} (hg : az_G[a]? = some (tg, n2, rs)) (hr : a + 1 = r) (hs : s.length ≤ 4) (hf : (az_args [.inr (.inr r), a2, a3, a4, a5]).length ≤ az_ml Mi.toNat) (hc : az_CI sc Mi.toNat [.inr (.inr r), a2, a3, a4, a5] m z m1) (K : az_E sc az_G M c l (.inl z :: s) m1 Q) : az_E sc az_G M ((pc, .invokevirtual x, 1 :: Mi :: 5 :: (tg : Int) :: q) :: c) l (a5 :: a4 :: a3 :: a2 :: .inr (.inr r) :: s) m Q := r_cV5 hg hr hs hf hc (fun v m' h => by obtain ⟨rfl, rfl⟩ := h; exact K)
theorem r_cV5L {a n2 tg r : Nat} {rs : List Nat} {a2 : aV} {a3 : aV} {a4 : aV} {a5 : aV} (hg : az_G[a]? = some (tg, n2, rs)) (hr : a + 1 = r) (hs : s.length ≤ 4) (hf : (az_args [.inr (.inr r), a2, a3, a4, a5]).length ≤ az_ml Mi.toNat) (hc : az_CL sc Mi.toNat [.inr (.inr r), a2, a3, a4, a5] m z m1) (K : az_E sc az_G M c l (.inr (.inl z) :: s) m1 Q) : az_E sc az_G M ((pc, .invokevirtual x, 1 :: Mi :: 5 :: (tg : Int) :: q) :: c) l (a5 :: a4 :: a3 :: a2 :: .inr (.inr r) :: s) m Q := r_cV5 hg hr hs hf hc (fun v m' h => by obtain ⟨rfl, rfl⟩ := h; exact K)
theorem r_cV5V {a n2 tg r : Nat} {rs : List Nat} {a2 : aV} {a3 : aV} {a4 : aV} {a5 : aV} (hg : az_G[a]? = some (tg, n2, rs)) (hr : a + 1 = r) (hs : s.length ≤ 4) (hf : (az_args [.inr (.inr r), a2, a3, a4, a5]).length ≤ az_ml Mi.toNat) (hc : az_CV sc Mi.toNat [.inr (.inr r), a2, a3, a4, a5] m m1) (K : az_E sc az_G M c l (s) m1 Q) : az_E sc az_G M ((pc, .invokevirtual x, 1 :: Mi :: 5 :: (tg : Int) :: q) :: c) l (a5 :: a4 :: a3 :: a2 :: .inr (.inr r) :: s) m Q := r_cV5 hg hr hs hf hc (fun v m' h => by obtain ⟨rfl, rfl⟩ := h; exact K)
theorem r_cV6 {a n2 tg r : Nat} {rs : List Nat} {a2 : aV} {a3 : aV} {a4 : aV} {a5 : aV} {a6 : aV} (hg : az_G[a]? = some (tg, n2, rs)) (hr : a + 1 = r) (hs : s.length ≤ 4) (hf : (az_args [.inr (.inr r), a2, a3, a4, a5, a6]).length ≤ az_ml Mi.toNat) (hc : az_C sc az_G Mi.toNat [.inr (.inr r), a2, a3, a4, a5, a6] m Qc) (K : ∀ v m', Qc v m' → az_E sc az_G M c l (v.toList ++ s) m' Q) : az_E sc az_G M ((pc, .invokevirtual x, 1 :: Mi :: 6 :: (tg : Int) :: q) :: c) l (a6 :: a5 :: a4 :: a3 :: a2 :: .inr (.inr r) :: s) m Q := by
  subst hr
  exact r_callV [.inr (.inr (a + 1)), a2, a3, a4, a5, a6] rfl ⟨by simp, by simp; omega⟩ rfl hg (by simp) hf hc K
theorem r_cV6I {a n2 tg r : Nat} {rs : List Nat} {a2 : aV} {a3 : aV} {a4 : aV} {a5 : aV} {a6 : aV} (hg : az_G[a]? = some (tg, n2, rs)) (hr : a + 1 = r) (hs : s.length ≤ 4) (hf : (az_args [.inr (.inr r), a2, a3, a4, a5, a6]).length ≤ az_ml Mi.toNat) (hc : az_CI sc Mi.toNat [.inr (.inr r), a2, a3, a4, a5, a6] m z m1) (K : az_E sc az_G M c l (.inl z :: s) m1 Q) : az_E sc az_G M ((pc, .invokevirtual x, 1 :: Mi :: 6 :: (tg : Int) :: q) :: c) l (a6 :: a5 :: a4 :: a3 :: a2 :: .inr (.inr r) :: s) m Q := r_cV6 hg hr hs hf hc (fun v m' h => by obtain ⟨rfl, rfl⟩ := h; exact K)
theorem r_cV6L {a n2 tg r : Nat} {rs : List Nat} {a2 : aV} {a3 : aV} {a4 : aV} {a5 : aV} {a6 : aV} (hg : az_G[a]? = some (tg, n2, rs)) (hr : a + 1 = r) (hs : s.length ≤ 4) (hf : (az_args [.inr (.inr r), a2, a3, a4, a5, a6]).length ≤ az_ml Mi.toNat) (hc : az_CL sc Mi.toNat [.inr (.inr r), a2, a3, a4, a5, a6] m z m1) (K : az_E sc az_G M c l (.inr (.inl z) :: s) m1 Q) : az_E sc az_G M ((pc, .invokevirtual x, 1 :: Mi :: 6 :: (tg : Int) :: q) :: c) l (a6 :: a5 :: a4 :: a3 :: a2 :: .inr (.inr r) :: s) m Q := r_cV6 hg hr hs hf hc (fun v m' h => by obtain ⟨rfl, rfl⟩ := h; exact K)
theorem r_cV6V {a n2 tg r : Nat} {rs : List Nat} {a2 : aV} {a3 : aV} {a4 : aV} {a5 : aV} {a6 : aV} (hg : az_G[a]? = some (tg, n2, rs)) (hr : a + 1 = r) (hs : s.length ≤ 4) (hf : (az_args [.inr (.inr r), a2, a3, a4, a5, a6]).length ≤ az_ml Mi.toNat) (hc : az_CV sc Mi.toNat [.inr (.inr r), a2, a3, a4, a5, a6] m m1) (K : az_E sc az_G M c l (s) m1 Q) : az_E sc az_G M ((pc, .invokevirtual x, 1 :: Mi :: 6 :: (tg : Int) :: q) :: c) l (a6 :: a5 :: a4 :: a3 :: a2 :: .inr (.inr r) :: s) m Q := r_cV6 hg hr hs hf hc (fun v m' h => by obtain ⟨rfl, rfl⟩ := h; exact K)
end CR
end
section
/-! SMALL METHODS of the reference -/
section SM
variable {sc : aX} {m : aM}
theorem az_cmp_lt (x y : Int) : az_cmp x y < 0 ↔ x < y := by unfold az_cmp; repeat' split <;> omega
theorem az_cmp_gt (x y : Int) : 0 < az_cmp x y ↔ y < x := by unfold az_cmp; repeat' split <;> omega
theorem az_cmp_eq (x y : Int) : az_cmp x y = 0 ↔ x = y := by unfold az_cmp; repeat' split <;> omega
theorem az_cmp_le (x y : Int) : az_cmp x y ≤ 0 ↔ x ≤ y := by unfold az_cmp; repeat' split <;> omega
theorem az_cmp_ge (x y : Int) : 0 ≤ az_cmp x y ↔ y ≤ x := by unfold az_cmp; repeat' split <;> omega
theorem c_X8_in (a b c : Int) : az_CI sc 15 [.inr (.inl a), .inr (.inl b), .inr (.inl c)] m ((if b ≤ a ∧ a ≤ c then 1 else 0)) (m) := by
  refine r_lload_n rfl ?_
  refine r_lload_n rfl ?_
  refine r_lcmp ?_
  refine r_if_lt kX8_in_17 (fun c1 => ?_) (fun c1 => ?_)
  · refine r_iconst ?_
    refine r_zret rfl (by omega) ?_
    refine ⟨?_, rfl⟩; simp only [az_cmp_lt, az_cmp_gt, az_cmp_le, az_cmp_ge] at *; first | rw [if_pos (by omega)] | rw [if_neg (by omega)]
  · refine r_lload_n rfl ?_
    refine r_lload rfl ?_
    refine r_lcmp ?_
    refine r_if_gt kX8_in_17 (fun c2 => ?_) (fun c2 => ?_)
    · refine r_iconst ?_
      refine r_zret rfl (by omega) ?_
      refine ⟨?_, rfl⟩; simp only [az_cmp_lt, az_cmp_gt, az_cmp_le, az_cmp_ge] at *; first | rw [if_pos (by omega)] | rw [if_neg (by omega)]
    · refine r_iconst ?_
      refine r_goto kX8_in_18 ?_
      refine r_zret rfl (by omega) ?_
      refine ⟨?_, rfl⟩; simp only [az_cmp_lt, az_cmp_gt, az_cmp_le, az_cmp_ge] at *; first | rw [if_pos (by omega)] | rw [if_neg (by omega)]
theorem c_X8_found (w : Int) : az_CI sc 17 [.inr (.inr 280), .inl w] m ((az_w (-1000010 - w))) (az_up m 279 3 w) := by
  refine r_aload_n rfl ?_
  refine r_iload_n rfl ?_
  refine r_putI g_279 (by decide) ?_
  refine r_ldcI ?_
  refine r_iload_n rfl ?_
  first | refine r_isub (az_wid (by omega) (by omega)) ?_ | refine r_isubw ?_
  refine r_iret rfl ?_
  exact ⟨rfl, rfl⟩
theorem c_X8_well (w : Int) : az_CI sc 18 [.inr (.inr 280), .inl w] m (w) (az_up m 279 3 0) := by
  refine r_aload_n rfl ?_
  refine r_iconst ?_
  refine r_putI g_279 (by decide) ?_
  refine r_iload_n rfl ?_
  refine r_iret rfl ?_
  exact ⟨rfl, rfl⟩
theorem c_X8_isRow (r : Int) : az_CI sc 16 [.inl r] m ((if 0 ≤ r ∧ r ≤ 7 then 1 else 0)) (m) := by
  refine r_iload_n rfl ?_
  refine r_i2l ?_
  refine r_lconst0 ?_
  refine r_ldc2 ?_
  refine r_cS3I (by decide) (Nat.le_of_ble_eq_true rfl) (Nat.le_of_ble_eq_true rfl) (c_X8_in _ _ _) ?_
  refine r_zret rfl (by omega) ?_
  exact ⟨rfl, rfl⟩
end SM
end
section
/-! LOOPS: a fold for a for -/
def az_fold {α : Type} (step : Int → α → α) : Nat → Int → α → α
  | 0, _, a => a
  | k + 1, g, a => az_fold step k (g + 1) (step g a)
theorem az_fold_cong {α : Type} {s1 s2 : Int → α → α} {lo hi : Int} (h : ∀ g a, lo ≤ g → g < hi → s1 g a = s2 g a) : ∀ (k : Nat) (g : Int) (a : α), lo ≤ g → g + k = hi → az_fold s1 k g a = az_fold s2 k g a
  | 0, _, _, _, _ => rfl
  | k + 1, g, a, h0, h1 => by
    show az_fold s1 k (g + 1) (s1 g a) = az_fold s2 k (g + 1) (s2 g a)
    rw [h g a h0 (by omega)]
    exact az_fold_cong h k (g + 1) _ (by omega) (by omega)
/-- what holds at the start and is kept, holds at the end -/
theorem az_fold_inv {α : Type} {step : Int → α → α} {hi : Int} (P : Int → α → Prop) (hs : ∀ g a, g < hi → P g a → P (g + 1) (step g a)) : ∀ (k : Nat) (g : Int) (a : α), g + k = hi → P g a → P hi (az_fold step k g a)
  | 0, g, a, h, hp => by
    have : g = hi := by omega
    subst this
    exact hp
  | k + 1, g, a, h, hp => az_fold_inv P hs k (g + 1) (step g a) (by omega) (hs g a (by omega) hp)
theorem az_for {sc : aX} {M : Nat} {c : aC} {α : Type} (loc : Int → α → aL) (mem : α → aM) (step : Int → α → α) (P : Int → α → Prop) (hi : Int) {Q : Option aV → aM → Prop} (hb : ∀ g a, g < hi → P g a → P (g + 1) (step g a) ∧ (az_E sc az_G M c (loc (g + 1) (step g a)) [] (mem (step g a)) Q → az_E sc az_G M c (loc g a) [] (mem a) Q)) : ∀ (k : Nat) (g : Int) (a : α), g + k = hi → P g a → (P hi (az_fold step k g a) → az_E sc az_G M c (loc hi (az_fold step k g a)) [] (mem (az_fold step k g a)) Q) → az_E sc az_G M c (loc g a) [] (mem a) Q
  | 0, g, a, h, hp, hK => by
    have : g = hi := by omega
    subst this
    exact hK hp
  | k + 1, g, a, h, hp, hK => by
    obtain ⟨h1, h2⟩ := hb g a (by omega) hp
    exact h2 (az_for loc mem step P hi hb k (g + 1) (step g a) (by omega) h1 hK)
/-- the same from 0 on -/
theorem az_for0 {sc : aX} {M : Nat} {c : aC} {α : Type} (loc : Int → α → aL) (mem : α → aM) (step : Int → α → α) (P : Int → α → Prop) (hi : Int) (a : α) {Q : Option aV → aM → Prop} (h0 : 0 ≤ hi) (hp : P 0 a) (hb : ∀ g a, g < hi → P g a → P (g + 1) (step g a) ∧ (az_E sc az_G M c (loc (g + 1) (step g a)) [] (mem (step g a)) Q → az_E sc az_G M c (loc g a) [] (mem a) Q)) (hK : P hi (az_fold step hi.toNat 0 a) → az_E sc az_G M c (loc hi (az_fold step hi.toNat 0 a)) [] (mem (az_fold step hi.toNat 0 a)) Q) : az_E sc az_G M c (loc 0 a) [] (mem a) Q :=
  az_for loc mem step P hi hb hi.toNat 0 a (by omega) hp hK
section LP
variable {sc : aX} {m : aM}
theorem az_upx (m : aM) (a : Nat) (i v : Int) : az_up m a i v a i = v := az_up_at m a i v
/-- the state of a beach is as it should be -/
def nOK (f : Int → Int) : Prop := (0 ≤ f 0 ∧ f 0 ≤ 2) ∧ (0 ≤ f 1 ∧ f 1 ≤ 9) ∧ (0 ≤ f 2 ∧ f 2 ≤ 4) ∧ (0 ≤ f 3 ∧ f 3 ≤ 999) ∧ (0 ≤ f 4 ∧ f 4 ≤ 6) ∧ (0 ≤ f 5 ∧ f 5 ≤ 63) ∧ (∀ h, 0 ≤ h → h < 6 → 0 ≤ f (6 + h) ∧ f (6 + h) ≤ 30) ∧
  (∀ g, 0 ≤ g → g < f 2 → (1 ≤ f (12 + g) ∧ f (12 + g) ≤ 5) ∧ (0 ≤ f (16 + g) ∧ f (16 + g) ≤ 20) ∧ (1 ≤ f (20 + g) ∧ f (20 + g) ≤ 6) ∧ (0 ≤ f (24 + g) ∧ f (24 + g) ≤ 9999) ∧ (0 ≤ f (28 + g) ∧ f (28 + g) ≤ 9999) ∧ (0 ≤ f (32 + g) ∧ f (32 + g) ≤ 1) ∧ (0 ≤ f (36 + g) ∧ f (36 + g) ≤ 6) ∧ (0 ≤ f (40 + g) ∧ f (40 + g) ≤ 1) ∧ (f (32 + g) = 0 → f (36 + g) = f 4))
def pBit (c h : Int) : Int := az_and (az_shr c h) 1
def pPrice (f : Int → Int) (h : Int) : Int := if pBit (f 5) h = 1 then (f (6 + h)).tdiv 2 else f (6 + h)
theorem pBit_01 (c h : Int) : pBit c h = 0 ∨ pBit c h = 1 := by
  unfold pBit az_and
  generalize Int32.ofInt (az_shr c h) = x
  have e : Int32.ofInt 1 = 1 := rfl
  rw [e]
  have h1 : (x &&& 1) = nI (x.toBitVec.toNat % 2 ^ 1) := pk_and x 1 rfl
  rw [h1]
  rcases Nat.mod_two_eq_zero_or_one x.toBitVec.toNat with h | h <;> simp only [Nat.pow_one, h]
  · exact Or.inl rfl
  · exact Or.inr rfl
theorem td2 {x : Int} (h : 0 ≤ x) : x.tdiv 2 = x / 2 := Int.tdiv_eq_ediv_of_nonneg h
/-- priceOf -/
theorem c_X8_priceOf (h : Int) (h0 : 0 ≤ h) (h1 : h < 6) (hp : 0 ≤ m 284 (6 + h) ∧ m 284 (6 + h) ≤ 30) : az_CI sc 85 [.inr (.inr 280), .inl h] m ((pPrice (m 284) h)) (m) := by
  refine r_aload_n rfl ?_
  refine r_getR g_279 rfl ?_
  refine r_iconst ?_
  refine r_iald g_284 rfl (by omega) (by omega) (by omega) ?_
  refine r_iload_n rfl ?_
  refine r_ishr rfl ?_
  refine r_iconst ?_
  refine r_iand rfl ?_
  refine r_iconst ?_
  refine r_icmp_ne kX8_priceOf_28 (fun c1 => ?_) (fun c1 => ?_)
  · refine r_aload_n rfl ?_
    refine r_getR g_279 rfl ?_
    refine r_bipush ?_
    refine r_iload_n rfl ?_
    first | refine r_iadd (az_wid (by omega) (by omega)) ?_ | refine r_iaddw ?_
    refine r_iald g_284 rfl (by omega) (by omega) (by omega) ?_
    refine r_iret rfl ?_
    refine ⟨?_, rfl⟩; unfold pPrice pBit; first | rw [if_neg c1] | rw [if_pos c1, az_wid (by rw [td2 hp.1]; omega) (by rw [td2 hp.1]; omega)]
  · refine r_aload_n rfl ?_
    refine r_getR g_279 rfl ?_
    refine r_bipush ?_
    refine r_iload_n rfl ?_
    first | refine r_iadd (az_wid (by omega) (by omega)) ?_ | refine r_iaddw ?_
    refine r_iald g_284 rfl (by omega) (by omega) (by omega) ?_
    refine r_iconst ?_
    refine r_idiv (by omega) rfl ?_
    refine r_goto kX8_priceOf_37 ?_
    refine r_iret rfl ?_
    refine ⟨?_, rfl⟩; unfold pPrice pBit; first | rw [if_neg c1] | rw [if_pos c1, az_wid (by rw [td2 hp.1]; omega) (by rw [td2 hp.1]; omega)]
theorem c_X8_isGuest (g : Int) (hN : 0 ≤ m 284 2 ∧ m 284 2 ≤ 4) : az_CI sc 89 [.inr (.inr 280), .inl g] m ((if 0 ≤ g ∧ g ≤ m 284 2 - 1 then 1 else 0)) (m) := by
  refine r_iload_n rfl ?_
  refine r_i2l ?_
  refine r_lconst0 ?_
  refine r_aload_n rfl ?_
  refine r_getR g_279 rfl ?_
  refine r_iconst ?_
  refine r_iald g_284 rfl (by omega) (by omega) (by omega) ?_
  refine r_iconst ?_
  first | refine r_isub (az_wid (by omega) (by omega)) ?_ | refine r_isubw ?_
  refine r_i2l ?_
  refine r_cS3I (by decide) (Nat.le_of_ble_eq_true rfl) (Nat.le_of_ble_eq_true rfl) (c_X8_in _ _ _) ?_
  refine r_zret rfl (by omega) ?_
  exact ⟨rfl, rfl⟩
end LP
end
section
/-! THE REFERENCE: rows, tape, what is asked -/
section R1
variable {sc : aX} {m : aM} {Q : Option aV → aM → Prop}
def pZero (m : aM) (row : Int) : aM := az_fold (fun k mm => az_up mm 282 (40 * row + k) 0) 40 0 m
def pRow (m : aM) (row lane n : Int) : Int × aM := if (0 ≤ row ∧ row ≤ 7) ∧ (0 ≤ lane ∧ lane ≤ 2) ∧ n ≤ 40 then (if n < 0 then (-1000014, az_up m 279 3 4) else (n, az_up (pZero (az_up (az_up m 280 row lane) 281 row n) row) 279 3 0)) else (-1000001, m)
theorem l_X8_row (row lane n : Int) (h : 0 ≤ row ∧ row ≤ 7) (K : az_E sc az_G 19 zX8_row_81 [some (.inr (.inr 280)), some (.inl row), some (.inl lane), some (.inl n), some (.inl 40)] [] (pZero m row) Q) : az_E sc az_G 19 zX8_row_55 [some (.inr (.inr 280)), some (.inl row), some (.inl lane), some (.inl n), some (.inl 0)] [] m Q := by
  refine az_for0 (α := aM) (fun k _ => [some (.inr (.inr 280)), some (.inl row), some (.inl lane), some (.inl n), some (.inl k)]) (fun a => a) (fun k mm => az_up mm 282 (40 * row + k) 0) (fun k _ => 0 ≤ k) 40 _ (by decide) (by decide) (fun k mm hk hp => ⟨by omega, fun hK => ?_⟩) (fun hp => ?_)
  · refine r_iload rfl ?_
    refine r_bipush ?_
    refine r_icmp_ge kX8_row_81 (fun c1 => absurd c1 (by omega)) (fun c1 => ?_)
    refine r_aload_n rfl ?_
    refine r_getR g_279 rfl ?_
    refine r_bipush ?_
    refine r_iload_n rfl ?_
    first | refine r_imul (az_wid (by omega) (by omega)) ?_ | refine r_imulw ?_
    refine r_iload rfl ?_
    first | refine r_iadd (az_wid (by omega) (by omega)) ?_ | refine r_iaddw ?_
    refine r_iconst ?_
    refine r_iast g_282 (by decide) (by omega) (by omega) ?_
    refine r_iinc rfl (az_wid (by omega) (by omega)) rfl ?_
    refine r_goto kX8_row_55 ?_
    exact hK
  · refine r_iload rfl ?_
    refine r_bipush ?_
    refine r_icmp_ge kX8_row_81 (fun c1 => ?_) (fun c1 => absurd c1 (by omega))
    exact K
theorem c_X8_row (row lane n : Int) : az_CI sc 19 [.inr (.inr 280), .inl row, .inl lane, .inl n] m (pRow m row lane n).1 (pRow m row lane n).2 := by
  refine r_iload_n rfl ?_
  refine r_cS1I (by decide) (Nat.le_of_ble_eq_true rfl) (Nat.le_of_ble_eq_true rfl) (c_X8_isRow _) ?_
  refine r_if_eq kX8_row_25 (fun c1 => ?_) (fun c1 => ?_)
  · refine r_ldcI ?_
    refine r_iret rfl ?_
    unfold pRow; (repeat' split) <;> first | exact ⟨rfl, rfl⟩ | (exfalso; omega)
  · refine r_iload_n rfl ?_
    refine r_i2l ?_
    refine r_lconst0 ?_
    refine r_ldc2 ?_
    refine r_cS3I (by decide) (Nat.le_of_ble_eq_true rfl) (Nat.le_of_ble_eq_true rfl) (c_X8_in _ _ _) ?_
    refine r_if_eq kX8_row_25 (fun c2 => ?_) (fun c2 => ?_)
    · refine r_ldcI ?_
      refine r_iret rfl ?_
      unfold pRow; (repeat' split) <;> first | exact ⟨rfl, rfl⟩ | (exfalso; omega)
    · refine r_iload_n rfl ?_
      refine r_bipush ?_
      refine r_icmp_le kX8_row_28 (fun c3 => ?_) (fun c3 => ?_)
      · refine r_iload_n rfl ?_
        refine r_if_ge kX8_row_38 (fun c4 => ?_) (fun c4 => ?_)
        · refine r_aload_n rfl ?_
          refine r_getR g_279 rfl ?_
          refine r_iload_n rfl ?_
          refine r_iload_n rfl ?_
          refine r_iast g_280 (by decide) (by omega) (by omega) ?_
          refine r_aload_n rfl ?_
          refine r_getR g_279 rfl ?_
          refine r_iload_n rfl ?_
          refine r_iload_n rfl ?_
          refine r_iast g_281 (by decide) (by omega) (by omega) ?_
          refine r_iconst ?_
          refine r_istore (Nat.le_of_ble_eq_true rfl) rfl ?_
          refine l_X8_row row lane n (by omega) ?_
          refine r_aload_n rfl ?_
          refine r_iload_n rfl ?_
          refine r_cV2I g_279 rfl (Nat.le_of_ble_eq_true rfl) (Nat.le_of_ble_eq_true rfl) (c_X8_well _) ?_
          refine r_iret rfl ?_
          unfold pRow; (repeat' split) <;> first | exact ⟨rfl, rfl⟩ | (exfalso; omega)
        · refine r_aload_n rfl ?_
          refine r_iconst ?_
          refine r_cV2I g_279 rfl (Nat.le_of_ble_eq_true rfl) (Nat.le_of_ble_eq_true rfl) (c_X8_found _) ?_
          refine r_iret rfl ?_
          unfold pRow; (repeat' split) <;> first | exact ⟨rfl, rfl⟩ | (exfalso; omega)
      · refine r_ldcI ?_
        refine r_iret rfl ?_
        unfold pRow; (repeat' split) <;> first | exact ⟨rfl, rfl⟩ | (exfalso; omega)
theorem c_X8_fault : az_CI sc 78 [.inr (.inr 280)] m (m 279 6) m := by
  refine r_aload_n rfl ?_
  refine r_getI g_279 ?_
  refine r_iret rfl ?_
  exact ⟨rfl, rfl⟩
theorem c_X8_status : az_CI sc 217 [.inr (.inr 280)] m (m 279 3) m := by
  refine r_aload_n rfl ?_
  refine r_getI g_279 ?_
  refine r_iret rfl ?_
  exact ⟨rfl, rfl⟩
end R1
end
section
/-! THE REFERENCE: set, copy, drop, feed; what is asked -/
section R2
variable {sc : aX} {m : aM} {Q : Option aV → aM → Prop}
def pNar (lane v : Int) : Int := if lane = 0 then az_i2b v else if lane = 1 then az_i2s v else v
def pSet (m : aM) (row i v : Int) : Int × aM := if 0 ≤ row ∧ row ≤ 7 then (if m 281 row < 0 then (-1000011, az_up m 279 3 1) else if 0 ≤ i ∧ i ≤ m 281 row - 1 then (pNar (m 280 row) v, az_up (az_up m 282 (40 * row + i) (pNar (m 280 row) v)) 279 3 0) else (-1000012, az_up m 279 3 2)) else (-1000001, m)
def pRowsOK (m : aM) : Prop := ∀ r, 0 ≤ r → r ≤ 7 → (-1 ≤ m 281 r ∧ m 281 r ≤ 40) ∧ (0 ≤ m 280 r ∧ m 280 r ≤ 2)
theorem c_X8_set (row i v : Int) (hR : pRowsOK m) : az_CI sc 24 [.inr (.inr 280), .inl row, .inl i, .inl v] m (pSet m row i v).1 (pSet m row i v).2 := by
  have hR2 : (0 ≤ row ∧ row ≤ 7) → (-1 ≤ m 281 row ∧ m 281 row ≤ 40) := fun h => (hR row h.1 h.2).1
  refine r_iload_n rfl ?_
  refine r_cS1I (by decide) (Nat.le_of_ble_eq_true rfl) (Nat.le_of_ble_eq_true rfl) (c_X8_isRow _) ?_
  refine r_if_ne kX8_set_10 (fun c1 => ?_) (fun c1 => ?_)
  · refine r_aload_n rfl ?_
    refine r_getR g_279 rfl ?_
    refine r_iload_n rfl ?_
    refine r_iald g_281 rfl (by omega) (by omega) (by omega) ?_
    refine r_if_ge kX8_set_25 (fun c2 => ?_) (fun c2 => ?_)
    · refine r_iload_n rfl ?_
      refine r_i2l ?_
      refine r_lconst0 ?_
      refine r_aload_n rfl ?_
      refine r_getR g_279 rfl ?_
      refine r_iload_n rfl ?_
      refine r_iald g_281 rfl (by omega) (by omega) (by omega) ?_
      refine r_iconst ?_
      first | refine r_isub (az_wid (by omega) (by omega)) ?_ | refine r_isubw ?_
      refine r_i2l ?_
      refine r_cS3I (by decide) (Nat.le_of_ble_eq_true rfl) (Nat.le_of_ble_eq_true rfl) (c_X8_in _ _ _) ?_
      refine r_if_ne kX8_set_49 (fun c3 => ?_) (fun c3 => ?_)
      · refine r_aload_n rfl ?_
        refine r_getR g_279 rfl ?_
        refine r_bipush ?_
        refine r_iload_n rfl ?_
        first | refine r_imul (az_wid (by omega) (by omega)) ?_ | refine r_imulw ?_
        refine r_iload_n rfl ?_
        first | refine r_iadd (az_wid (by omega) (by omega)) ?_ | refine r_iaddw ?_
        refine r_aload_n rfl ?_
        refine r_getR g_279 rfl ?_
        refine r_iload_n rfl ?_
        refine r_iald g_280 rfl (by omega) (by omega) (by omega) ?_
        refine r_if_ne kX8_set_73 (fun c4 => ?_) (fun c4 => ?_)
        · refine r_aload_n rfl ?_
          refine r_getR g_279 rfl ?_
          refine r_iload_n rfl ?_
          refine r_iald g_280 rfl (by omega) (by omega) (by omega) ?_
          refine r_iconst ?_
          refine r_icmp_ne kX8_set_88 (fun c5 => ?_) (fun c5 => ?_)
          · refine r_iload_n rfl ?_
            refine r_iast g_282 (by decide) (by omega) (by omega) ?_
            refine r_aload_n rfl ?_
            refine r_aload_n rfl ?_
            refine r_getR g_279 rfl ?_
            refine r_bipush ?_
            refine r_iload_n rfl ?_
            first | refine r_imul (az_wid (by omega) (by omega)) ?_ | refine r_imulw ?_
            refine r_iload_n rfl ?_
            first | refine r_iadd (az_wid (by omega) (by omega)) ?_ | refine r_iaddw ?_
            refine r_iald g_282 rfl (by omega) (by omega) (by omega) ?_
            refine r_cV2I g_279 rfl (Nat.le_of_ble_eq_true rfl) (Nat.le_of_ble_eq_true rfl) (c_X8_well _) ?_
            refine r_iret rfl ?_
            unfold pSet pNar; (repeat' split) <;> first | exact ⟨rfl, rfl⟩ | (exfalso; omega) | exact ⟨by rw [az_up_at], rfl⟩ | skip
          · refine r_iload_n rfl ?_
            refine r_i2s rfl ?_
            refine r_goto kX8_set_89 ?_
            refine r_iast g_282 (by decide) (by omega) (by omega) ?_
            refine r_aload_n rfl ?_
            refine r_aload_n rfl ?_
            refine r_getR g_279 rfl ?_
            refine r_bipush ?_
            refine r_iload_n rfl ?_
            first | refine r_imul (az_wid (by omega) (by omega)) ?_ | refine r_imulw ?_
            refine r_iload_n rfl ?_
            first | refine r_iadd (az_wid (by omega) (by omega)) ?_ | refine r_iaddw ?_
            refine r_iald g_282 rfl (by omega) (by omega) (by omega) ?_
            refine r_cV2I g_279 rfl (Nat.le_of_ble_eq_true rfl) (Nat.le_of_ble_eq_true rfl) (c_X8_well _) ?_
            refine r_iret rfl ?_
            unfold pSet pNar; (repeat' split) <;> first | exact ⟨rfl, rfl⟩ | (exfalso; omega) | exact ⟨by rw [az_up_at], rfl⟩ | skip
        · refine r_iload_n rfl ?_
          refine r_i2b rfl ?_
          refine r_goto kX8_set_89 ?_
          refine r_iast g_282 (by decide) (by omega) (by omega) ?_
          refine r_aload_n rfl ?_
          refine r_aload_n rfl ?_
          refine r_getR g_279 rfl ?_
          refine r_bipush ?_
          refine r_iload_n rfl ?_
          first | refine r_imul (az_wid (by omega) (by omega)) ?_ | refine r_imulw ?_
          refine r_iload_n rfl ?_
          first | refine r_iadd (az_wid (by omega) (by omega)) ?_ | refine r_iaddw ?_
          refine r_iald g_282 rfl (by omega) (by omega) (by omega) ?_
          refine r_cV2I g_279 rfl (Nat.le_of_ble_eq_true rfl) (Nat.le_of_ble_eq_true rfl) (c_X8_well _) ?_
          refine r_iret rfl ?_
          unfold pSet pNar; (repeat' split) <;> first | exact ⟨rfl, rfl⟩ | (exfalso; omega) | exact ⟨by rw [az_up_at], rfl⟩ | skip
      · refine r_aload_n rfl ?_
        refine r_iconst ?_
        refine r_cV2I g_279 rfl (Nat.le_of_ble_eq_true rfl) (Nat.le_of_ble_eq_true rfl) (c_X8_found _) ?_
        refine r_iret rfl ?_
        unfold pSet pNar; (repeat' split) <;> first | exact ⟨rfl, rfl⟩ | (exfalso; omega) | exact ⟨by rw [az_up_at], rfl⟩ | skip
    · refine r_aload_n rfl ?_
      refine r_iconst ?_
      refine r_cV2I g_279 rfl (Nat.le_of_ble_eq_true rfl) (Nat.le_of_ble_eq_true rfl) (c_X8_found _) ?_
      refine r_iret rfl ?_
      unfold pSet pNar; (repeat' split) <;> first | exact ⟨rfl, rfl⟩ | (exfalso; omega) | exact ⟨by rw [az_up_at], rfl⟩ | skip
  · refine r_ldcI ?_
    refine r_iret rfl ?_
    unfold pSet pNar; (repeat' split) <;> first | exact ⟨rfl, rfl⟩ | (exfalso; omega) | exact ⟨by rw [az_up_at], rfl⟩ | skip
def pDrop (m : aM) (row : Int) : Int × aM := if 0 ≤ row ∧ row ≤ 7 then (if m 281 row < 0 then (-1000011, az_up m 279 3 1) else (m 281 row, az_up (az_up m 281 row (-1)) 279 3 0)) else (-1000001, m)
theorem c_X8_drop (row : Int) : az_CI sc 29 [.inr (.inr 280), .inl row] m (pDrop m row).1 (pDrop m row).2 := by
  refine r_iload_n rfl ?_
  refine r_cS1I (by decide) (Nat.le_of_ble_eq_true rfl) (Nat.le_of_ble_eq_true rfl) (c_X8_isRow _) ?_
  refine r_if_ne kX8_drop_10 (fun c1 => ?_) (fun c1 => ?_)
  · refine r_aload_n rfl ?_
    refine r_getR g_279 rfl ?_
    refine r_iload_n rfl ?_
    refine r_iald g_281 rfl (by omega) (by omega) (by omega) ?_
    refine r_if_ge kX8_drop_25 (fun c2 => ?_) (fun c2 => ?_)
    · refine r_aload_n rfl ?_
      refine r_getR g_279 rfl ?_
      refine r_iload_n rfl ?_
      refine r_iald g_281 rfl (by omega) (by omega) (by omega) ?_
      refine r_istore_n (Nat.le_of_ble_eq_true rfl) rfl ?_
      refine r_aload_n rfl ?_
      refine r_getR g_279 rfl ?_
      refine r_iload_n rfl ?_
      refine r_iconst ?_
      refine r_iast g_281 (by decide) (by omega) (by omega) ?_
      refine r_aload_n rfl ?_
      refine r_iload_n rfl ?_
      refine r_cV2I g_279 rfl (Nat.le_of_ble_eq_true rfl) (Nat.le_of_ble_eq_true rfl) (c_X8_well _) ?_
      refine r_iret rfl ?_
      unfold pDrop; (repeat' split) <;> first | exact ⟨rfl, rfl⟩ | (exfalso; omega)
    · refine r_aload_n rfl ?_
      refine r_iconst ?_
      refine r_cV2I g_279 rfl (Nat.le_of_ble_eq_true rfl) (Nat.le_of_ble_eq_true rfl) (c_X8_found _) ?_
      refine r_iret rfl ?_
      unfold pDrop; (repeat' split) <;> first | exact ⟨rfl, rfl⟩ | (exfalso; omega)
  · refine r_ldcI ?_
    refine r_iret rfl ?_
    unfold pDrop; (repeat' split) <;> first | exact ⟨rfl, rfl⟩ | (exfalso; omega)
theorem c_X8_kind (g : Int) (hN : 0 ≤ m 284 2 ∧ m 284 2 ≤ 4) : az_CI sc 183 [.inr (.inr 280), .inl g] m (if 0 ≤ g ∧ g ≤ m 284 2 - 1 then m 284 (12 + g) else -1000001) m := by
  refine r_aload_n rfl ?_
  refine r_iload_n rfl ?_
  refine r_cV2I g_279 rfl (Nat.le_of_ble_eq_true rfl) (Nat.le_of_ble_eq_true rfl) (c_X8_isGuest _ hN) ?_
  refine r_if_eq kX8_kind_20 (fun c1 => ?_) (fun c1 => ?_)
  · refine r_ldcI ?_
    refine r_iret rfl ?_
    (repeat' split) <;> first | exact ⟨rfl, rfl⟩ | (exfalso; omega)
  · refine r_aload_n rfl ?_
    refine r_getR g_279 rfl ?_
    refine r_bipush ?_
    refine r_iload_n rfl ?_
    first | refine r_iadd (az_wid (by omega) (by omega)) ?_ | refine r_iaddw ?_
    refine r_iald g_284 rfl (by omega) (by omega) (by omega) ?_
    refine r_goto kX8_kind_22 ?_
    refine r_iret rfl ?_
    (repeat' split) <;> first | exact ⟨rfl, rfl⟩ | (exfalso; omega)
theorem c_X8_price (h : Int) (hZ : 0 ≤ m 279 7 ∧ m 279 7 ≤ 1) (hp : ∀ h, 0 ≤ h → h < 6 → 0 ≤ m 284 (6 + h) ∧ m 284 (6 + h) ≤ 30) : az_CI sc 127 [.inr (.inr 280), .inl h] m (if m 279 7 = 0 then -1000002 else if 0 ≤ h ∧ h ≤ 5 then pPrice (m 284) h else -1000001) m := by
  refine r_aload_n rfl ?_
  refine r_getZ g_279 ?_
  refine r_if_ne kX8_price_12 (fun c1 => ?_) (fun c1 => ?_)
  · refine r_iload_n rfl ?_
    refine r_i2l ?_
    refine r_lconst0 ?_
    refine r_ldc2 ?_
    refine r_cS3I (by decide) (Nat.le_of_ble_eq_true rfl) (Nat.le_of_ble_eq_true rfl) (c_X8_in _ _ _) ?_
    refine r_if_eq kX8_price_32 (fun c2 => ?_) (fun c2 => ?_)
    · refine r_ldcI ?_
      refine r_iret rfl ?_
      (repeat' split) <;> first | exact ⟨rfl, rfl⟩ | (exfalso; omega)
    · refine r_aload_n rfl ?_
      refine r_iload_n rfl ?_
      refine r_cV2I g_279 rfl (Nat.le_of_ble_eq_true rfl) (Nat.le_of_ble_eq_true rfl) (c_X8_priceOf _ (by omega) (by omega) (hp _ (by omega) (by omega))) ?_
      refine r_goto kX8_price_34 ?_
      refine r_iret rfl ?_
      (repeat' split) <;> first | exact ⟨rfl, rfl⟩ | (exfalso; omega)
  · refine r_ldcI ?_
    refine r_goto kX8_price_34 ?_
    refine r_iret rfl ?_
    (repeat' split) <;> first | exact ⟨rfl, rfl⟩ | (exfalso; omega)
theorem c_X8_trace (i : Int) (hT : 0 ≤ m 279 13 ∧ m 279 13 ≤ 16) : az_CI sc 210 [.inr (.inr 280), .inl i] m (if 0 ≤ i ∧ i ≤ m 279 13 - 1 then m 288 i else -1000000) m := by
  refine r_iload_n rfl ?_
  refine r_i2l ?_
  refine r_lconst0 ?_
  refine r_aload_n rfl ?_
  refine r_getI g_279 ?_
  refine r_iconst ?_
  first | refine r_isub (az_wid (by omega) (by omega)) ?_ | refine r_isubw ?_
  refine r_i2l ?_
  refine r_cS3I (by decide) (Nat.le_of_ble_eq_true rfl) (Nat.le_of_ble_eq_true rfl) (c_X8_in _ _ _) ?_
  refine r_if_eq kX8_trace_25 (fun c1 => ?_) (fun c1 => ?_)
  · refine r_ldcI ?_
    refine r_iret rfl ?_
    (repeat' split) <;> first | exact ⟨rfl, rfl⟩ | (exfalso; omega)
  · refine r_aload_n rfl ?_
    refine r_getR g_279 rfl ?_
    refine r_iload_n rfl ?_
    refine r_iald g_288 rfl (by omega) (by omega) (by omega) ?_
    refine r_goto kX8_trace_27 ?_
    refine r_iret rfl ?_
    (repeat' split) <;> first | exact ⟨rfl, rfl⟩ | (exfalso; omega)
def pGuest (f : Int → Int) (g w : Int) : Int := if (0 ≤ g ∧ g ≤ f 2 - 1) ∧ (0 ≤ w ∧ w ≤ 6) then (if w = 0 then f (16 + g) else if w = 1 then f (24 + g) else if w = 2 then f (20 + g) else if w = 3 then 1 - f (32 + g) else if w = 4 then f (36 + g) else if w = 5 then f (40 + g) else f (28 + g)) else -1000001
theorem c_X8_guest (g w : Int) (hN : nOK (m 284)) : az_CI sc 125 [.inr (.inr 280), .inl g, .inl w] m (pGuest (m 284) g w) m := by
  have hN2 : 0 ≤ m 284 2 ∧ m 284 2 ≤ 4 := hN.2.2.1
  have hN3 : (0 ≤ g ∧ g ≤ m 284 2 - 1) → 0 ≤ m 284 (32 + g) ∧ m 284 (32 + g) ≤ 1 := fun h => (hN.2.2.2.2.2.2.2 g h.1 (by omega)).2.2.2.2.2.1
  clear hN
  refine r_aload_n rfl ?_
  refine r_iload_n rfl ?_
  refine r_cV2I g_279 rfl (Nat.le_of_ble_eq_true rfl) (Nat.le_of_ble_eq_true rfl) (c_X8_isGuest _ hN2) ?_
  refine r_if_eq kX8_guest_20 (fun c1 => ?_) (fun c1 => ?_)
  · refine r_ldcI ?_
    refine r_iret rfl ?_
    unfold pGuest; (repeat' split) <;> first | exact ⟨rfl, rfl⟩ | (exfalso; omega)
  · refine r_iload_n rfl ?_
    refine r_i2l ?_
    refine r_lconst0 ?_
    refine r_ldc2 ?_
    refine r_cS3I (by decide) (Nat.le_of_ble_eq_true rfl) (Nat.le_of_ble_eq_true rfl) (c_X8_in _ _ _) ?_
    refine r_if_ne kX8_guest_23 (fun c2 => ?_) (fun c2 => ?_)
    · refine r_iload_n rfl ?_
      rcases (show w = 0 ∨ w = 1 ∨ w = 2 ∨ w = 3 ∨ w = 4 ∨ w = 5 ∨ (w < 0 ∨ 5 < w) by omega) with hs_ | hs_ | hs_ | hs_ | hs_ | hs_ | hs_
      · subst hs_
        refine r_tswI (by decide) rfl kX8_guest_64 ?_
        refine r_aload_n rfl ?_
        refine r_getR g_279 rfl ?_
        refine r_bipush ?_
        refine r_iload_n rfl ?_
        first | refine r_iadd (az_wid (by omega) (by omega)) ?_ | refine r_iaddw ?_
        refine r_iald g_284 rfl (by omega) (by omega) (by omega) ?_
        refine r_iret rfl ?_
        unfold pGuest; (repeat' split) <;> first | exact ⟨rfl, rfl⟩ | (exfalso; omega)
      · subst hs_
        refine r_tswI (by decide) rfl kX8_guest_74 ?_
        refine r_aload_n rfl ?_
        refine r_getR g_279 rfl ?_
        refine r_bipush ?_
        refine r_iload_n rfl ?_
        first | refine r_iadd (az_wid (by omega) (by omega)) ?_ | refine r_iaddw ?_
        refine r_iald g_284 rfl (by omega) (by omega) (by omega) ?_
        refine r_iret rfl ?_
        unfold pGuest; (repeat' split) <;> first | exact ⟨rfl, rfl⟩ | (exfalso; omega)
      · subst hs_
        refine r_tswI (by decide) rfl kX8_guest_84 ?_
        refine r_aload_n rfl ?_
        refine r_getR g_279 rfl ?_
        refine r_bipush ?_
        refine r_iload_n rfl ?_
        first | refine r_iadd (az_wid (by omega) (by omega)) ?_ | refine r_iaddw ?_
        refine r_iald g_284 rfl (by omega) (by omega) (by omega) ?_
        refine r_iret rfl ?_
        unfold pGuest; (repeat' split) <;> first | exact ⟨rfl, rfl⟩ | (exfalso; omega)
      · subst hs_
        refine r_tswI (by decide) rfl kX8_guest_94 ?_
        refine r_iconst ?_
        refine r_aload_n rfl ?_
        refine r_getR g_279 rfl ?_
        refine r_bipush ?_
        refine r_iload_n rfl ?_
        first | refine r_iadd (az_wid (by omega) (by omega)) ?_ | refine r_iaddw ?_
        refine r_iald g_284 rfl (by omega) (by omega) (by omega) ?_
        first | refine r_isub (az_wid (by omega) (by omega)) ?_ | refine r_isubw ?_
        refine r_iret rfl ?_
        unfold pGuest; (repeat' split) <;> first | exact ⟨rfl, rfl⟩ | (exfalso; omega)
      · subst hs_
        refine r_tswI (by decide) rfl kX8_guest_106 ?_
        refine r_aload_n rfl ?_
        refine r_getR g_279 rfl ?_
        refine r_bipush ?_
        refine r_iload_n rfl ?_
        first | refine r_iadd (az_wid (by omega) (by omega)) ?_ | refine r_iaddw ?_
        refine r_iald g_284 rfl (by omega) (by omega) (by omega) ?_
        refine r_iret rfl ?_
        unfold pGuest; (repeat' split) <;> first | exact ⟨rfl, rfl⟩ | (exfalso; omega)
      · subst hs_
        refine r_tswI (by decide) rfl kX8_guest_116 ?_
        refine r_aload_n rfl ?_
        refine r_getR g_279 rfl ?_
        refine r_bipush ?_
        refine r_iload_n rfl ?_
        first | refine r_iadd (az_wid (by omega) (by omega)) ?_ | refine r_iaddw ?_
        refine r_iald g_284 rfl (by omega) (by omega) (by omega) ?_
        refine r_iret rfl ?_
        unfold pGuest; (repeat' split) <;> first | exact ⟨rfl, rfl⟩ | (exfalso; omega)
      · refine r_tswO hs_ kX8_guest_126 ?_
        refine r_aload_n rfl ?_
        refine r_getR g_279 rfl ?_
        refine r_bipush ?_
        refine r_iload_n rfl ?_
        first | refine r_iadd (az_wid (by omega) (by omega)) ?_ | refine r_iaddw ?_
        refine r_iald g_284 rfl (by omega) (by omega) (by omega) ?_
        refine r_iret rfl ?_
        unfold pGuest; (repeat' split) <;> first | exact ⟨rfl, rfl⟩ | (exfalso; omega)
    · refine r_ldcI ?_
      refine r_iret rfl ?_
      unfold pGuest; (repeat' split) <;> first | exact ⟨rfl, rfl⟩ | (exfalso; omega)
end R2
end
section
/-! RULES 2: loads by a told value, divisions, loops by what holds -/
section RU2
variable {sc : aX} {g : aG} {M pc : Nat} {f : List Int} {c c' : aC} {l l' : aL} {s s' : aS} {m m' : aM} {Q : Option aV → aM → Prop} {i : Instr}
theorem r_ialdx {a n r : Nat} {rs : List Nat} {j v : Int} (hg : g[a]? = some (20, n, rs)) (hr : a + 1 = r) (ha : a ≠ 0) (h0 : 0 ≤ j) (h1 : j < (n : Int)) (hv : m a j = v) (K : az_E sc g M c l (.inl v :: s) m Q) : az_E sc g M ((pc, .iaload, f) :: c) l (.inl j :: .inr (.inr r) :: s) m Q := by
  subst hv
  exact r_iald hg hr ha h0 h1 K
theorem r_baldx {a t n r : Nat} {rs : List Nat} {j v : Int} (hg : g[a]? = some (t, n, rs)) (hr : a + 1 = r) (ha : a ≠ 0) (ht : t = 21 ∨ t = 22) (h0 : 0 ≤ j) (h1 : j < (n : Int)) (hv : m a j = v) (K : az_E sc g M c l (.inl v :: s) m Q) : az_E sc g M ((pc, .baload, f) :: c) l (.inl j :: .inr (.inr r) :: s) m Q := by
  subst hv
  exact r_bald hg hr ha ht h0 h1 K
theorem r_getIx {a tg n x : Nat} {rs : List Nat} {k v : Int} {q : List Int} (hg : g[a]? = some (tg, n, rs)) (hv : m a k = v) (K : az_E sc g M c l (.inl v :: s) m Q) : az_E sc g M ((pc, .getfield x, (tg : Int) :: k :: 0 :: q) :: c) l (.inr (.inr (a + 1)) :: s) m Q := by
  subst hv
  exact r_getI hg K
theorem r_getZx {a tg n x : Nat} {rs : List Nat} {k v : Int} {q : List Int} (hg : g[a]? = some (tg, n, rs)) (hv : m a k = v) (K : az_E sc g M c l (.inl v :: s) m Q) : az_E sc g M ((pc, .getfield x, (tg : Int) :: k :: 3 :: q) :: c) l (.inr (.inr (a + 1)) :: s) m Q := by
  subst hv
  exact r_getZ hg K
theorem r_getLx {a tg n x : Nat} {rs : List Nat} {k v : Int} {q : List Int} (hg : g[a]? = some (tg, n, rs)) (hv : m a k = v) (K : az_E sc g M c l (.inr (.inl v) :: s) m Q) : az_E sc g M ((pc, .getfield x, (tg : Int) :: k :: 1 :: q) :: c) l (.inr (.inr (a + 1)) :: s) m Q := by
  subst hv
  exact r_getL hg K
theorem az_divn {x y : Int} (h0 : 0 ≤ x) (h1 : x < 2147483648) (hy : 0 < y) : az_w (x.tdiv y) = x / y := by
  rw [Int.tdiv_eq_ediv_of_nonneg h0]
  have h2 : 0 ≤ x / y := Int.ediv_nonneg h0 (by omega)
  have h3 : x / y ≤ x := Int.ediv_le_self y h0
  exact az_wid (by omega) (by omega)
theorem az_modn {x y : Int} (h0 : 0 ≤ x) : x.tmod y = x % y := Int.tmod_eq_emod_of_nonneg h0
theorem az_mulb {x y X Y : Int} (h0 : 0 ≤ x) (h1 : x ≤ X) (h2 : 0 ≤ y) (h3 : y ≤ Y) : 0 ≤ x * y ∧ x * y ≤ X * Y :=
  ⟨Int.mul_nonneg h0 h2, Int.mul_le_mul h1 h3 h2 (by omega)⟩
theorem az_mulw {x y : Int} (h0 : 0 ≤ x) (h1 : x ≤ 30000) (h2 : 0 ≤ y) (h3 : y ≤ 30000) : az_w (x * y) = x * y := by
  have := az_mulb h0 h1 h2 h3
  exact az_wid (by omega) (by omega)
theorem az_Em {m1 m2 : aM} (h : m1 = m2) (K : az_E sc g M c l s m2 Q) : az_E sc g M c l s m1 Q := by
  subst h
  exact K
theorem az_El {l1 l2 : aL} (h : l1 = l2) (K : az_E sc g M c l2 s m Q) : az_E sc g M c l1 s m Q := by
  subst h
  exact K
/-- a loop, by what holds at its head -/
theorem az_lop {c : aC} {α : Type} (loc : Int → α → aL) (mem : α → aM) (P : Int → α → Prop) (lo hi : Int) (a : α) (h0 : lo ≤ hi) (hp : P lo a) (hb : ∀ g a, lo ≤ g → g < hi → P g a → (∀ a', P (g + 1) a' → az_E sc az_G M c (loc (g + 1) a') [] (mem a') Q) → az_E sc az_G M c (loc g a) [] (mem a) Q) (hK : ∀ a, P hi a → az_E sc az_G M c (loc hi a) [] (mem a) Q) : az_E sc az_G M c (loc lo a) [] (mem a) Q := by
  have H : ∀ (k : Nat) (g : Int) (a : α), lo ≤ g → g + k = hi → P g a → az_E sc az_G M c (loc g a) [] (mem a) Q := by
    intro k
    induction k with
    | zero =>
      intro g a _ h hp
      have : g = hi := by omega
      subst this
      exact hK a hp
    | succ k ih =>
      intro g a h1 h hp
      exact hb g a h1 (by omega) hp (fun a' hp' => ih (g + 1) a' (by omega) (by omega) hp')
  exact H (hi - lo).toNat lo a (by omega) (by omega) hp
/-- a loop that goes down -/
theorem az_dwn {c : aC} {α : Type} (loc : Int → α → aL) (mem : α → aM) (P : Int → α → Prop) (hi : Int) (a : α) (h0 : -1 ≤ hi) (hp : P hi a) (hb : ∀ g a, 0 ≤ g → g ≤ hi → P g a → (∀ a', P (g - 1) a' → az_E sc az_G M c (loc (g - 1) a') [] (mem a') Q) → az_E sc az_G M c (loc g a) [] (mem a) Q) (hK : ∀ a, P (-1) a → az_E sc az_G M c (loc (-1) a) [] (mem a) Q) : az_E sc az_G M c (loc hi a) [] (mem a) Q := by
  have H : ∀ (k : Nat) (g : Int) (a : α), g ≤ hi → g = k - 1 → P g a → az_E sc az_G M c (loc g a) [] (mem a) Q := by
    intro k
    induction k with
    | zero =>
      intro g a _ h hp
      have : g = -1 := by omega
      subst this
      exact hK a hp
    | succ k ih =>
      intro g a h1 h hp
      exact hb g a (by omega) h1 hp (fun a' hp' => ih (g - 1) a' (by omega) (by omega) hp')
  exact H (hi + 1).toNat hi a (by omega) (by omega) hp
end RU2
/-- a fold up to a bound -/
def az_F {α : Type} (s : Int → α → α) (a : α) (k : Int) : α := az_fold s k.toNat 0 a
theorem az_fold_snoc {α : Type} (s : Int → α → α) : ∀ (k : Nat) (g : Int) (a : α), az_fold s (k + 1) g a = s (g + k) (az_fold s k g a)
  | 0, g, a => by simp [az_fold]
  | k + 1, g, a => by
    show az_fold s (k + 1) (g + 1) (s g a) = _
    rw [az_fold_snoc s k (g + 1) (s g a)]
    show s (g + 1 + k) (az_fold s (k + 1) g a) = _
    congr 1
    omega
theorem az_F0 {α : Type} (s : Int → α → α) (a : α) : az_F s a 0 = a := rfl
theorem az_FS {α : Type} (s : Int → α → α) (a : α) {k : Int} (h : 0 ≤ k) : az_F s a (k + 1) = s k (az_F s a k) := by
  unfold az_F
  have e : (k + 1).toNat = k.toNat + 1 := by omega
  rw [e, az_fold_snoc]
  congr 1
  omega
theorem az_Fcong {α : Type} {s1 s2 : Int → α → α} {a : α} {k : Int} (h : ∀ g a, 0 ≤ g → g < k → s1 g a = s2 g a) (hk : 0 ≤ k) : az_F s1 a k = az_F s2 a k := by
  unfold az_F
  exact az_fold_cong (lo := 0) (hi := k) h k.toNat 0 a (by omega) (by omega)
theorem az_Finv {α : Type} {s : Int → α → α} {a : α} (P : Int → α → Prop) {k : Int} (h0 : 0 ≤ k) (hp : P 0 a) (hs : ∀ g a, 0 ≤ g → g < k → P g a → P (g + 1) (s g a)) : P k (az_F s a k) := by
  have H : ∀ n : Nat, (n : Int) ≤ k → P n (az_F s a n) := by
    intro n
    induction n with
    | zero => intro _; exact hp
    | succ n ih =>
      intro h
      have e : ((n + 1 : Nat) : Int) = (n : Int) + 1 := by omega
      rw [e, az_FS s a (by omega)]
      exact hs n _ (by omega) (by omega) (ih (by omega))
  have := H k.toNat (by omega)
  have e : ((k.toNat : Nat) : Int) = k := by omega
  rwa [e] at this
/-- a cell's places, all at once -/
def az_set (m : aM) (b : Nat) (F : Int → Int) : aM := fun b' => if b' = b then F else m b'
def up1 (F : Int → Int) (i v : Int) : Int → Int := fun j => if j = i then v else F j
theorem az_us (m : aM) (b : Nat) (F : Int → Int) (i v : Int) : az_up (az_set m b F) b i v = az_set m b (up1 F i v) := by
  funext b' j
  simp only [az_up, az_set]
  by_cases h : b' = b
  · subst h
    simp [up1]
  · simp [h]
theorem az_us0 (m : aM) (b : Nat) (i v : Int) : az_up m b i v = az_set m b (up1 (m b) i v) := by
  funext b' j
  simp only [az_up, az_set]
  by_cases h : b' = b
  · subst h
    simp [up1]
  · simp [h]
theorem az_ss (m : aM) (b : Nat) (F G : Int → Int) : az_set (az_set m b F) b G = az_set m b G := by
  funext b'
  simp only [az_set]
  split <;> rfl
theorem az_s0 (m : aM) (b : Nat) : az_set m b (m b) = m := by
  funext b'
  simp only [az_set]
  split
  · next h => rw [h]
  · rfl
theorem az_sx (m : aM) {b d : Nat} (h : b ≠ d) (F G : Int → Int) : az_set (az_set m b F) d G = az_set (az_set m d G) b F := by
  funext b'
  simp only [az_set]
  by_cases h1 : b' = b
  · subst h1
    simp [h]
  · simp [h1]
theorem up1_at (F : Int → Int) (i v : Int) : up1 F i v i = v := by simp [up1]
theorem up1_ne (F : Int → Int) {i j : Int} (v : Int) (h : j ≠ i) : up1 F i v j = F j := by simp [up1, h]
theorem up1_up (F : Int → Int) (i v w : Int) : up1 (up1 F i v) i w = up1 F i w := by
  funext j
  simp only [up1]
  split <;> rfl
theorem up1_id (F : Int → Int) (i : Int) : up1 F i (F i) = F := by
  funext j
  simp only [up1]
  split
  · next h => rw [h]
  · rfl
theorem up1_eq {F : Int → Int} {i v j x : Int} (h1 : j = i → v = x) (h2 : j ≠ i → F j = x) : up1 F i v j = x := by
  unfold up1
  split
  · next h => exact h1 h
  · next h => exact h2 h
end
section
/-! THE REFERENCE: kinds, debts, images, acts -/
section R3
variable {sc : aX} {m : aM} {Q : Option aV → aM → Prop}
def pIsOf (own kind : Int) : Int := if kind = 0 ∨ own = kind ∨ (kind = 1 ∧ (own = 2 ∨ own = 3)) ∨ (kind = 4 ∧ own = 5) then 1 else 0
theorem c_X8_isOf (own kind : Int) : az_CI sc 186 [.inl own, .inl kind] m (pIsOf own kind) m := by
  refine r_iload_n rfl ?_
  refine r_if_eq kX8_isOf_34 (fun c1 => ?_) (fun c1 => ?_)
  · refine r_iconst ?_
    refine r_goto kX8_isOf_39 ?_
    refine r_zret rfl (by omega) ?_
    unfold pIsOf; (repeat' split) <;> first | exact ⟨rfl, rfl⟩ | (exfalso; omega)
  · refine r_iload_n rfl ?_
    refine r_iload_n rfl ?_
    refine r_icmp_eq kX8_isOf_34 (fun c2 => ?_) (fun c2 => ?_)
    · refine r_iconst ?_
      refine r_goto kX8_isOf_39 ?_
      refine r_zret rfl (by omega) ?_
      unfold pIsOf; (repeat' split) <;> first | exact ⟨rfl, rfl⟩ | (exfalso; omega)
    · refine r_iload_n rfl ?_
      refine r_iconst ?_
      refine r_icmp_ne kX8_isOf_24 (fun c3 => ?_) (fun c3 => ?_)
      · refine r_iload_n rfl ?_
        refine r_iconst ?_
        refine r_icmp_ne kX8_isOf_38 (fun c4 => ?_) (fun c4 => ?_)
        · refine r_iconst ?_
          refine r_zret rfl (by omega) ?_
          unfold pIsOf; (repeat' split) <;> first | exact ⟨rfl, rfl⟩ | (exfalso; omega)
        · refine r_iload_n rfl ?_
          refine r_iconst ?_
          refine r_icmp_ne kX8_isOf_38 (fun c5 => ?_) (fun c5 => ?_)
          · refine r_iconst ?_
            refine r_zret rfl (by omega) ?_
            unfold pIsOf; (repeat' split) <;> first | exact ⟨rfl, rfl⟩ | (exfalso; omega)
          · refine r_iconst ?_
            refine r_goto kX8_isOf_39 ?_
            refine r_zret rfl (by omega) ?_
            unfold pIsOf; (repeat' split) <;> first | exact ⟨rfl, rfl⟩ | (exfalso; omega)
      · refine r_iload_n rfl ?_
        refine r_iconst ?_
        refine r_icmp_eq kX8_isOf_34 (fun c6 => ?_) (fun c6 => ?_)
        · refine r_iconst ?_
          refine r_goto kX8_isOf_39 ?_
          refine r_zret rfl (by omega) ?_
          unfold pIsOf; (repeat' split) <;> first | exact ⟨rfl, rfl⟩ | (exfalso; omega)
        · refine r_iload_n rfl ?_
          refine r_iconst ?_
          refine r_icmp_eq kX8_isOf_34 (fun c7 => ?_) (fun c7 => ?_)
          · refine r_iconst ?_
            refine r_goto kX8_isOf_39 ?_
            refine r_zret rfl (by omega) ?_
            unfold pIsOf; (repeat' split) <;> first | exact ⟨rfl, rfl⟩ | (exfalso; omega)
          · refine r_iload_n rfl ?_
            refine r_iconst ?_
            refine r_icmp_ne kX8_isOf_38 (fun c8 => ?_) (fun c8 => ?_)
            · refine r_iconst ?_
              refine r_zret rfl (by omega) ?_
              unfold pIsOf; (repeat' split) <;> first | exact ⟨rfl, rfl⟩ | (exfalso; omega)
            · refine r_iload_n rfl ?_
              refine r_iconst ?_
              refine r_icmp_ne kX8_isOf_38 (fun c9 => ?_) (fun c9 => ?_)
              · refine r_iconst ?_
                refine r_zret rfl (by omega) ?_
                unfold pIsOf; (repeat' split) <;> first | exact ⟨rfl, rfl⟩ | (exfalso; omega)
              · refine r_iconst ?_
                refine r_goto kX8_isOf_39 ?_
                refine r_zret rfl (by omega) ?_
                unfold pIsOf; (repeat' split) <;> first | exact ⟨rfl, rfl⟩ | (exfalso; omega)
def pAs (m : aM) (g kind : Int) : Int × aM := if (0 ≤ g ∧ g ≤ m 284 2 - 1) ∧ (0 ≤ kind ∧ kind ≤ 5) then (if pIsOf (m 284 (12 + g)) kind = 0 then (-1000013, az_up m 279 3 3) else (g, az_up m 279 3 0)) else (-1000001, m)
theorem c_X8_as (g kind : Int) (hN : 0 ≤ m 284 2 ∧ m 284 2 ≤ 4) : az_CI sc 187 [.inr (.inr 280), .inl g, .inl kind] m (pAs m g kind).1 (pAs m g kind).2 := by
  refine r_aload_n rfl ?_
  refine r_iload_n rfl ?_
  refine r_cV2I g_279 rfl (Nat.le_of_ble_eq_true rfl) (Nat.le_of_ble_eq_true rfl) (c_X8_isGuest _ hN) ?_
  refine r_if_eq kX8_as_20 (fun c1 => ?_) (fun c1 => ?_)
  · refine r_ldcI ?_
    refine r_iret rfl ?_
    unfold pAs; (repeat' split) <;> first | exact ⟨rfl, rfl⟩ | (exfalso; omega)
  · refine r_iload_n rfl ?_
    refine r_i2l ?_
    refine r_lconst0 ?_
    refine r_ldc2 ?_
    refine r_cS3I (by decide) (Nat.le_of_ble_eq_true rfl) (Nat.le_of_ble_eq_true rfl) (c_X8_in _ _ _) ?_
    refine r_if_ne kX8_as_23 (fun c2 => ?_) (fun c2 => ?_)
    · refine r_aload_n rfl ?_
      refine r_getR g_279 rfl ?_
      refine r_bipush ?_
      refine r_iload_n rfl ?_
      first | refine r_iadd (az_wid (by omega) (by omega)) ?_ | refine r_iaddw ?_
      refine r_iald g_284 rfl (by omega) (by omega) (by omega) ?_
      refine r_iload_n rfl ?_
      refine r_cS2I (by decide) (Nat.le_of_ble_eq_true rfl) (Nat.le_of_ble_eq_true rfl) (c_X8_isOf _ _) ?_
      refine r_if_eq kX8_as_47 (fun c3 => ?_) (fun c3 => ?_)
      · refine r_aload_n rfl ?_
        refine r_iconst ?_
        refine r_cV2I g_279 rfl (Nat.le_of_ble_eq_true rfl) (Nat.le_of_ble_eq_true rfl) (c_X8_found _) ?_
        refine r_iret rfl ?_
        unfold pAs; (repeat' split) <;> first | exact ⟨rfl, rfl⟩ | (exfalso; omega)
      · refine r_aload_n rfl ?_
        refine r_iload_n rfl ?_
        refine r_cV2I g_279 rfl (Nat.le_of_ble_eq_true rfl) (Nat.le_of_ble_eq_true rfl) (c_X8_well _) ?_
        refine r_goto kX8_as_52 ?_
        refine r_iret rfl ?_
        unfold pAs; (repeat' split) <;> first | exact ⟨rfl, rfl⟩ | (exfalso; omega)
    · refine r_ldcI ?_
      refine r_iret rfl ?_
      unfold pAs; (repeat' split) <;> first | exact ⟨rfl, rfl⟩ | (exfalso; omega)
def pLeast (v : Int) : Int := if v < 9999 then v else 9999
theorem c_X8_least (v : Int) : az_CI sc 119 [.inl v] m (pLeast v) m := by
  refine r_iload_n rfl ?_
  refine r_sipush ?_
  refine r_icmp_ge kX8_least_11 (fun c1 => ?_) (fun c1 => ?_)
  · refine r_sipush ?_
    refine r_iret rfl ?_
    unfold pLeast; (repeat' split) <;> first | exact ⟨rfl, rfl⟩ | (exfalso; omega)
  · refine r_iload_n rfl ?_
    refine r_goto kX8_least_14 ?_
    refine r_iret rfl ?_
    unfold pLeast; (repeat' split) <;> first | exact ⟨rfl, rfl⟩ | (exfalso; omega)
theorem az_fold_cp (m : aM) {a d : Nat} (had : a ≠ d) (i j : Int) : ∀ (k : Nat) (g : Int), 0 ≤ g → az_fold (fun k mm => az_up mm d (j + k) (mm a (i + k))) k g (az_cp m a i d j g) = az_cp m a i d j (g + k)
  | 0, g, _ => by simp [az_fold]
  | k + 1, g, hg => by
    show az_fold _ k (g + 1) (az_up (az_cp m a i d j g) d (j + g) (az_cp m a i d j g a (i + g))) = _
    have e : az_up (az_cp m a i d j g) d (j + g) (az_cp m a i d j g a (i + g)) = az_cp m a i d j (g + 1) := by
      funext b x
      simp only [az_up, az_cp, had, false_and, if_false]
      by_cases hb : b = d
      · subst hb
        by_cases hx : x = j + g
        · subst hx
          rw [if_pos ⟨rfl, rfl⟩, if_pos ⟨rfl, by omega, by omega⟩]
          congr 1
          omega
        · rw [if_neg (fun q => hx q.2)]
          by_cases h2 : j ≤ x ∧ x < j + g
          · rw [if_pos ⟨rfl, h2.1, h2.2⟩, if_pos ⟨rfl, by omega, by omega⟩]
          · rw [if_neg (fun q => h2 q.2), if_neg (by omega)]
      · rw [if_neg (fun q => hb q.1), if_neg (fun q => hb q.1), if_neg (fun q => hb q.1)]
    rw [e, az_fold_cp m had i j k (g + 1) (by omega)]
    congr 1
    omega
theorem az_cp_0 (m : aM) (a d : Nat) (i j : Int) : az_cp m a i d j 0 = m := by
  funext b x
  simp only [az_cp]
  rw [if_neg (by omega)]
theorem l_X8_copies {a d na nd : Nat} {ra rd : List Nat} (hA_0 : az_G[a]? = some (20, na, ra)) (hD_0 : az_G[d]? = some (20, nd, rd)) (ha : 19 ≤ a) (hd : 19 ≤ d) (had : a ≠ d) (i j : Int) (hi : 0 ≤ i ∧ i + 44 ≤ na ∧ i ≤ 10000) (hj : 0 ≤ j ∧ j + 44 ≤ nd ∧ j ≤ 10000) : az_CV sc 75 [.inr (.inr (a + 1)), .inl i, .inr (.inr (d + 1)), .inl j] m (az_cp m a i d j 44) := by
  refine r_iconst ?_
  refine r_istore (Nat.le_of_ble_eq_true rfl) rfl ?_
  refine az_for0 (α := aM) (fun k _ => [some (.inr (.inr (a + 1))), some (.inl i), some (.inr (.inr (d + 1))), some (.inl j), some (.inl k)]) (fun a => a) (fun k mm => az_up mm d (j + k) (mm a (i + k))) (fun k _ => 0 ≤ k) 44 _ (by decide) (by decide) (fun k mm hk hp => ⟨by omega, fun hK => ?_⟩) (fun hp => ?_)
  · refine r_iload rfl ?_
    refine r_bipush ?_
    refine r_icmp_ge kX8_copies_28 (fun c1 => absurd c1 (by omega)) (fun c1 => ?_)
    refine r_aload_n rfl ?_
    refine r_iload_n rfl ?_
    refine r_iload rfl ?_
    first | refine r_iadd (az_wid (by omega) (by omega)) ?_ | refine r_iaddw ?_
    refine r_aload_n rfl ?_
    refine r_iload_n rfl ?_
    refine r_iload rfl ?_
    first | refine r_iadd (az_wid (by omega) (by omega)) ?_ | refine r_iaddw ?_
    refine r_iald hA_0 rfl (by omega) (by omega) (by omega) ?_
    refine r_iast hD_0 (by omega) (by omega) (by omega) ?_
    refine r_iinc rfl (az_wid (by omega) (by omega)) rfl ?_
    refine r_goto kX8_copies_3 ?_
    exact hK
  · refine r_iload rfl ?_
    refine r_bipush ?_
    refine r_icmp_ge kX8_copies_28 (fun c1 => ?_) (fun c1 => absurd c1 (by omega))
    refine r_vret rfl ?_
    refine ⟨rfl, ?_⟩; have := az_fold_cp m had i j 44 0 (by decide); rw [az_cp_0] at this; exact this
theorem l_X8_owes (g n d0 : Int) (hn : 0 ≤ n ∧ n ≤ 60) (hd0 : 0 ≤ d0 ∧ d0 ≤ 9999) (K : az_E sc az_G 177 zX8_owes_58 [some (.inr (.inr 280)), some (.inl g), some (.inl n), some (.inl (az_fold (fun _ d => pLeast (d + d / 10)) n.toNat 0 d0)), some (.inl n)] [] m Q) : az_E sc az_G 177 zX8_owes_36 [some (.inr (.inr 280)), some (.inl g), some (.inl n), some (.inl d0), some (.inl 0)] [] m Q := by
  have h10 : ∀ d : Int, 0 ≤ d → d.tdiv 10 = d / 10 := fun d hd => Int.tdiv_eq_ediv_of_nonneg hd
  refine az_for0 (α := Int) (fun k d => [some (.inr (.inr 280)), some (.inl g), some (.inl n), some (.inl d), some (.inl k)]) (fun _ => m) (fun _ d => pLeast (d + d / 10)) (fun k d => 0 ≤ k ∧ 0 ≤ d ∧ d ≤ 9999) n _ (by omega) ⟨by decide, hd0⟩ (fun k d hk hp => ⟨⟨by omega, by unfold pLeast; split <;> omega⟩, fun hK => ?_⟩) (fun hp => ?_)
  · refine r_iload rfl ?_
    refine r_iload_n rfl ?_
    refine r_icmp_ge kX8_owes_58 (fun c1 => absurd c1 (by omega)) (fun c1 => ?_)
    refine r_iload_n rfl ?_
    refine r_iload_n rfl ?_
    refine r_bipush ?_
    first | refine r_idiv (by omega) (az_divn (by omega) (by omega) (by omega)) ?_ | refine r_idiv (by omega) rfl ?_
    first | refine r_iadd (az_wid (by omega) (by omega)) ?_ | refine r_iaddw ?_
    refine r_cS1I (by decide) (Nat.le_of_ble_eq_true rfl) (Nat.le_of_ble_eq_true rfl) (c_X8_least _) ?_
    refine r_istore_n (Nat.le_of_ble_eq_true rfl) rfl ?_
    refine r_iinc rfl (az_wid (by omega) (by omega)) rfl ?_
    refine r_goto kX8_owes_36 ?_
    exact hK
  · refine r_iload rfl ?_
    refine r_iload_n rfl ?_
    refine r_icmp_ge kX8_owes_58 (fun c1 => ?_) (fun c1 => absurd c1 (by omega))
    exact K
theorem c_X8_owes (g n : Int) (hN : 0 ≤ m 284 2 ∧ m 284 2 ≤ 4) (hD : ∀ g, 0 ≤ g → g < m 284 2 → 0 ≤ m 284 (28 + g) ∧ m 284 (28 + g) ≤ 9999) : az_CI sc 177 [.inr (.inr 280), .inl g, .inl n] m (if (0 ≤ g ∧ g ≤ m 284 2 - 1) ∧ (0 ≤ n ∧ n ≤ 60) then az_fold (fun _ d => pLeast (d + d / 10)) n.toNat 0 (m 284 (28 + g)) else -1000001) m := by
  have hD2 : (0 ≤ g ∧ g ≤ m 284 2 - 1) → 0 ≤ m 284 (28 + g) ∧ m 284 (28 + g) ≤ 9999 := fun h => hD g h.1 (by omega)
  refine r_aload_n rfl ?_
  refine r_iload_n rfl ?_
  refine r_cV2I g_279 rfl (Nat.le_of_ble_eq_true rfl) (Nat.le_of_ble_eq_true rfl) (c_X8_isGuest _ hN) ?_
  refine r_if_eq kX8_owes_20 (fun c1 => ?_) (fun c1 => ?_)
  · refine r_ldcI ?_
    refine r_iret rfl ?_
    (repeat' split) <;> first | exact ⟨rfl, rfl⟩ | (exfalso; omega)
  · refine r_iload_n rfl ?_
    refine r_i2l ?_
    refine r_lconst0 ?_
    refine r_ldc2 ?_
    refine r_cS3I (by decide) (Nat.le_of_ble_eq_true rfl) (Nat.le_of_ble_eq_true rfl) (c_X8_in _ _ _) ?_
    refine r_if_ne kX8_owes_23 (fun c2 => ?_) (fun c2 => ?_)
    · refine r_aload_n rfl ?_
      refine r_getR g_279 rfl ?_
      refine r_bipush ?_
      refine r_iload_n rfl ?_
      first | refine r_iadd (az_wid (by omega) (by omega)) ?_ | refine r_iaddw ?_
      refine r_iald g_284 rfl (by omega) (by omega) (by omega) ?_
      refine r_istore_n (Nat.le_of_ble_eq_true rfl) rfl ?_
      refine r_iconst ?_
      refine r_istore (Nat.le_of_ble_eq_true rfl) rfl ?_
      refine l_X8_owes g n _ (by omega) (hD2 (by omega)) ?_
      refine r_iload_n rfl ?_
      refine r_iret rfl ?_
      (repeat' split) <;> first | exact ⟨rfl, rfl⟩ | (exfalso; omega)
    · refine r_ldcI ?_
      refine r_iret rfl ?_
      (repeat' split) <;> first | exact ⟨rfl, rfl⟩ | (exfalso; omega)
end R3
end
section
/-! PURE: what a day costs and is worth -/
def tOK (f t : Int → Int) : Prop := ∀ g, 0 ≤ g → g < f 2 → 0 ≤ t g ∧ t g ≤ 6
def cOK (c : Int → Int) : Prop := ∀ h, 0 ≤ h → h < 6 → 0 ≤ c h ∧ c h ≤ 30
theorem nOK_2 {f : Int → Int} (h : nOK f) : 0 ≤ f 2 ∧ f 2 ≤ 4 := h.2.2.1
theorem nOK_1 {f : Int → Int} (h : nOK f) : 0 ≤ f 1 ∧ f 1 ≤ 9 := h.2.1
theorem nOK_0 {f : Int → Int} (h : nOK f) : 0 ≤ f 0 ∧ f 0 ≤ 2 := h.1
theorem nOK_3 {f : Int → Int} (h : nOK f) : 0 ≤ f 3 ∧ f 3 ≤ 999 := h.2.2.2.1
theorem nOK_4 {f : Int → Int} (h : nOK f) : 0 ≤ f 4 ∧ f 4 ≤ 6 := h.2.2.2.2.1
theorem nOK_5 {f : Int → Int} (h : nOK f) : 0 ≤ f 5 ∧ f 5 ≤ 63 := h.2.2.2.2.2.1
theorem nOK_p {f : Int → Int} (h : nOK f) : ∀ h, 0 ≤ h → h < 6 → 0 ≤ f (6 + h) ∧ f (6 + h) ≤ 30 := h.2.2.2.2.2.2.1
theorem nOK_g {f : Int → Int} (h : nOK f) : ∀ g, 0 ≤ g → g < f 2 → (1 ≤ f (12 + g) ∧ f (12 + g) ≤ 5) ∧ (0 ≤ f (16 + g) ∧ f (16 + g) ≤ 20) ∧ (1 ≤ f (20 + g) ∧ f (20 + g) ≤ 6) ∧ (0 ≤ f (24 + g) ∧ f (24 + g) ≤ 9999) ∧ (0 ≤ f (28 + g) ∧ f (28 + g) ≤ 9999) ∧ (0 ≤ f (32 + g) ∧ f (32 + g) ≤ 1) ∧ (0 ≤ f (36 + g) ∧ f (36 + g) ≤ 6) ∧ (0 ≤ f (40 + g) ∧ f (40 + g) ≤ 1) ∧ (f (32 + g) = 0 → f (36 + g) = f 4) := h.2.2.2.2.2.2.2
def pHeads (f : Int → Int) (g : Int) : Int := if f (12 + g) = 5 then 2 else 1
def pCnt (f t : Int → Int) (l k : Int) : Int := az_F (fun g a => if l < t g then a + pHeads f g else a) 0 k
def pLong (f t : Int → Int) : Int := az_F (fun g a => if a < t g then t g else a) 0 (f 2)
def pBill (c : Int → Int) (l : Int) : Int := az_F (fun h a => a + c h) 0 l
/-- a part of k heads, where so many heads are ahead -/
def pMore (S all ahead k : Int) : Int := if S % all - ahead < 0 then 0 else if k < S % all - ahead then k else S % all - ahead
def pAlk (f t : Int → Int) (S l g : Int) : Int := if l < t g then S / pCnt f t l (f 2) * pHeads f g + pMore S (pCnt f t l (f 2)) (pCnt f t l g) (pHeads f g) else 0
def pWgt (f t : Int → Int) (k : Int) : Int := az_F (fun g a => a + t g * pHeads f g) 0 k
def pLft (f t : Int → Int) (S k : Int) : Int := az_F (fun g a => a - S * t g * pHeads f g / pWgt f t (f 2)) S k
def pFst (t : Int → Int) (L k : Int) : Int := az_F (fun g a => if a = -1000000 ∧ t g = L then g else a) (-1000000) k
def pByW (f t : Int → Int) (S L g : Int) : Int := if pWgt f t (f 2) = 0 then 0 else S * t g * pHeads f g / pWgt f t (f 2) + (if g = pFst t L (f 2) then pLft f t S (f 2) else 0)
def pByH (f t c : Int → Int) (g k : Int) : Int := az_F (fun h a => a + pAlk f t (c h) h g) 0 k
def pShr (f t c : Int → Int) (sp g : Int) : Int := if sp = 0 then pAlk f t (pBill c (pLong f t)) (pLong f t - 1) g else if sp = 1 then pByW f t (pBill c (pLong f t)) (pLong f t) g else pByH f t c g (t g)
def pPay (f t c : Int → Int) (sp g : Int) : Int := pShr f t c sp g + (if f (40 + g) = 1 then f 1 * t g else 0)
def pOth (f t : Int → Int) (g h k : Int) : Int := az_F (fun o a => if o ≠ g ∧ h < t o then a + 1 else a) 0 k
def pJ0 (f : Int → Int) (g h : Int) : Int := if f (40 + g) = 1 then f (16 + g) / 2 else if f (20 + g) ≤ h then - f (16 + g) else f (16 + g)
def pJoyA (f : Int → Int) (g h : Int) : Int := if f (12 + g) = 3 ∧ h ≤ 2 then 2 * pJ0 f g h else pJ0 f g h
def pComp (f : Int → Int) (g : Int) : Int := if f (12 + g) = 2 then 1 else if f (12 + g) = 4 ∨ f (12 + g) = 5 then -1 else 0
def pJoy (f t : Int → Int) (g h : Int) : Int := pJoyA f g h + pOth f t g h (f 2) * pComp f g
def pJoys (f t : Int → Int) (g k : Int) : Int := az_F (fun h a => a + pJoy f t g h) 0 k
def pWor (f t c : Int → Int) (sp g : Int) : Int := pJoys f t g (t g) - pPay f t c sp g
def pW (f t c : Int → Int) (sp g n : Int) : Int := pWor f (up1 t g n) c sp g
def pBstK (f t c : Int → Int) (sp g k : Int) : Int := az_F (fun n b => if n = 0 ∨ pW f t c sp g b < pW f t c sp g n then n else b) 0 k
def pBst (f t c : Int → Int) (sp g : Int) : Int := pBstK f t c sp g 7
def pCon (f t c : Int → Int) (sp g : Int) : Prop := ∀ n, 0 ≤ n → n < 7 → pW f t c sp g n ≤ pWor f t c sp g
theorem pHeads_b (f : Int → Int) (g : Int) : 1 ≤ pHeads f g ∧ pHeads f g ≤ 2 := by
  unfold pHeads
  split <;> omega
theorem pCnt_S (f t : Int → Int) (l : Int) {k : Int} (h : 0 ≤ k) : pCnt f t l (k + 1) = if l < t k then pCnt f t l k + pHeads f k else pCnt f t l k := az_FS _ _ h
theorem pCnt_b (f t : Int → Int) (l : Int) {k : Int} (h : 0 ≤ k) : 0 ≤ pCnt f t l k ∧ pCnt f t l k ≤ 2 * k := by
  refine az_Finv (fun k a => 0 ≤ a ∧ a ≤ 2 * k) h (by omega) (fun g a h0 h1 hp => ?_)
  have := pHeads_b f g
  split <;> omega
theorem pCnt_m (f t : Int → Int) (l : Int) {i k : Int} (h : 0 ≤ i) (hk : i ≤ k) : pCnt f t l i ≤ pCnt f t l k := by
  have H : ∀ n : Nat, pCnt f t l i ≤ pCnt f t l (i + n) := by
    intro n
    induction n with
    | zero => simp
    | succ n ih =>
      have e : i + ((n + 1 : Nat) : Int) = (i + n) + 1 := by omega
      rw [e, pCnt_S f t l (by omega)]
      have := pHeads_b f (i + n)
      split <;> omega
  have := H (k - i).toNat
  have e : i + ((k - i).toNat : Int) = k := by omega
  rwa [e] at this
/-- one who is there is counted -/
theorem pCnt_in (f t : Int → Int) (l : Int) {g k : Int} (h : 0 ≤ g) (hk : g < k) (hl : l < t g) : pCnt f t l g + pHeads f g ≤ pCnt f t l k := by
  have h1 := pCnt_m f t l (i := g + 1) (k := k) (by omega) (by omega)
  rw [pCnt_S f t l h, if_pos hl] at h1
  exact h1
theorem pLong_k (t : Int → Int) {k : Int} (hk : 0 ≤ k) (ht : ∀ g, 0 ≤ g → g < k → 0 ≤ t g ∧ t g ≤ 6) : (0 ≤ az_F (fun g a => if a < t g then t g else a) 0 k ∧ az_F (fun g a => if a < t g then t g else a) 0 k ≤ 6) ∧ (∀ g, 0 ≤ g → g < k → t g ≤ az_F (fun g a => if a < t g then t g else a) 0 k) ∧ (az_F (fun g a => if a < t g then t g else a) 0 k = 0 ∨ ∃ g, 0 ≤ g ∧ g < k ∧ t g = az_F (fun g a => if a < t g then t g else a) 0 k) := by
  refine az_Finv (s := fun g a => if a < t g then t g else a) (a := (0 : Int)) (fun k a => (0 ≤ a ∧ a ≤ 6) ∧ (∀ g, 0 ≤ g → g < k → t g ≤ a) ∧ (a = 0 ∨ ∃ g, 0 ≤ g ∧ g < k ∧ t g = a)) hk ⟨by omega, fun g _ _ => by omega, Or.inl rfl⟩ (fun g a h0 h1 hp => ?_)
  have hg := ht g h0 h1
  obtain ⟨h2, h3, h4⟩ := hp
  split
  · refine ⟨hg, fun j hj0 hj1 => ?_, Or.inr ⟨g, h0, by omega, rfl⟩⟩
    by_cases e : j = g
    · subst e; omega
    · have := h3 j hj0 (by omega); omega
  · refine ⟨h2, fun j hj0 hj1 => ?_, ?_⟩
    · by_cases e : j = g
      · subst e; omega
      · exact h3 j hj0 (by omega)
    · rcases h4 with h4 | ⟨j, hj0, hj1, hj2⟩
      · exact Or.inl h4
      · exact Or.inr ⟨j, hj0, by omega, hj2⟩
theorem pLong_b {f t : Int → Int} (hn : 0 ≤ f 2) (ht : tOK f t) : 0 ≤ pLong f t ∧ pLong f t ≤ 6 := (pLong_k t hn ht).1
theorem pLong_m {f t : Int → Int} (hn : 0 ≤ f 2) (ht : tOK f t) : ∀ g, 0 ≤ g → g < f 2 → t g ≤ pLong f t := (pLong_k t hn ht).2.1
theorem pLong_e {f t : Int → Int} (hn : 0 ≤ f 2) (ht : tOK f t) : pLong f t = 0 ∨ ∃ g, 0 ≤ g ∧ g < f 2 ∧ t g = pLong f t := (pLong_k t hn ht).2.2
theorem pBill_S (c : Int → Int) {k : Int} (h : 0 ≤ k) : pBill c (k + 1) = pBill c k + c k := az_FS _ _ h
theorem pBill_b {c : Int → Int} (hc : cOK c) {k : Int} (h0 : 0 ≤ k) (h1 : k ≤ 6) : 0 ≤ pBill c k ∧ pBill c k ≤ 30 * k := by
  refine az_Finv (fun k a => 0 ≤ a ∧ a ≤ 30 * k) h0 (by omega) (fun g a h2 h3 hp => ?_)
  have := hc g h2 (by omega)
  omega
theorem pMore_b {S all ahead k : Int} (hk : 0 ≤ k) : 0 ≤ pMore S all ahead k ∧ pMore S all ahead k ≤ k := by
  unfold pMore
  split
  · omega
  · split <;> omega
theorem pAlk_b (f t : Int → Int) {S l g : Int} (hS : 0 ≤ S) (hg : 0 ≤ g) (hn : g < f 2) : 0 ≤ pAlk f t S l g ∧ pAlk f t S l g ≤ 2 * S + 2 := by
  unfold pAlk
  split
  · next h =>
    have h1 := pHeads_b f g
    have h2 := pMore_b (S := S) (all := pCnt f t l (f 2)) (ahead := pCnt f t l g) (k := pHeads f g) (by omega)
    have h4 := pCnt_b f t l hg
    have h3 := pCnt_in f t l hg hn h
    have h5 : 0 ≤ S / pCnt f t l (f 2) := Int.ediv_nonneg hS (by omega)
    have h6 : S / pCnt f t l (f 2) ≤ S := Int.ediv_le_self _ hS
    have h7 := az_mulb h5 h6 (show 0 ≤ pHeads f g by omega) h1.2
    omega
  · omega
theorem pWgt_S (f t : Int → Int) {k : Int} (h : 0 ≤ k) : pWgt f t (k + 1) = pWgt f t k + t k * pHeads f k := az_FS _ _ h
theorem pWgt_b {f t : Int → Int} (hn : f 2 ≤ 4) (ht : tOK f t) {k : Int} (h : 0 ≤ k) (hk : k ≤ f 2) : 0 ≤ pWgt f t k ∧ pWgt f t k ≤ 12 * k := by
  refine az_Finv (fun k a => 0 ≤ a ∧ a ≤ 12 * k) h (by omega) (fun g a h0 h1 hp => ?_)
  have h2 := pHeads_b f g
  have h3 := ht g h0 (by omega)
  have h4 := az_mulb h3.1 h3.2 (show 0 ≤ pHeads f g by omega) h2.2
  omega
theorem pWgt_m {f t : Int → Int} (ht : tOK f t) {i k : Int} (h : 0 ≤ i) (hk : i ≤ k) (hn : k ≤ f 2) : pWgt f t i ≤ pWgt f t k := by
  have H : ∀ n : Nat, i + n ≤ f 2 → pWgt f t i ≤ pWgt f t (i + n) := by
    intro n
    induction n with
    | zero => intro _; simp
    | succ n ih =>
      intro hh
      have e : i + ((n + 1 : Nat) : Int) = (i + n) + 1 := by omega
      rw [e, pWgt_S f t (by omega)]
      have h2 := pHeads_b f (i + n)
      have h3 := ht (i + n) (by omega) (by omega)
      have h4 := az_mulb h3.1 h3.2 (show 0 ≤ pHeads f (i + n) by omega) h2.2
      have := ih (by omega)
      omega
  have := H (k - i).toNat (by omega)
  have e : i + ((k - i).toNat : Int) = k := by omega
  rwa [e] at this
theorem pWgt_pos {f t : Int → Int} (hn : 0 ≤ f 2) (ht : tOK f t) (h : 0 < pLong f t) : 0 < pWgt f t (f 2) := by
  rcases pLong_e hn ht with h1 | ⟨g, h1, h2, h3⟩
  · omega
  · have a := pWgt_m ht (i := g + 1) (k := f 2) (by omega) (by omega) (by omega)
    rw [pWgt_S f t h1] at a
    have b := pWgt_m ht (i := 0) (k := g) (by omega) h1 (by omega)
    have e : pWgt f t 0 = 0 := rfl
    have h4 := pHeads_b f g
    have h5 : 1 * 1 ≤ t g * pHeads f g := Int.mul_le_mul (by omega) h4.1 (by omega) (by omega)
    omega
theorem pLft_b {f t : Int → Int} {S : Int} (hn : 0 ≤ f 2 ∧ f 2 ≤ 4) (ht : tOK f t) (hS : 0 ≤ S) (hd : 0 < pWgt f t (f 2)) {k : Int} (h0 : 0 ≤ k) (hk : k ≤ f 2) : 0 ≤ pLft f t S k ∧ pLft f t S k ≤ S := by
  have H : pLft f t S k ≤ S ∧ pWgt f t (f 2) * (S - pLft f t S k) ≤ S * pWgt f t k := by
    refine az_Finv (s := fun g a => a - S * t g * pHeads f g / pWgt f t (f 2)) (a := S) (fun k a => a ≤ S ∧ pWgt f t (f 2) * (S - a) ≤ S * pWgt f t k) h0 ⟨by omega, ?_⟩ (fun g a h2 h3 hp => ?_)
    · have e : pWgt f t 0 = 0 := rfl
      rw [e]
      simp
    · have h4 := pHeads_b f g
      have h5 := ht g h2 (by omega)
      have h6 : 0 ≤ S * t g * pHeads f g := Int.mul_nonneg (Int.mul_nonneg hS h5.1) (by omega)
      have h7 : 0 ≤ S * t g * pHeads f g / pWgt f t (f 2) := Int.ediv_nonneg h6 (by omega)
      have h8 : pWgt f t (f 2) * (S * t g * pHeads f g / pWgt f t (f 2)) ≤ S * t g * pHeads f g := Int.mul_ediv_self_le (by omega)
      refine ⟨by omega, ?_⟩
      rw [pWgt_S f t h2, Int.mul_add, ← Int.mul_assoc S]
      have e : S - (a - S * t g * pHeads f g / pWgt f t (f 2)) = (S - a) + S * t g * pHeads f g / pWgt f t (f 2) := by omega
      rw [e, Int.mul_add]
      have := hp.2
      omega
  refine ⟨?_, H.1⟩
  have h1 : S * pWgt f t k ≤ S * pWgt f t (f 2) := Int.mul_le_mul_of_nonneg_left (pWgt_m ht h0 hk (by omega)) hS
  have h2 : pWgt f t (f 2) * (S - pLft f t S k) ≤ pWgt f t (f 2) * S := by
    rw [Int.mul_comm (pWgt f t (f 2)) S]
    omega
  have h3 := Int.le_of_mul_le_mul_left h2 hd
  omega
theorem pW1_b {f t : Int → Int} {S g : Int} (ht : tOK f t) (hS : 0 ≤ S ∧ S ≤ 180) (h0 : 0 ≤ g) (h1 : g < f 2) : (0 ≤ S * t g ∧ S * t g ≤ 1080) ∧ (0 ≤ S * t g * pHeads f g ∧ S * t g * pHeads f g ≤ 2160) := by
  have h2 := pHeads_b f g
  have h3 := ht g h0 h1
  have h4 := az_mulb hS.1 hS.2 h3.1 h3.2
  have h5 := az_mulb h4.1 h4.2 (show 0 ≤ pHeads f g by omega) h2.2
  omega
theorem pByW_b {f t : Int → Int} {S L g : Int} (hn : 0 ≤ f 2 ∧ f 2 ≤ 4) (ht : tOK f t) (hS : 0 ≤ S ∧ S ≤ 180) (h0 : 0 ≤ g) (h1 : g < f 2) : 0 ≤ pByW f t S L g ∧ pByW f t S L g ≤ 3000 := by
  unfold pByW
  split
  · omega
  · next h =>
    have h2 := pWgt_b hn.2 ht (k := f 2) hn.1 (by omega)
    have h3 := pW1_b ht hS h0 h1
    have h4 : 0 ≤ S * t g * pHeads f g / pWgt f t (f 2) := Int.ediv_nonneg h3.2.1 (by omega)
    have h5 : S * t g * pHeads f g / pWgt f t (f 2) ≤ S * t g * pHeads f g := Int.ediv_le_self _ h3.2.1
    have h6 := pLft_b hn ht hS.1 (by omega) (k := f 2) (by omega) (by omega)
    split <;> omega
theorem pByH_S (f t c : Int → Int) (g : Int) {k : Int} (h : 0 ≤ k) : pByH f t c g (k + 1) = pByH f t c g k + pAlk f t (c k) k g := az_FS _ _ h
theorem pByH_b {f t c : Int → Int} {g k : Int} (hc : cOK c) (h0 : 0 ≤ g) (h1 : g < f 2) (hk : 0 ≤ k) (hk6 : k ≤ 6) : 0 ≤ pByH f t c g k ∧ pByH f t c g k ≤ 62 * k := by
  refine az_Finv (s := fun h a => a + pAlk f t (c h) h g) (fun k a => 0 ≤ a ∧ a ≤ 62 * k) hk (by omega) (fun h a h2 h3 hp => ?_)
  have h4 := hc h h2 (by omega)
  have h5 := pAlk_b f t (S := c h) (l := h) h4.1 h0 h1
  omega
theorem pShr_b {f t c : Int → Int} {sp g : Int} (hn : 0 ≤ f 2 ∧ f 2 ≤ 4) (ht : tOK f t) (hc : cOK c) (h0 : 0 ≤ g) (h1 : g < f 2) : 0 ≤ pShr f t c sp g ∧ pShr f t c sp g ≤ 3000 := by
  have hL := pLong_b hn.1 ht
  have hB := pBill_b hc hL.1 hL.2
  have htg := ht g h0 h1
  unfold pShr
  split
  · have := pAlk_b f t (S := pBill c (pLong f t)) (l := pLong f t - 1) hB.1 h0 h1
    omega
  · split
    · exact pByW_b hn ht (by omega) h0 h1
    · have := pByH_b (f := f) (t := t) (k := t g) hc h0 h1 htg.1 htg.2
      omega
theorem pFee_b {f t : Int → Int} {g : Int} (h1 : 0 ≤ f 1 ∧ f 1 ≤ 9) (ht : 0 ≤ t g ∧ t g ≤ 6) : 0 ≤ f 1 * t g ∧ f 1 * t g ≤ 54 := az_mulb h1.1 h1.2 ht.1 ht.2
theorem pPay_b {f t c : Int → Int} {sp g : Int} (hn : 0 ≤ f 2 ∧ f 2 ≤ 4) (hf : 0 ≤ f 1 ∧ f 1 ≤ 9) (ht : tOK f t) (hc : cOK c) (h0 : 0 ≤ g) (h1 : g < f 2) : 0 ≤ pPay f t c sp g ∧ pPay f t c sp g ≤ 3100 := by
  have h2 := pShr_b (sp := sp) hn ht hc h0 h1
  have h3 := pFee_b hf (ht g h0 h1)
  unfold pPay
  split <;> omega
theorem pOth_S (f t : Int → Int) (g h : Int) {k : Int} (hk : 0 ≤ k) : pOth f t g h (k + 1) = if k ≠ g ∧ h < t k then pOth f t g h k + 1 else pOth f t g h k := az_FS _ _ hk
theorem pOth_b (f t : Int → Int) (g h : Int) {k : Int} (hk : 0 ≤ k) : 0 ≤ pOth f t g h k ∧ pOth f t g h k ≤ k := by
  refine az_Finv (s := fun o a => if o ≠ g ∧ h < t o then a + 1 else a) (fun k a => 0 ≤ a ∧ a ≤ k) hk (by omega) (fun o a h2 h3 hp => ?_)
  split <;> omega
theorem pJ0_b {f : Int → Int} {g h : Int} (hf : 0 ≤ f (16 + g) ∧ f (16 + g) ≤ 20) : -20 ≤ pJ0 f g h ∧ pJ0 f g h ≤ 20 := by
  unfold pJ0
  split
  · omega
  · split <;> omega
theorem pJoyA_b {f : Int → Int} {g h : Int} (hf : 0 ≤ f (16 + g) ∧ f (16 + g) ≤ 20) : -40 ≤ pJoyA f g h ∧ pJoyA f g h ≤ 40 := by
  have := pJ0_b (h := h) hf
  unfold pJoyA
  split <;> omega
theorem pJoy_e (f t : Int → Int) (g h : Int) : pJoy f t g h = if f (12 + g) = 2 then pJoyA f g h + pOth f t g h (f 2) else if f (12 + g) = 4 ∨ f (12 + g) = 5 then pJoyA f g h - pOth f t g h (f 2) else pJoyA f g h := by
  unfold pJoy pComp
  split
  · omega
  · split <;> omega
theorem pJoy_b {f t : Int → Int} {g h : Int} (hn : 0 ≤ f 2 ∧ f 2 ≤ 4) (hf : 0 ≤ f (16 + g) ∧ f (16 + g) ≤ 20) : -44 ≤ pJoy f t g h ∧ pJoy f t g h ≤ 44 := by
  have h1 := pJoyA_b (h := h) hf
  have h2 := pOth_b f t g h hn.1
  rw [pJoy_e]
  split
  · omega
  · split <;> omega
theorem pJoys_S (f t : Int → Int) (g : Int) {k : Int} (h : 0 ≤ k) : pJoys f t g (k + 1) = pJoys f t g k + pJoy f t g k := az_FS _ _ h
theorem pJoys_b {f t : Int → Int} {g k : Int} (hn : 0 ≤ f 2 ∧ f 2 ≤ 4) (hf : 0 ≤ f (16 + g) ∧ f (16 + g) ≤ 20) (hk : 0 ≤ k) : -44 * k ≤ pJoys f t g k ∧ pJoys f t g k ≤ 44 * k := by
  refine az_Finv (s := fun h a => a + pJoy f t g h) (fun k a => -44 * k ≤ a ∧ a ≤ 44 * k) hk (by omega) (fun h a h2 h3 hp => ?_)
  have := pJoy_b (t := t) (g := g) (h := h) hn hf
  omega
theorem pWor_b {f t c : Int → Int} {sp g : Int} (hN : nOK f) (ht : tOK f t) (hc : cOK c) (h0 : 0 ≤ g) (h1 : g < f 2) : -4000 ≤ pWor f t c sp g ∧ pWor f t c sp g ≤ 4000 := by
  have h2 := pPay_b (sp := sp) (nOK_2 hN) (nOK_1 hN) ht hc h0 h1
  have h3 := ht g h0 h1
  have h4 := pJoys_b (t := t) (k := t g) (nOK_2 hN) (nOK_g hN g h0 h1).2.1 h3.1
  unfold pWor
  omega
theorem tOK_up {f t : Int → Int} (ht : tOK f t) {g n : Int} (hn : 0 ≤ n ∧ n ≤ 6) : tOK f (up1 t g n) := by
  intro j h0 h1
  unfold up1
  split
  · exact hn
  · exact ht j h0 h1
/-- the joy of an hour does not hang on one's own hours -/
theorem pOth_up (f t : Int → Int) (g n h k : Int) (hk : 0 ≤ k) : pOth f (up1 t g n) g h k = pOth f t g h k := by
  refine az_Fcong (fun o a _ _ => ?_) hk
  by_cases e : o = g
  · subst e; simp
  · rw [up1_ne _ _ e]
theorem pJoys_up {f : Int → Int} (t : Int → Int) (g n k : Int) (hn : 0 ≤ f 2) (hk : 0 ≤ k) : pJoys f (up1 t g n) g k = pJoys f t g k := by
  refine az_Fcong (fun h a _ _ => ?_) hk
  unfold pJoy
  rw [pOth_up f t g n h (f 2) hn]
theorem pW_e {f t c : Int → Int} {sp g n : Int} (hn : 0 ≤ f 2) (h : 0 ≤ n) : pW f t c sp g n = pJoys f t g n - pPay f (up1 t g n) c sp g := by
  unfold pW pWor
  rw [up1_at, pJoys_up t g n n hn h]
theorem pW_id (f t c : Int → Int) (sp g : Int) : pW f t c sp g (t g) = pWor f t c sp g := by
  unfold pW
  rw [up1_id]
theorem pW_up (f t c : Int → Int) (sp g n k : Int) : pW f (up1 t g k) c sp g n = pW f t c sp g n := by
  unfold pW
  rw [up1_up]
theorem pBstK_b (f t c : Int → Int) (sp g : Int) {k : Int} (hk : 1 ≤ k) : (0 ≤ pBstK f t c sp g k ∧ pBstK f t c sp g k < k) ∧ ∀ n, 0 ≤ n → n < k → pW f t c sp g n ≤ pW f t c sp g (pBstK f t c sp g k) := by
  have H := az_Finv (s := fun n b => if n = 0 ∨ pW f t c sp g b < pW f t c sp g n then n else b) (a := (0 : Int)) (fun k b => (0 ≤ b ∧ (b < k ∨ k = 0)) ∧ ∀ n, 0 ≤ n → n < k → pW f t c sp g n ≤ pW f t c sp g b) (k := k) (by omega) ⟨by omega, fun n h0 h1 => by omega⟩ (fun i b h2 h3 hp => by
    split
    · next h =>
      refine ⟨by omega, fun n h4 h5 => ?_⟩
      rcases h with h | h
      · have : n = i := by omega
        subst this
        omega
      · by_cases e : n = i
        · subst e; omega
        · have := hp.2 n h4 (by omega)
          omega
    · next h =>
      refine ⟨by omega, fun n h4 h5 => ?_⟩
      by_cases e : n = i
      · subst e; omega
      · exact hp.2 n h4 (by omega))
  exact ⟨⟨H.1.1, by have := H.1.2; unfold pBstK; omega⟩, H.2⟩
theorem pBst_b (f t c : Int → Int) (sp g : Int) : 0 ≤ pBst f t c sp g ∧ pBst f t c sp g ≤ 6 := by
  have := (pBstK_b f t c sp g (k := 7) (by omega)).1
  unfold pBst
  omega
theorem pCon_iff {f t c : Int → Int} {sp g : Int} (ht : 0 ≤ t g ∧ t g ≤ 6) : pCon f t c sp g ↔ pW f t c sp g (t g) = pW f t c sp g (pBst f t c sp g) := by
  have hb := pBstK_b f t c sp g (k := 7) (by omega)
  constructor
  · intro h
    have h1 := h (pBst f t c sp g) (pBst_b f t c sp g).1 (by have := (pBst_b f t c sp g).2; omega)
    have h2 := hb.2 (t g) ht.1 (by omega)
    rw [← pW_id] at h1
    unfold pBst at *
    omega
  · intro h n h0 h1
    rw [← pW_id, h]
    exact hb.2 n h0 h1
/-- nobody was there: nothing is paid -/
theorem pAlk_0 (f t : Int → Int) (l g : Int) (h0 : 0 ≤ g) : pAlk f t 0 l g = 0 := by
  unfold pAlk
  split
  · have := pCnt_b f t l h0
    have := pHeads_b f g
    unfold pMore
    simp
    omega
  · rfl
theorem pShr_0 {f t c : Int → Int} {sp g : Int} (hn : 0 ≤ f 2 ∧ f 2 ≤ 4) (ht : tOK f t) (h : pLong f t = 0) (h0 : 0 ≤ g) (h1 : g < f 2) : pShr f t c sp g = 0 := by
  have h2 := pLong_m hn.1 ht g h0 h1
  have h3 := ht g h0 h1
  have h4 : t g = 0 := by omega
  unfold pShr
  rw [h, h4]
  have e : pBill c 0 = 0 := rfl
  rw [e, pAlk_0 f t _ g h0]
  split
  · rfl
  · split
    · unfold pByW
      have e2 : pLft f t 0 (f 2) = 0 ∨ pWgt f t (f 2) = 0 := by
        by_cases hw : pWgt f t (f 2) = 0
        · exact Or.inr hw
        · have h5 := pWgt_b hn.2 ht (k := f 2) hn.1 (by omega)
          have := pLft_b hn ht (S := 0) (by omega) (by omega) (k := f 2) (by omega) (by omega)
          exact Or.inl (by omega)
      split
      · rfl
      · next hw =>
        rcases e2 with e2 | e2
        · rw [e2]
          simp
        · exact absurd e2 hw
    · rfl
end
section
/-! THE REFERENCE: what a day costs -/
section RA
variable {sc : aX} {m : aM} {f t c : Int → Int} {sp : Int} {Q : Option aV → aM → Prop}
def pCosts (f c : Int → Int) (k : Int) : Int → Int := fun j => if 0 ≤ j ∧ j < k then pPrice f j else c j
theorem pCosts_S (f c : Int → Int) {k : Int} (h : 0 ≤ k) : up1 (pCosts f c k) k (pPrice f k) = pCosts f c (k + 1) := by
  funext j
  unfold up1 pCosts
  by_cases e : j = k
  · subst e
    rw [if_pos rfl, if_pos (by omega)]
  · rw [if_neg e]
    by_cases h1 : 0 ≤ j ∧ j < k
    · rw [if_pos h1, if_pos (by omega)]
    · rw [if_neg h1, if_neg (by omega)]
theorem pCosts_0 (f c : Int → Int) : pCosts f c 0 = c := by
  funext j
  unfold pCosts
  rw [if_neg (by omega)]
theorem pPrice_b {f : Int → Int} (hp : ∀ h, 0 ≤ h → h < 6 → 0 ≤ f (6 + h) ∧ f (6 + h) ≤ 30) {h : Int} (h0 : 0 ≤ h) (h1 : h < 6) : 0 ≤ pPrice f h ∧ pPrice f h ≤ 30 := by
  have := hp h h0 h1
  unfold pPrice
  split
  · rw [td2 this.1]; omega
  · exact this
theorem cOK_costs {f : Int → Int} (c : Int → Int) (hN : nOK f) : cOK (pCosts f c 6) := by
  intro h h0 h1
  unfold pCosts
  rw [if_pos ⟨h0, h1⟩]
  exact pPrice_b (nOK_p hN) h0 h1
theorem c_X8_priceOf2 {h : Int} (hf : m 284 = f) (hN : nOK f) (h0 : 0 ≤ h) (h1 : h < 6) : az_CI sc 85 [.inr (.inr 280), .inl h] m (pPrice f h) m := by
  subst hf
  exact c_X8_priceOf h h0 h1 (nOK_p hN h h0 h1)
theorem c_X8_isGuest2 {g : Int} (hf : m 284 = f) (hn : 0 ≤ f 2 ∧ f 2 ≤ 4) : az_CI sc 89 [.inr (.inr 280), .inl g] m (if 0 ≤ g ∧ g ≤ f 2 - 1 then 1 else 0) m := by
  subst hf
  exact c_X8_isGuest g hn
theorem c_X8_layNow (hf : m 284 = f) (hN : nOK f) : az_CV sc 112 [.inr (.inr 280)] m (az_up (az_set m 291 (pCosts f (m 291) 6)) 279 23 (f 0)) := by
  refine r_iconst ?_
  refine r_istore_n (Nat.le_of_ble_eq_true rfl) rfl ?_
  refine az_lop (α := aM) (fun h _ => [some (.inr (.inr 280)), some (.inl (h))]) (fun a => a) (fun h a => a = az_set m 291 (pCosts f (m 291) h)) 0 6 _ (by decide) (by rw [pCosts_0, az_s0]) (fun h a h0 h1 hp hK => ?_) (fun a hp => ?_)
  · subst hp
    refine r_iload_n rfl ?_
    refine r_bipush ?_
    refine r_icmp_ge kX8_layNow_25 (fun c1 => absurd c1 (by omega)) (fun c1 => ?_)
    refine r_aload_n rfl ?_
    refine r_getR g_279 rfl ?_
    refine r_iload_n rfl ?_
    refine r_aload_n rfl ?_
    refine r_iload_n rfl ?_
    refine r_cV2I g_279 rfl (Nat.le_of_ble_eq_true rfl) (Nat.le_of_ble_eq_true rfl) (c_X8_priceOf2 hf hN h0 h1) ?_
    refine r_iast g_291 (by decide) (by omega) (by omega) ?_
    refine r_iinc rfl (az_wid (by omega) (by omega)) rfl ?_
    refine r_goto kX8_layNow_2 ?_
    exact hK _ (by rw [az_us, pCosts_S f _ h0])
  · subst hp
    refine r_iload_n rfl ?_
    refine r_bipush ?_
    refine r_icmp_ge kX8_layNow_25 (fun c1 => ?_) (fun c1 => absurd c1 (by omega))
    refine r_aload_n rfl ?_
    refine r_aload_n rfl ?_
    refine r_getR g_279 rfl ?_
    refine r_iconst ?_
    refine r_ialdx g_284 rfl (by omega) (by omega) (by omega) (congrFun hf _) ?_
    refine r_putI g_279 (by decide) ?_
    refine r_vret rfl ?_
    exact ⟨rfl, rfl⟩
theorem c_X8_heads {g : Int} (hf : m 284 = f) (h0 : 0 ≤ g) (h1 : g < 4) : az_CI sc 115 [.inr (.inr 280), .inl g] m (pHeads f g) m := by
  refine r_aload_n rfl ?_
  refine r_getR g_279 rfl ?_
  refine r_bipush ?_
  refine r_iload_n rfl ?_
  first | refine r_iadd (az_wid (by omega) (by omega)) ?_ | refine r_iaddw ?_
  refine r_ialdx g_284 rfl (by omega) (by omega) (by omega) (congrFun hf _) ?_
  refine r_iconst ?_
  refine r_icmp_ne kX8_heads_17 (fun c1 => ?_) (fun c1 => ?_)
  · refine r_iconst ?_
    refine r_iret rfl ?_
    unfold pHeads; (repeat' split) <;> first | exact ⟨rfl, rfl⟩ | (exfalso; omega)
  · refine r_iconst ?_
    refine r_goto kX8_heads_18 ?_
    refine r_iret rfl ?_
    unfold pHeads; (repeat' split) <;> first | exact ⟨rfl, rfl⟩ | (exfalso; omega)
theorem c_X8_longest (hf : m 284 = f) (ht : ∀ g, 0 ≤ g → g < f 2 → m 290 g = t g) (hn : 0 ≤ f 2 ∧ f 2 ≤ 4) : az_CI sc 113 [.inr (.inr 280)] m (pLong f t) m := by
  refine r_iconst ?_
  refine r_istore_n (Nat.le_of_ble_eq_true rfl) rfl ?_
  refine r_iconst ?_
  refine r_istore_n (Nat.le_of_ble_eq_true rfl) rfl ?_
  refine az_lop (α := Int) (fun g a => [some (.inr (.inr 280)), some (.inl (a)), some (.inl (g))]) (fun _ => m) (fun g a => a = az_F (fun g a => if a < t g then t g else a) 0 g) 0 (f 2) _ hn.1 rfl (fun g a h0 h1 hp hK => ?_) (fun a hp => ?_)
  · have hS := az_FS (fun g a => if a < t g then t g else a) (0 : Int) h0
    rw [← hp] at hS
    refine r_iload_n rfl ?_
    refine r_aload_n rfl ?_
    refine r_getR g_279 rfl ?_
    refine r_iconst ?_
    refine r_ialdx g_284 rfl (by omega) (by omega) (by omega) (congrFun hf _) ?_
    refine r_icmp_ge kX8_longest_41 (fun c1 => absurd c1 (by omega)) (fun c1 => ?_)
    refine r_aload_n rfl ?_
    refine r_getR g_279 rfl ?_
    refine r_iload_n rfl ?_
    refine r_ialdx g_290 rfl (by omega) (by omega) (by omega) (ht _ (by omega) (by omega)) ?_
    refine r_iload_n rfl ?_
    refine r_icmp_le kX8_longest_33 (fun c2 => ?_) (fun c2 => ?_)
    · refine r_iload_n rfl ?_
      refine r_istore_n (Nat.le_of_ble_eq_true rfl) rfl ?_
      refine r_iinc rfl (az_wid (by omega) (by omega)) rfl ?_
      refine r_goto kX8_longest_4 ?_
      exact hK _ (by rw [hS]; first | rw [if_pos (by omega)] | rw [if_neg (by omega)])
    · refine r_aload_n rfl ?_
      refine r_getR g_279 rfl ?_
      refine r_iload_n rfl ?_
      refine r_ialdx g_290 rfl (by omega) (by omega) (by omega) (ht _ (by omega) (by omega)) ?_
      refine r_goto kX8_longest_34 ?_
      refine r_istore_n (Nat.le_of_ble_eq_true rfl) rfl ?_
      refine r_iinc rfl (az_wid (by omega) (by omega)) rfl ?_
      refine r_goto kX8_longest_4 ?_
      exact hK _ (by rw [hS]; first | rw [if_pos (by omega)] | rw [if_neg (by omega)])
  · refine r_iload_n rfl ?_
    refine r_aload_n rfl ?_
    refine r_getR g_279 rfl ?_
    refine r_iconst ?_
    refine r_ialdx g_284 rfl (by omega) (by omega) (by omega) (congrFun hf _) ?_
    refine r_icmp_ge kX8_longest_41 (fun c1 => ?_) (fun c1 => absurd c1 (by omega))
    refine r_iload_n rfl ?_
    refine r_iret rfl ?_
    exact ⟨by rw [hp]; rfl, rfl⟩
theorem c_X8_sum (hf : m 284 = f) (ht : ∀ g, 0 ≤ g → g < f 2 → m 290 g = t g) (hc : ∀ h, 0 ≤ h → h < 6 → m 291 h = c h) (hn : 0 ≤ f 2 ∧ f 2 ≤ 4) (hT : tOK f t) (hC : cOK c) : az_CI sc 114 [.inr (.inr 280)] m (pBill c (pLong f t)) m := by
  have hL := pLong_b hn.1 hT
  refine r_iconst ?_
  refine r_istore_n (Nat.le_of_ble_eq_true rfl) rfl ?_
  refine r_iconst ?_
  refine r_istore_n (Nat.le_of_ble_eq_true rfl) rfl ?_
  refine az_lop (α := Int) (fun h a => [some (.inr (.inr 280)), some (.inl (a)), some (.inl (h))]) (fun _ => m) (fun h a => a = pBill c h) 0 (pLong f t) _ hL.1 rfl (fun h a h0 h1 hp hK => ?_) (fun a hp => ?_)
  · have hS := pBill_S c h0
    have hB := pBill_b hC h0 (by omega)
    have hB2 := hC h h0 (by omega)
    rw [← hp] at hS hB
    refine r_iload_n rfl ?_
    refine r_aload_n rfl ?_
    refine r_cV1I g_279 rfl (Nat.le_of_ble_eq_true rfl) (Nat.le_of_ble_eq_true rfl) (c_X8_longest hf ht hn) ?_
    refine r_icmp_ge kX8_sum_27 (fun c1 => absurd c1 (by omega)) (fun c1 => ?_)
    refine r_iload_n rfl ?_
    refine r_aload_n rfl ?_
    refine r_getR g_279 rfl ?_
    refine r_iload_n rfl ?_
    refine r_ialdx g_291 rfl (by omega) (by omega) (by omega) (hc _ (by omega) (by omega)) ?_
    first | refine r_iadd (az_wid (by omega) (by omega)) ?_ | refine r_iaddw ?_
    refine r_istore_n (Nat.le_of_ble_eq_true rfl) rfl ?_
    refine r_iinc rfl (az_wid (by omega) (by omega)) rfl ?_
    refine r_goto kX8_sum_4 ?_
    exact hK _ (by omega)
  · refine r_iload_n rfl ?_
    refine r_aload_n rfl ?_
    refine r_cV1I g_279 rfl (Nat.le_of_ble_eq_true rfl) (Nat.le_of_ble_eq_true rfl) (c_X8_longest hf ht hn) ?_
    refine r_icmp_ge kX8_sum_27 (fun c1 => ?_) (fun c1 => absurd c1 (by omega))
    refine r_iload_n rfl ?_
    refine r_iret rfl ?_
    exact ⟨by rw [hp], rfl⟩
/-- what the first k heads of one who has so many ahead bear -/
def pPart (S all ahead k : Int) : Int := S / all * k + pMore S all ahead k
theorem pPart_0 (S all ahead : Int) : pPart S all ahead 0 = 0 := by
  unfold pPart pMore
  simp
  omega
theorem pPart_S {S all ahead k : Int} (hk : k = 0 ∨ k = 1) : pPart S all ahead (k + 1) = pPart S all ahead k + (S / all + (if ahead + k < S % all then 1 else 0)) := by
  unfold pPart pMore
  rcases hk with rfl | rfl
  · simp only [Int.mul_zero, Int.zero_add, Int.mul_one]
    (repeat' split) <;> omega
  · simp only [Int.mul_one]
    have e : (1 : Int) + 1 = 2 := rfl
    rw [e]
    have e2 : S / all * 2 = S / all + S / all := by omega
    rw [e2]
    (repeat' split) <;> omega
/-- parts, the heads of one guest -/
theorem l_X8_parts1 {s : Int → Int} {S lg all hd g : Int} (hf : m 284 = f) (ht : ∀ g, 0 ≤ g → g < f 2 → m 290 g = t g) (hn : 0 ≤ f 2 ∧ f 2 ≤ 4) (hS : 0 ≤ S ∧ S ≤ 1000) (hall : all = pCnt f t lg (f 2)) (h0 : 0 ≤ g) (h1 : g < f 2) (hhd : 0 ≤ hd ∧ hd ≤ 100) (hs : 0 ≤ s g ∧ s g ≤ 100000) (K : ∀ o', az_E sc az_G 116 zX8_parts_52 [some (.inr (.inr 280)), some (.inl (S)), some (.inl (lg)), some (.inl (all)), some (.inl (hd + (if lg < t g then pHeads f g else 0))), some (.inl (g + 1)), o'] [] (az_set m 292 (up1 s g (s g + (if lg < t g then pPart S all hd (pHeads f g) else 0)))) Q) : az_E sc az_G 116 zX8_parts_66 [some (.inr (.inr 280)), some (.inl (S)), some (.inl (lg)), some (.inl (all)), some (.inl (hd)), some (.inl (g)), some (.inl (0))] [] (az_set m 292 s) Q := by
  have hh := pHeads_b f g
  by_cases hl : lg < t g
  · rw [if_pos hl, if_pos hl] at K
    have hin := pCnt_in f t lg h0 h1 hl
    have hcb := pCnt_b f t lg h0
    rw [← hall] at hin
    have hq : 0 ≤ S / all := Int.ediv_nonneg hS.1 (by omega)
    have hq2 : S / all ≤ S := Int.ediv_le_self _ hS.1
    refine az_lop (α := (Int → Int) × Int) (fun k a => [some (.inr (.inr 280)), some (.inl (S)), some (.inl (lg)), some (.inl (all)), some (.inl (a.2)), some (.inl (g)), some (.inl (k))]) (fun a => az_set m 292 a.1) (fun k a => a.1 = up1 s g (s g + pPart S all hd k) ∧ a.2 = hd + k) 0 (pHeads f g) (s, hd) (by omega) ⟨by rw [pPart_0, Int.add_zero, up1_id], by simp⟩ (fun k a h2 h3 hp hK => ?_) (fun a hp => ?_)
    · obtain ⟨s1, hd1⟩ := a
      obtain ⟨hp1, hp2⟩ := hp
      simp only [] at hp1 hp2
      have hk : k = 0 ∨ k = 1 := by omega
      have hPS := pPart_S (S := S) (all := all) (ahead := hd) hk
      have hPb : 0 ≤ pPart S all hd k ∧ pPart S all hd k ≤ 5000 := by
        have := pMore_b (S := S) (all := all) (ahead := hd) h2
        unfold pPart
        rcases hk with rfl | rfl <;> omega
      have hv : s1 g = s g + pPart S all hd k := by rw [hp1, up1_at]
      subst hp2
      refine r_iload rfl ?_
      refine r_aload_n rfl ?_
      refine r_iload rfl ?_
      refine r_cV2I g_279 rfl (Nat.le_of_ble_eq_true rfl) (Nat.le_of_ble_eq_true rfl) (c_X8_heads hf (by omega) (by omega)) ?_
      refine r_icmp_ge kX8_parts_124 (fun c1 => absurd c1 (by omega)) (fun c1 => ?_)
      refine r_aload_n rfl ?_
      refine r_getR g_279 rfl ?_
      refine r_iload rfl ?_
      refine r_ialdx g_290 rfl (by omega) (by omega) (by omega) (ht _ (by omega) (by omega)) ?_
      refine r_iload_n rfl ?_
      refine r_icmp_le kX8_parts_124 (fun c2 => absurd c2 (by omega)) (fun c2 => ?_)
      refine r_aload_n rfl ?_
      refine r_getR g_279 rfl ?_
      refine r_iload rfl ?_
      refine r_dup2 ?_
      refine r_ialdx g_292 rfl (by omega) (by omega) (by omega) (congrFun (rfl : s1 = s1) _) ?_
      refine r_iload_n rfl ?_
      refine r_iload_n rfl ?_
      first | refine r_idiv (by omega) (az_divn (by omega) (by omega) (by omega)) ?_ | refine r_idiv (by omega) rfl ?_
      refine r_iload rfl ?_
      refine r_iload_n rfl ?_
      refine r_iload_n rfl ?_
      first | refine r_irem (by omega) (az_modn (by omega)) ?_ | refine r_irem (by omega) rfl ?_
      refine r_icmp_ge kX8_parts_111 (fun c3 => ?_) (fun c3 => ?_)
      · refine r_iconst ?_
        first | refine r_iadd (az_wid (by omega) (by omega)) ?_ | refine r_iaddw ?_
        first | refine r_iadd (az_wid (by omega) (by omega)) ?_ | refine r_iaddw ?_
        refine r_iast g_292 (by decide) (by omega) (by omega) ?_
        refine r_iinc rfl (az_wid (by omega) (by omega)) rfl ?_
        refine r_iinc rfl (az_wid (by omega) (by omega)) rfl ?_
        refine r_goto kX8_parts_66 ?_
        refine az_Em ?_ (hK (up1 s g (s g + pPart S all hd (k + 1)), _) ⟨rfl, by simp only []; omega⟩); rw [az_us]; refine congrArg (az_set m 292) ?_; simp only []; rw [hv, hp1, up1_up]; refine congrArg (up1 s g) ?_; rw [hPS]; first | rw [if_pos (by assumption)]; omega | rw [if_neg (by omega)]; omega
      · refine r_iconst ?_
        refine r_goto kX8_parts_112 ?_
        first | refine r_iadd (az_wid (by omega) (by omega)) ?_ | refine r_iaddw ?_
        first | refine r_iadd (az_wid (by omega) (by omega)) ?_ | refine r_iaddw ?_
        refine r_iast g_292 (by decide) (by omega) (by omega) ?_
        refine r_iinc rfl (az_wid (by omega) (by omega)) rfl ?_
        refine r_iinc rfl (az_wid (by omega) (by omega)) rfl ?_
        refine r_goto kX8_parts_66 ?_
        refine az_Em ?_ (hK (up1 s g (s g + pPart S all hd (k + 1)), _) ⟨rfl, by simp only []; omega⟩); rw [az_us]; refine congrArg (az_set m 292) ?_; simp only []; rw [hv, hp1, up1_up]; refine congrArg (up1 s g) ?_; rw [hPS]; first | rw [if_pos (by assumption)]; omega | rw [if_neg (by omega)]; omega
    · obtain ⟨s1, hd1⟩ := a
      obtain ⟨hp1, hp2⟩ := hp
      simp only [] at hp1 hp2
      subst hp1 hp2
      refine r_iload rfl ?_
      refine r_aload_n rfl ?_
      refine r_iload rfl ?_
      refine r_cV2I g_279 rfl (Nat.le_of_ble_eq_true rfl) (Nat.le_of_ble_eq_true rfl) (c_X8_heads hf (by omega) (by omega)) ?_
      refine r_icmp_ge kX8_parts_124 (fun c1 => ?_) (fun c1 => absurd c1 (by omega))
      refine r_iinc rfl (az_wid (by omega) (by omega)) rfl ?_
      refine r_goto kX8_parts_52 ?_
      exact K _
  · rw [if_neg hl, if_neg hl, Int.add_zero, Int.add_zero, up1_id] at K
    refine r_iload rfl ?_
    refine r_aload_n rfl ?_
    refine r_iload rfl ?_
    refine r_cV2I g_279 rfl (Nat.le_of_ble_eq_true rfl) (Nat.le_of_ble_eq_true rfl) (c_X8_heads hf (by omega) (by omega)) ?_
    refine r_icmp_ge kX8_parts_124 (fun c1 => absurd c1 (by omega)) (fun c1 => ?_)
    refine r_aload_n rfl ?_
    refine r_getR g_279 rfl ?_
    refine r_iload rfl ?_
    refine r_ialdx g_290 rfl (by omega) (by omega) (by omega) (ht _ (by omega) (by omega)) ?_
    refine r_iload_n rfl ?_
    refine r_icmp_le kX8_parts_124 (fun c2 => ?_) (fun c2 => absurd c2 (by omega))
    refine r_iinc rfl (az_wid (by omega) (by omega)) rfl ?_
    refine r_goto kX8_parts_52 ?_
    exact K _
theorem az_FSif {P : Prop} [Decidable P] {a x : Int} : a + (if P then x else 0) = if P then a + x else a := by
  split <;> omega
theorem pAlk_e (f t : Int → Int) (S l g : Int) : pAlk f t S l g = if l < t g then pPart S (pCnt f t l (f 2)) (pCnt f t l g) (pHeads f g) else 0 := rfl
/-- parts: what each bears is added -/
theorem c_X8_parts {s : Int → Int} {S lg : Int} (hf : m 284 = f) (ht : ∀ g, 0 ≤ g → g < f 2 → m 290 g = t g) (hn : 0 ≤ f 2 ∧ f 2 ≤ 4) (hS : 0 ≤ S ∧ S ≤ 1000) (hs : ∀ g, 0 ≤ g → g < f 2 → 0 ≤ s g ∧ s g ≤ 50000) : az_C sc az_G 116 [.inr (.inr 280), .inl S, .inl lg] (az_set m 292 s) (fun v m' => v = none ∧ ∃ s', m' = az_set m 292 s' ∧ ∀ g, 0 ≤ g → g < f 2 → s' g = s g + pAlk f t S lg g) := by
  refine r_iconst ?_
  refine r_istore_n (Nat.le_of_ble_eq_true rfl) rfl ?_
  refine r_iconst ?_
  refine r_istore (Nat.le_of_ble_eq_true rfl) rfl ?_
  refine az_lop (α := Int) (fun g a => [some (.inr (.inr 280)), some (.inl (S)), some (.inl (lg)), some (.inl (a)), some (.inl (g)), none, none]) (fun _ => az_set m 292 s) (fun g a => a = pCnt f t lg g) 0 (f 2) _ hn.1 rfl (fun g a h0 h1 hp hK => ?_) (fun a hp => ?_)
  · have hC := pCnt_S f t lg h0
    have hCb := pCnt_b f t lg h0
    have hh := pHeads_b f g
    rw [← hp] at hC hCb
    refine r_iload rfl ?_
    refine r_aload_n rfl ?_
    refine r_getR g_279 rfl ?_
    refine r_iconst ?_
    refine r_ialdx g_284 rfl (by omega) (by omega) (by omega) (congrFun hf _) ?_
    refine r_icmp_ge kX8_parts_46 (fun c1 => absurd c1 (by omega)) (fun c1 => ?_)
    refine r_iload_n rfl ?_
    refine r_aload_n rfl ?_
    refine r_getR g_279 rfl ?_
    refine r_iload rfl ?_
    refine r_ialdx g_290 rfl (by omega) (by omega) (by omega) (ht _ (by omega) (by omega)) ?_
    refine r_iload_n rfl ?_
    refine r_icmp_le kX8_parts_37 (fun c2 => ?_) (fun c2 => ?_)
    · refine r_iconst ?_
      first | refine r_iadd (az_wid (by omega) (by omega)) ?_ | refine r_iaddw ?_
      refine r_istore_n (Nat.le_of_ble_eq_true rfl) rfl ?_
      refine r_iinc rfl (az_wid (by omega) (by omega)) rfl ?_
      refine r_goto kX8_parts_5 ?_
      exact hK _ (by rw [hC]; first | rw [if_pos (by omega)] | (rw [if_neg (by omega)]; omega))
    · refine r_aload_n rfl ?_
      refine r_iload rfl ?_
      refine r_cV2I g_279 rfl (Nat.le_of_ble_eq_true rfl) (Nat.le_of_ble_eq_true rfl) (c_X8_heads hf (by omega) (by omega)) ?_
      refine r_goto kX8_parts_38 ?_
      first | refine r_iadd (az_wid (by omega) (by omega)) ?_ | refine r_iaddw ?_
      refine r_istore_n (Nat.le_of_ble_eq_true rfl) rfl ?_
      refine r_iinc rfl (az_wid (by omega) (by omega)) rfl ?_
      refine r_goto kX8_parts_5 ?_
      exact hK _ (by rw [hC]; first | rw [if_pos (by omega)] | (rw [if_neg (by omega)]; omega))
  · subst hp
    refine r_iload rfl ?_
    refine r_aload_n rfl ?_
    refine r_getR g_279 rfl ?_
    refine r_iconst ?_
    refine r_ialdx g_284 rfl (by omega) (by omega) (by omega) (congrFun hf _) ?_
    refine r_icmp_ge kX8_parts_46 (fun c1 => ?_) (fun c1 => absurd c1 (by omega))
    refine r_iconst ?_
    refine r_istore (Nat.le_of_ble_eq_true rfl) rfl ?_
    refine r_iconst ?_
    refine r_istore (Nat.le_of_ble_eq_true rfl) rfl ?_
    refine az_lop (α := (Int → Int) × Int × Option aV) (fun g a => [some (.inr (.inr 280)), some (.inl (S)), some (.inl (lg)), some (.inl (pCnt f t lg (f 2))), some (.inl (a.2.1)), some (.inl (g)), a.2.2]) (fun a => az_set m 292 a.1) (fun g a => (∀ j, 0 ≤ j → j < f 2 → a.1 j = s j + (if j < g then pAlk f t S lg j else 0)) ∧ a.2.1 = pCnt f t lg g) 0 (f 2) (s, 0, none) hn.1 ⟨fun j h0 _ => by rw [if_neg (by omega)]; exact (Int.add_zero _).symm, rfl⟩ (fun g a h0 h1 hp hK => ?_) (fun a hp => ?_)
    · obtain ⟨s1, hd1, o⟩ := a
      obtain ⟨hp1, hp2⟩ := hp
      simp only [] at hp1 hp2
      subst hp2
      have hCb := pCnt_b f t lg h0
      have hs0 := hs g h0 h1
      have hs1 := hp1 g h0 h1
      rw [if_neg (by omega)] at hs1
      have hC := pCnt_S f t lg h0
      dsimp only
      refine r_iload rfl ?_
      refine r_aload_n rfl ?_
      refine r_getR g_279 rfl ?_
      refine r_iconst ?_
      refine r_ialdx g_284 rfl (by omega) (by omega) (by omega) (congrFun hf _) ?_
      refine r_icmp_ge kX8_parts_130 (fun c1 => absurd c1 (by omega)) (fun c1 => ?_)
      refine r_iconst ?_
      refine r_istore (Nat.le_of_ble_eq_true rfl) rfl ?_
      refine l_X8_parts1 hf ht hn hS rfl h0 h1 (by omega) (by omega) (fun o' => ?_)
      refine hK (up1 s1 g (s1 g + (if lg < t g then pPart S (pCnt f t lg (f 2)) (pCnt f t lg g) (pHeads f g) else 0)), _, _) ⟨fun j hj0 hj1 => ?_, ?_⟩
      · simp only []
        by_cases e : j = g
        · subst e
          rw [up1_at, if_pos (show j < j + 1 by omega), hs1, pAlk_e]
          omega
        · rw [up1_ne _ _ e, hp1 j hj0 hj1]
          by_cases e2 : j < g
          · rw [if_pos e2, if_pos (by omega)]
          · rw [if_neg e2, if_neg (by omega)]
      · simp only []
        rw [hC, az_FSif]
    · obtain ⟨s1, hd1, o⟩ := a
      obtain ⟨hp1, hp2⟩ := hp
      simp only [] at hp1 hp2
      refine r_iload rfl ?_
      refine r_aload_n rfl ?_
      refine r_getR g_279 rfl ?_
      refine r_iconst ?_
      refine r_ialdx g_284 rfl (by omega) (by omega) (by omega) (congrFun hf _) ?_
      refine r_icmp_ge kX8_parts_130 (fun c1 => ?_) (fun c1 => absurd c1 (by omega))
      refine r_vret rfl ?_
      exact ⟨rfl, s1, rfl, fun j hj0 hj1 => by rw [hp1 j hj0 hj1, if_pos hj1]⟩
end RA
end
section
/-! THE REFERENCE: share, worth, best -/
section RB
variable {sc : aX} {m : aM} {f t c : Int → Int} {sp : Int} {Q : Option aV → aM → Prop}
theorem pByH_e {f t c : Int → Int} {g k : Int} (h0 : 0 ≤ t g) (hk : t g ≤ k) : pByH f t c g k = pByH f t c g (t g) := by
  have H : ∀ n : Nat, pByH f t c g (t g + n) = pByH f t c g (t g) := by
    intro n
    induction n with
    | zero => simp
    | succ n ih =>
      have e : t g + ((n + 1 : Nat) : Int) = (t g + n) + 1 := by omega
      rw [e, pByH_S f t c g (by omega), ih, pAlk_e, if_neg (by omega)]
      omega
  have := H (k - t g).toNat
  have e : t g + ((k - t g).toNat : Int) = k := by omega
  rwa [e] at this
theorem pFst_S (t : Int → Int) (L : Int) {k : Int} (h : 0 ≤ k) : pFst t L (k + 1) = if pFst t L k = -1000000 ∧ t k = L then k else pFst t L k := az_FS _ _ h
theorem pFst_b (t : Int → Int) (L : Int) {k : Int} (h : 0 ≤ k) : (pFst t L k = -1000000 ∧ ∀ g, 0 ≤ g → g < k → t g ≠ L) ∨ (0 ≤ pFst t L k ∧ pFst t L k < k) := by
  refine az_Finv (s := fun g a => if a = -1000000 ∧ t g = L then g else a) (fun k a => (a = -1000000 ∧ ∀ g, 0 ≤ g → g < k → t g ≠ L) ∨ (0 ≤ a ∧ a < k)) h (Or.inl ⟨rfl, fun g _ _ => by omega⟩) (fun g a h0 h1 hp => ?_)
  split
  · exact Or.inr (by omega)
  · next hh =>
    rcases hp with ⟨hp1, hp2⟩ | hp
    · refine Or.inl ⟨hp1, fun j hj0 hj1 => ?_⟩
      by_cases e : j = g
      · subst e
        exact fun q => hh ⟨hp1, q⟩
      · exact hp2 j hj0 (by omega)
    · exact Or.inr (by omega)
theorem pLft_S (f t : Int → Int) (S : Int) {k : Int} (h : 0 ≤ k) : pLft f t S (k + 1) = pLft f t S k - S * t k * pHeads f k / pWgt f t (f 2) := az_FS _ _ h
/-- share -/
theorem c_X8_share (hf : m 284 = f) (ht : ∀ g, 0 ≤ g → g < f 2 → m 290 g = t g) (hc : ∀ h, 0 ≤ h → h < 6 → m 291 h = c h) (hs : m 279 23 = sp) (hn : 0 ≤ f 2 ∧ f 2 ≤ 4) (hT : tOK f t) (hC : cOK c) (hsp : 0 ≤ sp ∧ sp ≤ 2) : az_C sc az_G 117 [.inr (.inr 280)] m (fun v m' => v = none ∧ ∃ s', m' = az_set m 292 s' ∧ ∀ g, 0 ≤ g → g < f 2 → s' g = pShr f t c sp g) := by
  have hL := pLong_b hn.1 hT
  have hB := pBill_b hC hL.1 hL.2
  refine r_iconst ?_
  refine r_istore_n (Nat.le_of_ble_eq_true rfl) rfl ?_
  skip
  refine az_Em (az_s0 m 292).symm ?_
  refine az_lop (α := Int → Int) (fun g _ => [some (.inr (.inr 280)), some (.inl (g)), none, none, none, none, none]) (fun a => az_set m 292 a) (fun g a => ∀ j, 0 ≤ j → j < g → a j = 0) 0 4 (m 292) (by decide) (fun j h0 h1 => by omega) (fun g a h0 h1 hp hK => ?_) (fun s0 hp => ?_)
  · refine r_iload_n rfl ?_
    refine r_iconst ?_
    refine r_icmp_ge kX8_share_20 (fun c1 => absurd c1 (by omega)) (fun c1 => ?_)
    refine r_aload_n rfl ?_
    refine r_getR g_279 rfl ?_
    refine r_iload_n rfl ?_
    refine r_iconst ?_
    refine r_iast g_292 (by decide) (by omega) (by omega) ?_
    refine r_iinc rfl (az_wid (by omega) (by omega)) rfl ?_
    refine r_goto kX8_share_2 ?_
    refine az_Em (az_us _ _ _ _ _) (hK (up1 a g 0) (fun j hj0 hj1 => up1_eq (fun e => rfl) (fun e => hp j hj0 (by omega))))
  · by_cases hL0 : pLong f t = 0
    · refine r_iload_n rfl ?_
      refine r_iconst ?_
      refine r_icmp_ge kX8_share_20 (fun c1 => ?_) (fun c1 => absurd c1 (by omega))
      refine r_aload_n rfl ?_
      refine r_cV1I g_279 rfl (Nat.le_of_ble_eq_true rfl) (Nat.le_of_ble_eq_true rfl) (c_X8_longest hf ht hn) ?_
      refine r_istore_n (Nat.le_of_ble_eq_true rfl) rfl ?_
      refine r_aload_n rfl ?_
      refine r_cV1I g_279 rfl (Nat.le_of_ble_eq_true rfl) (Nat.le_of_ble_eq_true rfl) (c_X8_sum hf ht hc hn hT hC) ?_
      refine r_istore_n (Nat.le_of_ble_eq_true rfl) rfl ?_
      refine r_iload_n rfl ?_
      refine r_if_ne kX8_share_35 (fun c2 => absurd c2 (by omega)) (fun c2 => ?_)
      refine r_vret rfl ?_
      exact ⟨rfl, s0, rfl, fun g h0 h1 => by rw [pShr_0 hn hT hL0 h0 h1]; exact hp g h0 (by omega)⟩
    · rcases (show sp = 0 ∨ sp = 1 ∨ sp = 2 by omega) with h | h | h
      · subst h
        refine r_iload_n rfl ?_
        refine r_iconst ?_
        refine r_icmp_ge kX8_share_20 (fun c1 => ?_) (fun c1 => absurd c1 (by omega))
        refine r_aload_n rfl ?_
        refine r_cV1I g_279 rfl (Nat.le_of_ble_eq_true rfl) (Nat.le_of_ble_eq_true rfl) (c_X8_longest hf ht hn) ?_
        refine r_istore_n (Nat.le_of_ble_eq_true rfl) rfl ?_
        refine r_aload_n rfl ?_
        refine r_cV1I g_279 rfl (Nat.le_of_ble_eq_true rfl) (Nat.le_of_ble_eq_true rfl) (c_X8_sum hf ht hc hn hT hC) ?_
        refine r_istore_n (Nat.le_of_ble_eq_true rfl) rfl ?_
        refine r_iload_n rfl ?_
        refine r_if_ne kX8_share_35 (fun c2 => ?_) (fun c2 => absurd c2 (by omega))
        refine r_aload_n rfl ?_
        refine r_getIx g_279 (hs) ?_
        refine r_if_ne kX8_share_50 (fun c3 => absurd c3 (by omega)) (fun c3 => ?_)
        refine r_aload_n rfl ?_
        refine r_iload_n rfl ?_
        refine r_iload_n rfl ?_
        refine r_iconst ?_
        first | refine r_isub (az_wid (by omega) (by omega)) ?_ | refine r_isubw ?_
        refine r_cV3 g_279 rfl (Nat.le_of_ble_eq_true rfl) (Nat.le_of_ble_eq_true rfl) (c_X8_parts hf ht hn (by omega) (fun g h0 h1 => by rw [hp g h0 (by omega)]; omega)) (fun v_ m_ hq_ => ?_)
        obtain ⟨rfl, s2, rfl, hs2⟩ := hq_
        refine r_iconst ?_
        refine r_istore_n (Nat.le_of_ble_eq_true rfl) rfl ?_
        refine r_iload_n rfl ?_
        refine r_iload_n rfl ?_
        refine r_icmp_ge kX8_share_82 (fun c4 => absurd c4 (by omega)) (fun c4 => ?_)
        refine r_aload_n rfl ?_
        refine r_getIx g_279 (hs) ?_
        refine r_iconst ?_
        refine r_icmp_ne kX8_share_82 (fun c5 => ?_) (fun c5 => absurd c5 (by decide))
        refine r_aload_n rfl ?_
        refine r_getIx g_279 (hs) ?_
        refine r_iconst ?_
        refine r_icmp_ne kX8_share_232 (fun c6 => ?_) (fun c6 => absurd c6 (by decide))
        refine r_vret rfl ?_
        exact ⟨rfl, s2, rfl, fun g h0 h1 => by rw [hs2 g h0 h1, hp g h0 (by omega)]; unfold pShr; rw [if_pos rfl]; omega⟩
      · subst h
        have hd := pWgt_pos hn.1 hT (by omega)
        refine r_iload_n rfl ?_
        refine r_iconst ?_
        refine r_icmp_ge kX8_share_20 (fun c1 => ?_) (fun c1 => absurd c1 (by omega))
        refine r_aload_n rfl ?_
        refine r_cV1I g_279 rfl (Nat.le_of_ble_eq_true rfl) (Nat.le_of_ble_eq_true rfl) (c_X8_longest hf ht hn) ?_
        refine r_istore_n (Nat.le_of_ble_eq_true rfl) rfl ?_
        refine r_aload_n rfl ?_
        refine r_cV1I g_279 rfl (Nat.le_of_ble_eq_true rfl) (Nat.le_of_ble_eq_true rfl) (c_X8_sum hf ht hc hn hT hC) ?_
        refine r_istore_n (Nat.le_of_ble_eq_true rfl) rfl ?_
        refine r_iload_n rfl ?_
        refine r_if_ne kX8_share_35 (fun c2 => ?_) (fun c2 => absurd c2 (by omega))
        refine r_aload_n rfl ?_
        refine r_getIx g_279 (hs) ?_
        refine r_if_ne kX8_share_50 (fun c3 => ?_) (fun c3 => absurd c3 (by decide))
        refine r_iconst ?_
        refine r_istore_n (Nat.le_of_ble_eq_true rfl) rfl ?_
        refine r_iload_n rfl ?_
        refine r_iload_n rfl ?_
        refine r_icmp_ge kX8_share_82 (fun c4 => absurd c4 (by omega)) (fun c4 => ?_)
        refine r_aload_n rfl ?_
        refine r_getIx g_279 (hs) ?_
        refine r_iconst ?_
        refine r_icmp_ne kX8_share_82 (fun c5 => ?_) (fun c5 => absurd c5 (by decide))
        refine r_aload_n rfl ?_
        refine r_getIx g_279 (hs) ?_
        refine r_iconst ?_
        refine r_icmp_ne kX8_share_232 (fun c6 => absurd c6 (by decide)) (fun c6 => ?_)
        refine r_iconst ?_
        refine r_istore_n (Nat.le_of_ble_eq_true rfl) rfl ?_
        refine r_ldcI ?_
        refine r_istore (Nat.le_of_ble_eq_true rfl) rfl ?_
        refine r_iconst ?_
        refine r_istore (Nat.le_of_ble_eq_true rfl) rfl ?_
        skip
        refine az_lop (α := Int × Int) (fun g a => [some (.inr (.inr 280)), some (.inl (pLong f t)), some (.inl (pBill c (pLong f t))), some (.inl (a.1)), some (.inl (a.2)), some (.inl (g)), none]) (fun _ => az_set m 292 s0) (fun g a => a.1 = pWgt f t g ∧ a.2 = pFst t (pLong f t) g) 0 (f 2) (0, -1000000) hn.1 ⟨rfl, rfl⟩ (fun g a h0 h1 hq hK => ?_) (fun a hq => ?_)
        · obtain ⟨a1, a2⟩ := a
          obtain ⟨hq1, hq2⟩ := hq
          dsimp only at hq1 hq2 ⊢
          subst hq1 hq2
          have hh := pHeads_b f g
          have htg := hT g h0 h1
          have hWS := pWgt_S f t h0
          have hWb := pWgt_b hn.2 hT h0 (by omega)
          have hFS := pFst_S t (pLong f t) h0
          have hmb := az_mulb htg.1 htg.2 (show 0 ≤ pHeads f g by omega) hh.2
          refine r_iload rfl ?_
          refine r_aload_n rfl ?_
          refine r_getR g_279 rfl ?_
          refine r_iconst ?_
          refine r_ialdx g_284 rfl (by omega) (by omega) (by omega) (congrFun hf _) ?_
          refine r_icmp_ge kX8_share_160 (fun c1 => absurd c1 (by omega)) (fun c1 => ?_)
          refine r_iload_n rfl ?_
          refine r_aload_n rfl ?_
          refine r_getR g_279 rfl ?_
          refine r_iload rfl ?_
          refine r_ialdx g_290 rfl (by omega) (by omega) (by omega) (ht _ (by omega) (by omega)) ?_
          refine r_aload_n rfl ?_
          refine r_iload rfl ?_
          refine r_cV2I g_279 rfl (Nat.le_of_ble_eq_true rfl) (Nat.le_of_ble_eq_true rfl) (c_X8_heads hf (by omega) (by omega)) ?_
          refine r_imul (az_wid (by omega) (by omega)) ?_
          first | refine r_iadd (az_wid (by omega) (by omega)) ?_ | refine r_iaddw ?_
          refine r_istore_n (Nat.le_of_ble_eq_true rfl) rfl ?_
          refine r_iload rfl ?_
          refine r_ldcI ?_
          refine r_icmp_ne kX8_share_150 (fun c2 => ?_) (fun c2 => ?_)
          · refine r_iload rfl ?_
            refine r_istore (Nat.le_of_ble_eq_true rfl) rfl ?_
            refine r_iinc rfl (az_wid (by omega) (by omega)) rfl ?_
            refine r_goto kX8_share_99 ?_
            refine hK (_, _) ⟨by dsimp only; omega, ?_⟩; dsimp only; rw [hFS]; first | rw [if_pos ⟨by assumption, by assumption⟩] | (rw [if_neg (by omega)]; rfl) | rw [if_neg (by omega)]
          · refine r_aload_n rfl ?_
            refine r_getR g_279 rfl ?_
            refine r_iload rfl ?_
            refine r_ialdx g_290 rfl (by omega) (by omega) (by omega) (ht _ (by omega) (by omega)) ?_
            refine r_iload_n rfl ?_
            refine r_icmp_ne kX8_share_150 (fun c3 => ?_) (fun c3 => ?_)
            · refine r_iload rfl ?_
              refine r_istore (Nat.le_of_ble_eq_true rfl) rfl ?_
              refine r_iinc rfl (az_wid (by omega) (by omega)) rfl ?_
              refine r_goto kX8_share_99 ?_
              refine hK (_, _) ⟨by dsimp only; omega, ?_⟩; dsimp only; rw [hFS]; first | rw [if_pos ⟨by assumption, by assumption⟩] | (rw [if_neg (by omega)]; rfl) | rw [if_neg (by omega)]
            · refine r_iload rfl ?_
              refine r_goto kX8_share_152 ?_
              refine r_istore (Nat.le_of_ble_eq_true rfl) rfl ?_
              refine r_iinc rfl (az_wid (by omega) (by omega)) rfl ?_
              refine r_goto kX8_share_99 ?_
              refine hK (_, _) ⟨by dsimp only; omega, ?_⟩; dsimp only; rw [hFS]; first | rw [if_pos ⟨by assumption, by assumption⟩] | (rw [if_neg (by omega)]; rfl) | rw [if_neg (by omega)]
        · obtain ⟨a1, a2⟩ := a
          obtain ⟨hq1, hq2⟩ := hq
          dsimp only at hq1 hq2 ⊢
          subst hq1 hq2
          have hF := pFst_b t (pLong f t) hn.1
          have hF2 : 0 ≤ pFst t (pLong f t) (f 2) ∧ pFst t (pLong f t) (f 2) < f 2 := by
            rcases hF with hF | hF
            · rcases pLong_e hn.1 hT with h | ⟨g, h1, h2, h3⟩
              · exact absurd h hL0
              · exact absurd h3 (hF.2 g h1 h2)
            · exact hF
          refine r_iload rfl ?_
          refine r_aload_n rfl ?_
          refine r_getR g_279 rfl ?_
          refine r_iconst ?_
          refine r_ialdx g_284 rfl (by omega) (by omega) (by omega) (congrFun hf _) ?_
          refine r_icmp_ge kX8_share_160 (fun c1 => ?_) (fun c1 => absurd c1 (by omega))
          refine r_iload_n rfl ?_
          refine r_istore (Nat.le_of_ble_eq_true rfl) rfl ?_
          refine r_iconst ?_
          refine r_istore (Nat.le_of_ble_eq_true rfl) rfl ?_
          skip
          refine az_lop (α := (Int → Int) × Int) (fun g a => [some (.inr (.inr 280)), some (.inl (pLong f t)), some (.inl (pBill c (pLong f t))), some (.inl (pWgt f t (f 2))), some (.inl (pFst t (pLong f t) (f 2))), some (.inl (a.2)), some (.inl (g))]) (fun a => az_set m 292 a.1) (fun g a => (∀ j, 0 ≤ j → j < g → a.1 j = pBill c (pLong f t) * t j * pHeads f j / pWgt f t (f 2)) ∧ a.2 = pLft f t (pBill c (pLong f t)) g) 0 (f 2) (s0, _) hn.1 ⟨fun j h0 h1 => by omega, rfl⟩ (fun g a h0 h1 hq hK => ?_) (fun a hq => ?_)
          · obtain ⟨s1, lf⟩ := a
            obtain ⟨hq1, hq2⟩ := hq
            dsimp only at hq1 hq2 ⊢
            subst hq2
            have hw := pW1_b hT (S := pBill c (pLong f t)) (by omega) h0 h1
            have hLS := pLft_S f t (pBill c (pLong f t)) h0
            have hLb := pLft_b hn hT (S := pBill c (pLong f t)) hB.1 hd h0 (by omega)
            have hv : ∀ F : Int → Int, ∀ v, az_up (az_set m 292 F) 292 g v 292 g = v := fun F v => az_up_at _ _ _ _
            have hq0 : 0 ≤ pBill c (pLong f t) * t g * pHeads f g / pWgt f t (f 2) := Int.ediv_nonneg hw.2.1 (by omega)
            have hq3 : pBill c (pLong f t) * t g * pHeads f g / pWgt f t (f 2) ≤ pBill c (pLong f t) * t g * pHeads f g := Int.ediv_le_self _ hw.2.1
            refine r_iload rfl ?_
            refine r_aload_n rfl ?_
            refine r_getR g_279 rfl ?_
            refine r_iconst ?_
            refine r_ialdx g_284 rfl (by omega) (by omega) (by omega) (congrFun hf _) ?_
            refine r_icmp_ge kX8_share_220 (fun c1 => absurd c1 (by omega)) (fun c1 => ?_)
            refine r_aload_n rfl ?_
            refine r_getR g_279 rfl ?_
            refine r_iload rfl ?_
            refine r_iload_n rfl ?_
            refine r_aload_n rfl ?_
            refine r_getR g_279 rfl ?_
            refine r_iload rfl ?_
            refine r_ialdx g_290 rfl (by omega) (by omega) (by omega) (ht _ (by omega) (by omega)) ?_
            refine r_imul (az_wid (by omega) (by omega)) ?_
            refine r_aload_n rfl ?_
            refine r_iload rfl ?_
            refine r_cV2I g_279 rfl (Nat.le_of_ble_eq_true rfl) (Nat.le_of_ble_eq_true rfl) (c_X8_heads hf (by omega) (by omega)) ?_
            refine r_imul (az_wid (by omega) (by omega)) ?_
            refine r_iload_n rfl ?_
            first | refine r_idiv (by omega) (az_divn (by omega) (by omega) (by omega)) ?_ | refine r_idiv (by omega) rfl ?_
            refine r_iast g_292 (by decide) (by omega) (by omega) ?_
            refine r_iload rfl ?_
            refine r_aload_n rfl ?_
            refine r_getR g_279 rfl ?_
            refine r_iload rfl ?_
            refine r_ialdx g_292 rfl (by omega) (by omega) (by omega) (hv _ _) ?_
            first | refine r_isub (az_wid (by omega) (by omega)) ?_ | refine r_isubw ?_
            refine r_istore (Nat.le_of_ble_eq_true rfl) rfl ?_
            refine r_iinc rfl (az_wid (by omega) (by omega)) rfl ?_
            refine r_goto kX8_share_166 ?_
            refine az_Em (az_us _ _ _ _ _) (hK (up1 s1 g (pBill c (pLong f t) * t g * pHeads f g / pWgt f t (f 2)), _) ⟨fun j hj0 hj1 => up1_eq (fun e => by rw [e]) (fun e => hq1 j hj0 (by omega)), by dsimp only; omega⟩)
          · obtain ⟨s1, lf⟩ := a
            obtain ⟨hq1, hq2⟩ := hq
            dsimp only at hq1 hq2 ⊢
            subst hq2
            have hw := pW1_b hT (S := pBill c (pLong f t)) (by omega) hF2.1 hF2.2
            have hLb := pLft_b hn hT (S := pBill c (pLong f t)) hB.1 hd hn.1 (by omega)
            have hq1F := hq1 _ hF2.1 hF2.2
            have hq0 : 0 ≤ pBill c (pLong f t) * t (pFst t (pLong f t) (f 2)) * pHeads f (pFst t (pLong f t) (f 2)) / pWgt f t (f 2) := Int.ediv_nonneg hw.2.1 (by omega)
            have hq3 : pBill c (pLong f t) * t (pFst t (pLong f t) (f 2)) * pHeads f (pFst t (pLong f t) (f 2)) / pWgt f t (f 2) ≤ pBill c (pLong f t) * t (pFst t (pLong f t) (f 2)) * pHeads f (pFst t (pLong f t) (f 2)) := Int.ediv_le_self _ hw.2.1
            refine r_iload rfl ?_
            refine r_aload_n rfl ?_
            refine r_getR g_279 rfl ?_
            refine r_iconst ?_
            refine r_ialdx g_284 rfl (by omega) (by omega) (by omega) (congrFun hf _) ?_
            refine r_icmp_ge kX8_share_220 (fun c1 => ?_) (fun c1 => absurd c1 (by omega))
            refine r_aload_n rfl ?_
            refine r_getR g_279 rfl ?_
            refine r_iload rfl ?_
            refine r_dup2 ?_
            refine r_ialdx g_292 rfl (by omega) (by omega) (by omega) (congrFun (rfl : s1 = s1) _) ?_
            refine r_iload rfl ?_
            first | refine r_iadd (az_wid (by omega) (by omega)) ?_ | refine r_iaddw ?_
            refine r_iast g_292 (by decide) (by omega) (by omega) ?_
            refine r_vret rfl ?_
            refine ⟨rfl, _, az_us _ _ _ _ _, fun g h0 h1 => ?_⟩; unfold pShr pByW; rw [if_neg (by decide), if_pos rfl, if_neg (by omega)]; refine up1_eq (fun e => by rw [if_pos e, e, hq1F]) (fun e => by rw [if_neg e, hq1 g h0 h1]; omega)
      · subst h
        refine r_iload_n rfl ?_
        refine r_iconst ?_
        refine r_icmp_ge kX8_share_20 (fun c1 => ?_) (fun c1 => absurd c1 (by omega))
        refine r_aload_n rfl ?_
        refine r_cV1I g_279 rfl (Nat.le_of_ble_eq_true rfl) (Nat.le_of_ble_eq_true rfl) (c_X8_longest hf ht hn) ?_
        refine r_istore_n (Nat.le_of_ble_eq_true rfl) rfl ?_
        refine r_aload_n rfl ?_
        refine r_cV1I g_279 rfl (Nat.le_of_ble_eq_true rfl) (Nat.le_of_ble_eq_true rfl) (c_X8_sum hf ht hc hn hT hC) ?_
        refine r_istore_n (Nat.le_of_ble_eq_true rfl) rfl ?_
        refine r_iload_n rfl ?_
        refine r_if_ne kX8_share_35 (fun c2 => ?_) (fun c2 => absurd c2 (by omega))
        refine r_aload_n rfl ?_
        refine r_getIx g_279 (hs) ?_
        refine r_if_ne kX8_share_50 (fun c3 => ?_) (fun c3 => absurd c3 (by decide))
        refine r_iconst ?_
        refine r_istore_n (Nat.le_of_ble_eq_true rfl) rfl ?_
        skip
        refine az_lop (α := Int → Int) (fun h _ => [some (.inr (.inr 280)), some (.inl (pLong f t)), some (.inl (pBill c (pLong f t))), some (.inl (h)), none, none, none]) (fun a => az_set m 292 a) (fun h a => ∀ j, 0 ≤ j → j < f 2 → a j = pByH f t c j h) 0 (pLong f t) s0 hL.1 (fun j h0 h1 => by rw [hp j h0 (by omega)]; rfl) (fun h a h0 h1 hq hK => ?_) (fun a hq => ?_)
        · have hch := hC h h0 (by omega)
          refine r_iload_n rfl ?_
          refine r_iload_n rfl ?_
          refine r_icmp_ge kX8_share_82 (fun c1 => absurd c1 (by omega)) (fun c1 => ?_)
          refine r_aload_n rfl ?_
          refine r_getIx g_279 (hs) ?_
          refine r_iconst ?_
          refine r_icmp_ne kX8_share_82 (fun c2 => absurd c2 (by decide)) (fun c2 => ?_)
          refine r_aload_n rfl ?_
          refine r_aload_n rfl ?_
          refine r_getR g_279 rfl ?_
          refine r_iload_n rfl ?_
          refine r_ialdx g_291 rfl (by omega) (by omega) (by omega) (hc _ (by omega) (by omega)) ?_
          refine r_iload_n rfl ?_
          refine r_cV3 g_279 rfl (Nat.le_of_ble_eq_true rfl) (Nat.le_of_ble_eq_true rfl) (c_X8_parts hf ht hn (by omega) (fun g g0 g1 => by rw [hq g g0 g1]; have := pByH_b (f := f) (t := t) hC g0 g1 h0 (by omega); omega)) (fun v_ m_ hq_ => ?_)
          obtain ⟨rfl, s2, rfl, hs2⟩ := hq_
          refine r_iinc rfl (az_wid (by omega) (by omega)) rfl ?_
          refine r_goto kX8_share_52 ?_
          exact hK s2 (fun j j0 j1 => by rw [hs2 j j0 j1, hq j j0 j1, pByH_S f t c j h0])
        · refine r_iload_n rfl ?_
          refine r_iload_n rfl ?_
          refine r_icmp_ge kX8_share_82 (fun c1 => ?_) (fun c1 => absurd c1 (by omega))
          refine r_aload_n rfl ?_
          refine r_getIx g_279 (hs) ?_
          refine r_iconst ?_
          refine r_icmp_ne kX8_share_232 (fun c2 => ?_) (fun c2 => absurd c2 (by decide))
          refine r_vret rfl ?_
          exact ⟨rfl, a, rfl, fun g h0 h1 => by rw [hq g h0 h1]; unfold pShr; rw [if_neg (by decide), if_neg (by decide)]; exact pByH_e (hT g h0 h1).1 (pLong_m hn.1 hT g h0 h1)⟩
end RB
end
section
/-! THE REFERENCE: joys, worths, the best hour -/
section RC
variable {sc : aX} {m : aM} {f t c : Int → Int} {sp : Int} {Q : Option aV → aM → Prop}
theorem az_oI {x y : Int} (h : x = y) : (some (Sum.inl x) : Option aV) = some (Sum.inl y) := by rw [h]
theorem az_oL {x y : Int} (h : x = y) : (some (Sum.inr (Sum.inl x)) : Option aV) = some (Sum.inr (Sum.inl y)) := by rw [h]
/-- the day that the reference has before it -/
def rD (m : aM) (f t c : Int → Int) (sp : Int) : Prop := m 284 = f ∧ (∀ g, 0 ≤ g → g < f 2 → m 290 g = t g) ∧ (∀ h, 0 ≤ h → h < 6 → m 291 h = c h) ∧ m 279 23 = sp ∧ nOK f ∧ tOK f t ∧ cOK c ∧ (0 ≤ sp ∧ sp ≤ 2)
/-- all cells but told and shares are as they were -/
def fr2 (m m' : aM) : Prop := ∀ b, b ≠ 290 → b ≠ 292 → m' b = m b
theorem fr2_r (m : aM) : fr2 m m := fun _ _ _ => rfl
theorem fr2_t {m m1 m2 : aM} (h1 : fr2 m m1) (h2 : fr2 m1 m2) : fr2 m m2 := fun b hb hb2 => (h2 b hb hb2).trans (h1 b hb hb2)
theorem fr2_s (m : aM) (s : Int → Int) : fr2 m (az_set m 292 s) := fun b _ hb => if_neg hb
theorem fr2_u (m : aM) (g n : Int) : fr2 m (az_up m 290 g n) := fun b hb _ => by
  funext j
  simp [az_up, hb]
theorem rD_fr {m m' : aM} {t' : Int → Int} (h : rD m f t c sp) (hf : fr2 m m') (ht : ∀ g, 0 ≤ g → g < f 2 → m' 290 g = t' g) (hT : tOK f t') : rD m' f t' c sp := by
  obtain ⟨h1, h2, h3, h4, h5, h6, h7, h8⟩ := h
  refine ⟨(hf _ (by decide) (by decide)).trans h1, ht, fun j h0 h1 => ?_, ?_, h5, hT, h7, h8⟩
  · rw [hf 291 (by decide) (by decide)]; exact h3 j h0 h1
  · rw [hf 279 (by decide) (by decide)]; exact h4
theorem rD_u {m : aM} {g n : Int} (h : rD m f t c sp) (hn : 0 ≤ n ∧ n ≤ 6) : rD (az_up m 290 g n) f (up1 t g n) c sp := by
  refine rD_fr h (fr2_u m g n) (fun j h0 h1 => ?_) (tOK_up h.2.2.2.2.2.1 hn)
  unfold az_up up1
  by_cases e : j = g
  · rw [if_pos ⟨rfl, e⟩, if_pos e]
  · rw [if_neg (fun q => e q.2), if_neg e]
    exact h.2.1 j h0 h1
theorem c_X8_payOf {g x : Int} (hf : m 284 = f) (ht : ∀ g, 0 ≤ g → g < f 2 → m 290 g = t g) (hN : nOK f) (hT : tOK f t) (hx : m 292 g = x) (hx2 : 0 ≤ x ∧ x ≤ 3000) (h0 : 0 ≤ g) (h1 : g < f 2) : az_CI sc 118 [.inr (.inr 280), .inl g] m (x + (if f (40 + g) = 1 then f 1 * t g else 0)) m := by
  have hn := nOK_2 hN
  have hfe := pFee_b (nOK_1 hN) (hT g h0 h1)
  refine r_aload_n rfl ?_
  refine r_getR g_279 rfl ?_
  refine r_iload_n rfl ?_
  refine r_ialdx g_292 rfl (by omega) (by omega) (by omega) (hx) ?_
  refine r_aload_n rfl ?_
  refine r_getR g_279 rfl ?_
  refine r_bipush ?_
  refine r_iload_n rfl ?_
  first | refine r_iadd (az_wid (by omega) (by omega)) ?_ | refine r_iaddw ?_
  refine r_ialdx g_284 rfl (by omega) (by omega) (by omega) (congrFun hf _) ?_
  refine r_iconst ?_
  refine r_icmp_ne kX8_payOf_35 (fun c1 => ?_) (fun c1 => ?_)
  · refine r_iconst ?_
    first | refine r_iadd (az_wid (by omega) (by omega)) ?_ | refine r_iaddw ?_
    refine r_iret rfl ?_
    refine ⟨az_oI ?_, rfl⟩; (repeat' split) <;> first | rfl | (exfalso; omega)
  · refine r_aload_n rfl ?_
    refine r_getR g_279 rfl ?_
    refine r_iconst ?_
    refine r_ialdx g_284 rfl (by omega) (by omega) (by omega) (congrFun hf _) ?_
    refine r_aload_n rfl ?_
    refine r_getR g_279 rfl ?_
    refine r_iload_n rfl ?_
    refine r_ialdx g_290 rfl (by omega) (by omega) (by omega) (ht _ (by omega) (by omega)) ?_
    refine r_imul (az_wid (by omega) (by omega)) ?_
    refine r_goto kX8_payOf_36 ?_
    first | refine r_iadd (az_wid (by omega) (by omega)) ?_ | refine r_iaddw ?_
    refine r_iret rfl ?_
    refine ⟨az_oI ?_, rfl⟩; (repeat' split) <;> first | rfl | (exfalso; omega)
theorem l_X8_joyOf {g h j : Int} (hf : m 284 = f) (ht : ∀ g, 0 ≤ g → g < f 2 → m 290 g = t g) (hN : nOK f) (hT : tOK f t) (h0 : 0 ≤ g) (h1 : g < f 2) (hj : j = pJ0 f g h) : az_E sc az_G 134 zX8_joyOf_62 [some (.inr (.inr 280)), some (.inl (g)), some (.inl (h)), some (.inl (f (12 + g))), some (.inl (f (16 + g))), none, none, none] [.inl j] m (fun v m' => v = some (.inl (pJoy f t g h)) ∧ m' = m) := by
  have hn := nOK_2 hN
  have hG := nOK_g hN g h0 h1
  have hJ := pJ0_b (h := h) hG.2.1
  refine r_istore (Nat.le_of_ble_eq_true rfl) rfl ?_
  refine r_iconst ?_
  refine r_istore (Nat.le_of_ble_eq_true rfl) rfl ?_
  refine r_iconst ?_
  refine r_istore (Nat.le_of_ble_eq_true rfl) rfl ?_
  skip
  refine az_lop (α := Int) (fun o a => [some (.inr (.inr 280)), some (.inl (g)), some (.inl (h)), some (.inl (f (12 + g))), some (.inl (f (16 + g))), some (.inl (j)), some (.inl (a)), some (.inl (o))]) (fun _ => m) (fun o a => a = pOth f t g h o) 0 (f 2) 0 hn.1 rfl (fun o a h2 h3 hp hK => ?_) (fun a hp => ?_)
  · have hS := pOth_S f t g h h2
    have hB := pOth_b f t g h h2
    rw [← hp] at hS hB
    refine r_iload rfl ?_
    refine r_aload_n rfl ?_
    refine r_getR g_279 rfl ?_
    refine r_iconst ?_
    refine r_ialdx g_284 rfl (by omega) (by omega) (by omega) (congrFun hf _) ?_
    refine r_icmp_ge kX8_joyOf_114 (fun c1 => absurd c1 (by omega)) (fun c1 => ?_)
    refine r_iload rfl ?_
    refine r_iload rfl ?_
    refine r_iload_n rfl ?_
    refine r_icmp_eq kX8_joyOf_104 (fun c2 => ?_) (fun c2 => ?_)
    · refine r_iconst ?_
      first | refine r_iadd (az_wid (by omega) (by omega)) ?_ | refine r_iaddw ?_
      refine r_istore (Nat.le_of_ble_eq_true rfl) rfl ?_
      refine r_iinc rfl (az_wid (by omega) (by omega)) rfl ?_
      refine r_goto kX8_joyOf_70 ?_
      refine hK _ (by rw [hS]; first | rw [if_pos (by omega)] | (rw [if_neg (by omega)]; omega))
    · refine r_aload_n rfl ?_
      refine r_getR g_279 rfl ?_
      refine r_iload rfl ?_
      refine r_ialdx g_290 rfl (by omega) (by omega) (by omega) (ht _ (by omega) (by omega)) ?_
      refine r_iload_n rfl ?_
      refine r_icmp_le kX8_joyOf_104 (fun c3 => ?_) (fun c3 => ?_)
      · refine r_iconst ?_
        first | refine r_iadd (az_wid (by omega) (by omega)) ?_ | refine r_iaddw ?_
        refine r_istore (Nat.le_of_ble_eq_true rfl) rfl ?_
        refine r_iinc rfl (az_wid (by omega) (by omega)) rfl ?_
        refine r_goto kX8_joyOf_70 ?_
        refine hK _ (by rw [hS]; first | rw [if_pos (by omega)] | (rw [if_neg (by omega)]; omega))
      · refine r_iconst ?_
        refine r_goto kX8_joyOf_105 ?_
        first | refine r_iadd (az_wid (by omega) (by omega)) ?_ | refine r_iaddw ?_
        refine r_istore (Nat.le_of_ble_eq_true rfl) rfl ?_
        refine r_iinc rfl (az_wid (by omega) (by omega)) rfl ?_
        refine r_goto kX8_joyOf_70 ?_
        refine hK _ (by rw [hS]; first | rw [if_pos (by omega)] | (rw [if_neg (by omega)]; omega))
  · have hB := pOth_b f t g h hn.1
    rw [← hp] at hB
    refine r_iload rfl ?_
    refine r_aload_n rfl ?_
    refine r_getR g_279 rfl ?_
    refine r_iconst ?_
    refine r_ialdx g_284 rfl (by omega) (by omega) (by omega) (congrFun hf _) ?_
    refine r_icmp_ge kX8_joyOf_114 (fun c1 => ?_) (fun c1 => absurd c1 (by omega))
    refine r_iload_n rfl ?_
    refine r_iconst ?_
    refine r_icmp_ne kX8_joyOf_134 (fun c2 => ?_) (fun c2 => ?_)
    · refine r_iload_n rfl ?_
      refine r_iconst ?_
      refine r_icmp_ne kX8_joyOf_147 (fun c3 => ?_) (fun c3 => ?_)
      · refine r_iload_n rfl ?_
        refine r_iconst ?_
        refine r_icmp_lt kX8_joyOf_160 (fun c4 => ?_) (fun c4 => ?_)
        · refine r_iload rfl ?_
          refine r_iret rfl ?_
          refine ⟨az_oI ?_, rfl⟩; rw [pJoy_e, ← hp]; unfold pJoyA; rw [← hj]; (repeat' split) <;> omega
        · refine r_iload rfl ?_
          refine r_iload rfl ?_
          first | refine r_isub (az_wid (by omega) (by omega)) ?_ | refine r_isubw ?_
          refine r_goto kX8_joyOf_162 ?_
          refine r_iret rfl ?_
          refine ⟨az_oI ?_, rfl⟩; rw [pJoy_e, ← hp]; unfold pJoyA; rw [← hj]; (repeat' split) <;> omega
      · refine r_iload rfl ?_
        refine r_iload rfl ?_
        first | refine r_iadd (az_wid (by omega) (by omega)) ?_ | refine r_iaddw ?_
        refine r_goto kX8_joyOf_162 ?_
        refine r_iret rfl ?_
        refine ⟨az_oI ?_, rfl⟩; rw [pJoy_e, ← hp]; unfold pJoyA; rw [← hj]; (repeat' split) <;> omega
    · refine r_iload_n rfl ?_
      refine r_iconst ?_
      refine r_icmp_ge kX8_joyOf_131 (fun c5 => ?_) (fun c5 => ?_)
      · refine r_iload rfl ?_
        refine r_iret rfl ?_
        refine ⟨az_oI ?_, rfl⟩; rw [pJoy_e, ← hp]; unfold pJoyA; rw [← hj]; (repeat' split) <;> omega
      · refine r_iconst ?_
        refine r_iload rfl ?_
        first | refine r_imul (az_wid (by omega) (by omega)) ?_ | refine r_imulw ?_
        refine r_goto kX8_joyOf_133 ?_
        refine r_iret rfl ?_
        refine ⟨az_oI ?_, rfl⟩; rw [pJoy_e, ← hp]; unfold pJoyA; rw [← hj]; (repeat' split) <;> omega
theorem c_X8_joyOf {g h : Int} (hf : m 284 = f) (ht : ∀ g, 0 ≤ g → g < f 2 → m 290 g = t g) (hN : nOK f) (hT : tOK f t) (h0 : 0 ≤ g) (h1 : g < f 2) : az_CI sc 134 [.inr (.inr 280), .inl g, .inl h] m (pJoy f t g h) m := by
  have hn := nOK_2 hN
  have hG := nOK_g hN g h0 h1
  refine r_aload_n rfl ?_
  refine r_getR g_279 rfl ?_
  refine r_bipush ?_
  refine r_iload_n rfl ?_
  first | refine r_iadd (az_wid (by omega) (by omega)) ?_ | refine r_iaddw ?_
  refine r_ialdx g_284 rfl (by omega) (by omega) (by omega) (congrFun hf _) ?_
  refine r_istore_n (Nat.le_of_ble_eq_true rfl) rfl ?_
  refine r_aload_n rfl ?_
  refine r_getR g_279 rfl ?_
  refine r_bipush ?_
  refine r_iload_n rfl ?_
  first | refine r_iadd (az_wid (by omega) (by omega)) ?_ | refine r_iaddw ?_
  refine r_ialdx g_284 rfl (by omega) (by omega) (by omega) (congrFun hf _) ?_
  refine r_istore (Nat.le_of_ble_eq_true rfl) rfl ?_
  refine r_aload_n rfl ?_
  refine r_getR g_279 rfl ?_
  refine r_bipush ?_
  refine r_iload_n rfl ?_
  first | refine r_iadd (az_wid (by omega) (by omega)) ?_ | refine r_iaddw ?_
  refine r_ialdx g_284 rfl (by omega) (by omega) (by omega) (congrFun hf _) ?_
  refine r_iconst ?_
  refine r_icmp_ne kX8_joyOf_41 (fun c1 => ?_) (fun c1 => ?_)
  · refine r_iload_n rfl ?_
    refine r_aload_n rfl ?_
    refine r_getR g_279 rfl ?_
    refine r_bipush ?_
    refine r_iload_n rfl ?_
    first | refine r_iadd (az_wid (by omega) (by omega)) ?_ | refine r_iaddw ?_
    refine r_ialdx g_284 rfl (by omega) (by omega) (by omega) (congrFun hf _) ?_
    refine r_icmp_lt kX8_joyOf_60 (fun c2 => ?_) (fun c2 => ?_)
    · refine r_iload rfl ?_
      exact l_X8_joyOf hf ht hN hT h0 h1 (by unfold pJ0; (repeat' split) <;> first | rfl | omega)
    · refine r_iload rfl ?_
      first | refine r_ineg (az_wid (by omega) (by omega)) ?_ | refine r_ineg rfl ?_
      refine r_goto kX8_joyOf_62 ?_
      exact l_X8_joyOf hf ht hN hT h0 h1 (by unfold pJ0; (repeat' split) <;> first | rfl | omega)
  · refine r_iload rfl ?_
    refine r_iconst ?_
    first | refine r_idiv (by omega) (az_divn (by omega) (by omega) (by omega)) ?_ | refine r_idiv (by omega) rfl ?_
    refine r_goto kX8_joyOf_62 ?_
    exact l_X8_joyOf hf ht hN hT h0 h1 (by unfold pJ0; (repeat' split) <;> first | rfl | omega)
theorem c_X8_worthOf {g : Int} (hD : rD m f t c sp) (h0 : 0 ≤ g) (h1 : g < f 2) : az_C sc az_G 135 [.inr (.inr 280), .inl g] m (fun v m' => v = some (.inl (pWor f t c sp g)) ∧ ∃ s', m' = az_set m 292 s' ∧ ∀ g, 0 ≤ g → g < f 2 → s' g = pShr f t c sp g) := by
  obtain ⟨hf, ht, hc, hs, hN, hT, hC, hsp⟩ := hD
  have hn := nOK_2 hN
  have hG := nOK_g hN g h0 h1
  have hb := pShr_b (sp := sp) hn hT hC h0 h1
  have hpb := pPay_b (sp := sp) hn (nOK_1 hN) hT hC h0 h1
  have htg := hT g h0 h1
  refine r_aload_n rfl ?_
  refine r_cV1 g_279 rfl (Nat.le_of_ble_eq_true rfl) (Nat.le_of_ble_eq_true rfl) (c_X8_share hf ht hc hs hn hT hC hsp) (fun v_ m_ hq_ => ?_)
  obtain ⟨rfl, s1, rfl, hs1⟩ := hq_
  refine r_aload_n rfl ?_
  refine r_iload_n rfl ?_
  refine r_cV2I g_279 rfl (Nat.le_of_ble_eq_true rfl) (Nat.le_of_ble_eq_true rfl) (show az_CI _ _ _ (az_set m 292 s1) (pPay f t c sp g) (az_set m 292 s1) from c_X8_payOf hf ht hN hT (hs1 g h0 h1) hb h0 h1) ?_
  first | refine r_ineg (az_wid (by omega) (by omega)) ?_ | refine r_ineg rfl ?_
  refine r_istore_n (Nat.le_of_ble_eq_true rfl) rfl ?_
  refine r_iconst ?_
  refine r_istore_n (Nat.le_of_ble_eq_true rfl) rfl ?_
  skip
  refine az_lop (α := Int) (fun h a => [some (.inr (.inr 280)), some (.inl (g)), some (.inl (a)), some (.inl (h))]) (fun _ => az_set m 292 s1) (fun h a => a = pJoys f t g h - pPay f t c sp g) 0 (t g) _ htg.1 (by have e : pJoys f t g 0 = 0 := rfl; rw [e]; omega) (fun h a h2 h3 hp hK => ?_) (fun a hp => ?_)
  · have hS := pJoys_S f t g h2
    have hB := pJoys_b (t := t) hn hG.2.1 h2
    have hB2 := pJoy_b (t := t) (h := h) hn hG.2.1
    refine r_iload_n rfl ?_
    refine r_aload_n rfl ?_
    refine r_getR g_279 rfl ?_
    refine r_iload_n rfl ?_
    refine r_ialdx g_290 rfl (by omega) (by omega) (by omega) (ht _ (by omega) (by omega)) ?_
    refine r_icmp_ge kX8_worthOf_38 (fun c1 => absurd c1 (by omega)) (fun c1 => ?_)
    refine r_iload_n rfl ?_
    refine r_aload_n rfl ?_
    refine r_iload_n rfl ?_
    refine r_iload_n rfl ?_
    refine r_cV3I g_279 rfl (Nat.le_of_ble_eq_true rfl) (Nat.le_of_ble_eq_true rfl) (c_X8_joyOf hf ht hN hT h0 h1) ?_
    first | refine r_iadd (az_wid (by omega) (by omega)) ?_ | refine r_iaddw ?_
    refine r_istore_n (Nat.le_of_ble_eq_true rfl) rfl ?_
    refine r_iinc rfl (az_wid (by omega) (by omega)) rfl ?_
    refine r_goto kX8_worthOf_13 ?_
    exact hK _ (by omega)
  · refine r_iload_n rfl ?_
    refine r_aload_n rfl ?_
    refine r_getR g_279 rfl ?_
    refine r_iload_n rfl ?_
    refine r_ialdx g_290 rfl (by omega) (by omega) (by omega) (ht _ (by omega) (by omega)) ?_
    refine r_icmp_ge kX8_worthOf_38 (fun c1 => ?_) (fun c1 => absurd c1 (by omega))
    refine r_iload_n rfl ?_
    refine r_iret rfl ?_
    exact ⟨az_oI hp, s1, rfl, hs1⟩
/-- the same, as callers want it -/
theorem c_X8_worthOf2 {g : Int} (hD : rD m f t c sp) (h0 : 0 ≤ g) (h1 : g < f 2) : az_C sc az_G 135 [.inr (.inr 280), .inl g] m (fun v m' => v = some (.inl (pWor f t c sp g)) ∧ fr2 m m' ∧ rD m' f t c sp ∧ m' 290 = m 290) := by
  refine az_C_mono (c_X8_worthOf hD h0 h1) (fun v m' hq => ?_)
  obtain ⟨rfl, s', rfl, _⟩ := hq
  exact ⟨rfl, fr2_s m s', rD_fr hD (fr2_s m s') hD.2.1 hD.2.2.2.2.2.1, rfl⟩
theorem pBstK_S (f t c : Int → Int) (sp g : Int) {k : Int} (h : 0 ≤ k) : pBstK f t c sp g (k + 1) = if k = 0 ∨ pW f t c sp g (pBstK f t c sp g k) < pW f t c sp g k then k else pBstK f t c sp g k := az_FS _ _ h
theorem az_upup (m : aM) (a : Nat) (i v w : Int) : az_up (az_up m a i v) a i w = az_up m a i w := by
  funext b j
  simp only [az_up]
  split <;> rfl
/-- told is as it was, but one place -/
def rT (m m' : aM) (g n : Int) : Prop := fr2 m m' ∧ m' 290 = up1 (m 290) g n
theorem rT_u {m m' : aM} {g n : Int} (h : rT m m' g n) (k : Int) : rT m (az_up m' 290 g k) g k := by
  refine ⟨fr2_t h.1 (fr2_u m' g k), ?_⟩
  funext j
  have := congrFun h.2 j
  unfold az_up up1 at *
  by_cases e : j = g
  · rw [if_pos ⟨rfl, e⟩, if_pos e]
  · rw [if_neg (fun q => e q.2), if_neg e, this, if_neg e]
theorem rT_f {m m1 m2 : aM} {g n : Int} (h : rT m m1 g n) (hf : fr2 m1 m2) (ht : m2 290 = m1 290) : rT m m2 g n := ⟨fr2_t h.1 hf, ht.trans h.2⟩
theorem rT_0 (m : aM) (g : Int) : rT m m g (m 290 g) := ⟨fr2_r m, (up1_id _ _).symm⟩
theorem rT_D {m m' : aM} {g n : Int} (hD : rD m f t c sp) (h : rT m m' g n) (hn : 0 ≤ n ∧ n ≤ 6) : rD m' f (up1 t g n) c sp := by
  refine rD_fr hD h.1 (fun j h0 h1 => ?_) (tOK_up hD.2.2.2.2.2.1 hn)
  rw [h.2]
  unfold up1
  split
  · rfl
  · exact hD.2.1 j h0 h1
theorem rT_back {m m' : aM} {g : Int} (h : rT m m' g (m 290 g)) : m' 290 = m 290 := h.2.trans (up1_id _ _)
theorem c_X8_bestOf {g : Int} (hD : rD m f t c sp) (h0 : 0 ≤ g) (h1 : g < f 2) : az_C sc az_G 139 [.inr (.inr 280), .inl g] m (fun v m' => v = some (.inl (pBst f t c sp g)) ∧ fr2 m m' ∧ m' 290 = m 290) := by
  have hD0 := hD
  obtain ⟨hf, ht, hc, hs, hN, hT, hC, hsp⟩ := hD
  have hn := nOK_2 hN
  have htg := hT g h0 h1
  have htm := ht g h0 h1
  refine r_aload_n rfl ?_
  refine r_getR g_279 rfl ?_
  refine r_iload_n rfl ?_
  refine r_ialdx g_290 rfl (by omega) (by omega) (by omega) (ht _ (by omega) (by omega)) ?_
  refine r_istore_n (Nat.le_of_ble_eq_true rfl) rfl ?_
  refine r_iconst ?_
  refine r_istore_n (Nat.le_of_ble_eq_true rfl) rfl ?_
  refine r_iconst ?_
  refine r_istore (Nat.le_of_ble_eq_true rfl) rfl ?_
  refine r_iconst ?_
  refine r_istore (Nat.le_of_ble_eq_true rfl) rfl ?_
  skip
  refine az_lop (α := aM × Int × Int × Int × Option aV) (fun n a => [some (.inr (.inr 280)), some (.inl (g)), some (.inl (t g)), some (.inl (a.2.1)), some (.inl (a.2.2.1)), some (.inl (n)), a.2.2.2.2]) (fun a => a.1) (fun n a => rT m a.1 g a.2.2.2.1 ∧ a.2.1 = pBstK f t c sp g n ∧ (n = 0 ∨ a.2.2.1 = pW f t c sp g a.2.1) ∧ (0 ≤ a.2.1 ∧ a.2.1 ≤ 6)) 0 7 (m, 0, 0, m 290 g, none) (by decide) ⟨rT_0 m g, rfl, Or.inl rfl, by dsimp only; omega⟩ (fun n a h2 h3 hp hK => ?_) (fun a hp => ?_)
  · obtain ⟨m1, b, w, x, o⟩ := a
    obtain ⟨hp1, hp2, hp3, hp4⟩ := hp
    dsimp only at hp1 hp2 hp3 hp4 ⊢
    have hS := pBstK_S f t c sp g h2
    rw [← hp2] at hS
    have hT1 := rT_u hp1 n
    have hD1 := rT_D hD0 hT1 (by omega)
    have hwb := pWor_b (sp := sp) hN (tOK_up hT (g := g) (n := n) (by omega)) hC h0 h1
    have hwb2 := pWor_b (sp := sp) hN (tOK_up hT (g := g) (n := b) hp4) hC h0 h1
    refine r_iload rfl ?_
    refine r_bipush ?_
    refine r_icmp_gt kX8_bestOf_62 (fun c1 => absurd c1 (by omega)) (fun c1 => ?_)
    refine r_aload_n rfl ?_
    refine r_getR g_279 rfl ?_
    refine r_iload_n rfl ?_
    refine r_iload rfl ?_
    refine r_iast g_290 (by decide) (by omega) (by omega) ?_
    refine r_aload_n rfl ?_
    refine r_iload_n rfl ?_
    refine r_cV2 g_279 rfl (Nat.le_of_ble_eq_true rfl) (Nat.le_of_ble_eq_true rfl) (c_X8_worthOf2 hD1 h0 h1) (fun v_ m_ hq_ => ?_)
    obtain ⟨rfl, hfr, hD2, hto⟩ := hq_
    refine r_istore (Nat.le_of_ble_eq_true rfl) rfl ?_
    refine r_iload rfl ?_
    refine r_if_eq kX8_bestOf_49 (fun c2 => ?_) (fun c2 => ?_)
    · refine r_iload rfl ?_
      refine r_istore_n (Nat.le_of_ble_eq_true rfl) rfl ?_
      refine r_iload rfl ?_
      refine r_istore (Nat.le_of_ble_eq_true rfl) rfl ?_
      refine r_iinc rfl (az_wid (by omega) (by omega)) rfl ?_
      refine r_goto kX8_bestOf_15 ?_
      exact hK (m_, _, _, n, _) ⟨rT_f hT1 hfr hto, by dsimp only; rw [hS]; unfold pW; unfold pW at hp3; first | rw [if_pos (by omega)] | rw [if_neg (by omega)], by dsimp only; unfold pW; unfold pW at hp3; first | exact Or.inr rfl | exact Or.inr (by omega), by dsimp only; omega⟩
    · refine r_iload rfl ?_
      refine r_iload rfl ?_
      refine r_icmp_le kX8_bestOf_56 (fun c3 => ?_) (fun c3 => ?_)
      · refine r_iinc rfl (az_wid (by omega) (by omega)) rfl ?_
        refine r_goto kX8_bestOf_15 ?_
        exact hK (m_, _, _, n, _) ⟨rT_f hT1 hfr hto, by dsimp only; rw [hS]; unfold pW; unfold pW at hp3; first | rw [if_pos (by omega)] | rw [if_neg (by omega)], by dsimp only; unfold pW; unfold pW at hp3; first | exact Or.inr rfl | exact Or.inr (by omega), by dsimp only; omega⟩
      · refine r_iload rfl ?_
        refine r_istore_n (Nat.le_of_ble_eq_true rfl) rfl ?_
        refine r_iload rfl ?_
        refine r_istore (Nat.le_of_ble_eq_true rfl) rfl ?_
        refine r_iinc rfl (az_wid (by omega) (by omega)) rfl ?_
        refine r_goto kX8_bestOf_15 ?_
        exact hK (m_, _, _, n, _) ⟨rT_f hT1 hfr hto, by dsimp only; rw [hS]; unfold pW; unfold pW at hp3; first | rw [if_pos (by omega)] | rw [if_neg (by omega)], by dsimp only; unfold pW; unfold pW at hp3; first | exact Or.inr rfl | exact Or.inr (by omega), by dsimp only; omega⟩
  · obtain ⟨m1, b, w, x, o⟩ := a
    obtain ⟨hp1, hp2, hp3, hp4⟩ := hp
    dsimp only at hp1 hp2 hp3 hp4 ⊢
    have hT1 := rT_u hp1 (t g)
    rw [← htm] at hT1
    refine r_iload rfl ?_
    refine r_bipush ?_
    refine r_icmp_gt kX8_bestOf_62 (fun c1 => ?_) (fun c1 => absurd c1 (by omega))
    refine r_aload_n rfl ?_
    refine r_getR g_279 rfl ?_
    refine r_iload_n rfl ?_
    refine r_iload_n rfl ?_
    refine r_iast g_290 (by decide) (by omega) (by omega) ?_
    refine r_iload_n rfl ?_
    refine r_iret rfl ?_
    exact ⟨az_oI hp2, by rw [← htm]; exact hT1.1, by rw [← htm]; exact rT_back hT1⟩
end RC
end
