section
-- ===== PART A: goes FIRST, ahead of the names: the tables' words, and 'selects' of the private methods out of them =====
/-- a private method of a class that the tables say can be made, by its rows of tables_1 -/
def lw_okq (q : MethodName × Nat) : Prop := (q.1.cls ≠ "java/lang/invoke/MethodHandle" ∧ q.1.cls ≠ "java/lang/invoke/VarHandle") ∧ Cond.instantiable q.1.cls q.2 ∈ tables_1 ∧ Cond.privateMethod q.1 ∈ tables_1 ∧ Cond.instanceMethod q.1 ∈ tables_1
theorem lw_p0 : lw_okq (⟨"SmellAbbey", "tapeNumber", "(I)V"⟩, 14) := ⟨⟨by decide +kernel, by decide +kernel⟩, List.mem_of_getElem? (i := 24) (by decide +kernel), List.mem_of_getElem? (i := 457) (by decide +kernel), List.mem_of_getElem? (i := 458) (by decide +kernel)⟩
theorem lw_p1 : lw_okq (⟨"SmellAbbey$Scanner", "readWord", "()V"⟩, 8) := ⟨⟨by decide +kernel, by decide +kernel⟩, List.mem_of_getElem? (i := 38) (by decide +kernel), List.mem_of_getElem? (i := 491) (by decide +kernel), List.mem_of_getElem? (i := 492) (by decide +kernel)⟩
theorem lw_p2 : lw_okq (⟨"SmellAbbey$Scanner", "readNumber", "()V"⟩, 8) := ⟨⟨by decide +kernel, by decide +kernel⟩, List.mem_of_getElem? (i := 38) (by decide +kernel), List.mem_of_getElem? (i := 498) (by decide +kernel), List.mem_of_getElem? (i := 499) (by decide +kernel)⟩
theorem lw_p3 : lw_okq (⟨"SmellAbbey$Scanner", "signOf", "(I)I"⟩, 8) := ⟨⟨by decide +kernel, by decide +kernel⟩, List.mem_of_getElem? (i := 38) (by decide +kernel), List.mem_of_getElem? (i := 503) (by decide +kernel), List.mem_of_getElem? (i := 504) (by decide +kernel)⟩
theorem lw_p4 : lw_okq (⟨"SmellAbbey$Scanner", "takes", "(I)Z"⟩, 8) := ⟨⟨by decide +kernel, by decide +kernel⟩, List.mem_of_getElem? (i := 38) (by decide +kernel), List.mem_of_getElem? (i := 507) (by decide +kernel), List.mem_of_getElem? (i := 508) (by decide +kernel)⟩
theorem lw_p5 : lw_okq (⟨"SmellAbbey$Reader", "stuffLine", "()I"⟩, 9) := ⟨⟨by decide +kernel, by decide +kernel⟩, List.mem_of_getElem? (i := 32) (by decide +kernel), List.mem_of_getElem? (i := 519) (by decide +kernel), List.mem_of_getElem? (i := 520) (by decide +kernel)⟩
theorem lw_p6 : lw_okq (⟨"SmellAbbey$Reader", "newName", "(I)I"⟩, 9) := ⟨⟨by decide +kernel, by decide +kernel⟩, List.mem_of_getElem? (i := 32) (by decide +kernel), List.mem_of_getElem? (i := 523) (by decide +kernel), List.mem_of_getElem? (i := 524) (by decide +kernel)⟩
theorem lw_p7 : lw_okq (⟨"SmellAbbey$Reader", "wrong", "(I)I"⟩, 9) := ⟨⟨by decide +kernel, by decide +kernel⟩, List.mem_of_getElem? (i := 32) (by decide +kernel), List.mem_of_getElem? (i := 529) (by decide +kernel), List.mem_of_getElem? (i := 530) (by decide +kernel)⟩
theorem lw_p8 : lw_okq (⟨"SmellAbbey$Reader", "readNumber", "(II)I"⟩, 9) := ⟨⟨by decide +kernel, by decide +kernel⟩, List.mem_of_getElem? (i := 32) (by decide +kernel), List.mem_of_getElem? (i := 538) (by decide +kernel), List.mem_of_getElem? (i := 539) (by decide +kernel)⟩
theorem lw_p9 : lw_okq (⟨"SmellAbbey$Reader", "readStop", "()I"⟩, 9) := ⟨⟨by decide +kernel, by decide +kernel⟩, List.mem_of_getElem? (i := 32) (by decide +kernel), List.mem_of_getElem? (i := 542) (by decide +kernel), List.mem_of_getElem? (i := 543) (by decide +kernel)⟩
theorem lw_p10 : lw_okq (⟨"SmellAbbey$Reader", "dayLine", "()I"⟩, 9) := ⟨⟨by decide +kernel, by decide +kernel⟩, List.mem_of_getElem? (i := 32) (by decide +kernel), List.mem_of_getElem? (i := 546) (by decide +kernel), List.mem_of_getElem? (i := 547) (by decide +kernel)⟩
theorem lw_p11 : lw_okq (⟨"SmellAbbey$Reader", "mixLine", "()I"⟩, 9) := ⟨⟨by decide +kernel, by decide +kernel⟩, List.mem_of_getElem? (i := 32) (by decide +kernel), List.mem_of_getElem? (i := 550) (by decide +kernel), List.mem_of_getElem? (i := 551) (by decide +kernel)⟩
theorem lw_p12 : lw_okq (⟨"SmellAbbey$Reader", "toldName", "(I)I"⟩, 9) := ⟨⟨by decide +kernel, by decide +kernel⟩, List.mem_of_getElem? (i := 32) (by decide +kernel), List.mem_of_getElem? (i := 554) (by decide +kernel), List.mem_of_getElem? (i := 555) (by decide +kernel)⟩
theorem lw_p13 : lw_okq (⟨"SmellAbbey$Reader", "roomLine", "()I"⟩, 9) := ⟨⟨by decide +kernel, by decide +kernel⟩, List.mem_of_getElem? (i := 32) (by decide +kernel), List.mem_of_getElem? (i := 558) (by decide +kernel), List.mem_of_getElem? (i := 559) (by decide +kernel)⟩
theorem lw_p14 : lw_okq (⟨"SmellAbbey$Reader", "monkLine", "()I"⟩, 9) := ⟨⟨by decide +kernel, by decide +kernel⟩, List.mem_of_getElem? (i := 32) (by decide +kernel), List.mem_of_getElem? (i := 562) (by decide +kernel), List.mem_of_getElem? (i := 563) (by decide +kernel)⟩
theorem lw_p15 : lw_okq (⟨"SmellAbbey$Reader", "lingerLine", "()I"⟩, 9) := ⟨⟨by decide +kernel, by decide +kernel⟩, List.mem_of_getElem? (i := 32) (by decide +kernel), List.mem_of_getElem? (i := 566) (by decide +kernel), List.mem_of_getElem? (i := 567) (by decide +kernel)⟩
def lw_privs_1 : List (MethodName × Nat) := [(⟨"SmellAbbey", "tapeNumber", "(I)V"⟩, 14), (⟨"SmellAbbey$Scanner", "readWord", "()V"⟩, 8), (⟨"SmellAbbey$Scanner", "readNumber", "()V"⟩, 8), (⟨"SmellAbbey$Scanner", "signOf", "(I)I"⟩, 8), (⟨"SmellAbbey$Scanner", "takes", "(I)Z"⟩, 8), (⟨"SmellAbbey$Reader", "stuffLine", "()I"⟩, 9), (⟨"SmellAbbey$Reader", "newName", "(I)I"⟩, 9), (⟨"SmellAbbey$Reader", "wrong", "(I)I"⟩, 9), (⟨"SmellAbbey$Reader", "readNumber", "(II)I"⟩, 9), (⟨"SmellAbbey$Reader", "readStop", "()I"⟩, 9), (⟨"SmellAbbey$Reader", "dayLine", "()I"⟩, 9), (⟨"SmellAbbey$Reader", "mixLine", "()I"⟩, 9), (⟨"SmellAbbey$Reader", "toldName", "(I)I"⟩, 9), (⟨"SmellAbbey$Reader", "roomLine", "()I"⟩, 9), (⟨"SmellAbbey$Reader", "monkLine", "()I"⟩, 9), (⟨"SmellAbbey$Reader", "lingerLine", "()I"⟩, 9)]
theorem lw_r1 : ∀ q ∈ lw_privs_1, lw_okq q := List.forall_mem_cons.mpr ⟨lw_p0, List.forall_mem_cons.mpr ⟨lw_p1, List.forall_mem_cons.mpr ⟨lw_p2, List.forall_mem_cons.mpr ⟨lw_p3, List.forall_mem_cons.mpr ⟨lw_p4, List.forall_mem_cons.mpr ⟨lw_p5, List.forall_mem_cons.mpr ⟨lw_p6, List.forall_mem_cons.mpr ⟨lw_p7, List.forall_mem_cons.mpr ⟨lw_p8, List.forall_mem_cons.mpr ⟨lw_p9, List.forall_mem_cons.mpr ⟨lw_p10, List.forall_mem_cons.mpr ⟨lw_p11, List.forall_mem_cons.mpr ⟨lw_p12, List.forall_mem_cons.mpr ⟨lw_p13, List.forall_mem_cons.mpr ⟨lw_p14, List.forall_mem_cons.mpr ⟨lw_p15, fun _ h => absurd h List.not_mem_nil⟩⟩⟩⟩⟩⟩⟩⟩⟩⟩⟩⟩⟩⟩⟩⟩
theorem lw_p16 : lw_okq (⟨"SmellAbbey$Reader", "seedLine", "()I"⟩, 9) := ⟨⟨by decide +kernel, by decide +kernel⟩, List.mem_of_getElem? (i := 32) (by decide +kernel), List.mem_of_getElem? (i := 570) (by decide +kernel), List.mem_of_getElem? (i := 571) (by decide +kernel)⟩
theorem lw_p17 : lw_okq (⟨"SmellAbbey$Reader", "lawLine", "()I"⟩, 9) := ⟨⟨by decide +kernel, by decide +kernel⟩, List.mem_of_getElem? (i := 32) (by decide +kernel), List.mem_of_getElem? (i := 575) (by decide +kernel), List.mem_of_getElem? (i := 576) (by decide +kernel)⟩
theorem lw_p18 : lw_okq (⟨"SmellAbbey$Reader", "readFormula", "()I"⟩, 9) := ⟨⟨by decide +kernel, by decide +kernel⟩, List.mem_of_getElem? (i := 32) (by decide +kernel), List.mem_of_getElem? (i := 587) (by decide +kernel), List.mem_of_getElem? (i := 588) (by decide +kernel)⟩
theorem lw_p19 : lw_okq (⟨"SmellAbbey$Reader", "settle", "(I)V"⟩, 9) := ⟨⟨by decide +kernel, by decide +kernel⟩, List.mem_of_getElem? (i := 32) (by decide +kernel), List.mem_of_getElem? (i := 591) (by decide +kernel), List.mem_of_getElem? (i := 592) (by decide +kernel)⟩
theorem lw_p20 : lw_okq (⟨"SmellAbbey$Reader", "topStrength", "()I"⟩, 9) := ⟨⟨by decide +kernel, by decide +kernel⟩, List.mem_of_getElem? (i := 32) (by decide +kernel), List.mem_of_getElem? (i := 595) (by decide +kernel), List.mem_of_getElem? (i := 596) (by decide +kernel)⟩
theorem lw_p21 : lw_okq (⟨"SmellAbbey$Reader", "readValue", "()I"⟩, 9) := ⟨⟨by decide +kernel, by decide +kernel⟩, List.mem_of_getElem? (i := 32) (by decide +kernel), List.mem_of_getElem? (i := 603) (by decide +kernel), List.mem_of_getElem? (i := 604) (by decide +kernel)⟩
theorem lw_p22 : lw_okq (⟨"SmellAbbey$Reader", "putOff", "(I)I"⟩, 9) := ⟨⟨by decide +kernel, by decide +kernel⟩, List.mem_of_getElem? (i := 32) (by decide +kernel), List.mem_of_getElem? (i := 607) (by decide +kernel), List.mem_of_getElem? (i := 608) (by decide +kernel)⟩
theorem lw_p23 : lw_okq (⟨"SmellAbbey$Reader", "readSign", "()I"⟩, 9) := ⟨⟨by decide +kernel, by decide +kernel⟩, List.mem_of_getElem? (i := 32) (by decide +kernel), List.mem_of_getElem? (i := 618) (by decide +kernel), List.mem_of_getElem? (i := 619) (by decide +kernel)⟩
theorem lw_p24 : lw_okq (⟨"SmellAbbey", "has", "(II)Z"⟩, 14) := ⟨⟨by decide +kernel, by decide +kernel⟩, List.mem_of_getElem? (i := 24) (by decide +kernel), List.mem_of_getElem? (i := 651) (by decide +kernel), List.mem_of_getElem? (i := 652) (by decide +kernel)⟩
theorem lw_p25 : lw_okq (⟨"SmellAbbey", "keenNow", "(I)I"⟩, 14) := ⟨⟨by decide +kernel, by decide +kernel⟩, List.mem_of_getElem? (i := 24) (by decide +kernel), List.mem_of_getElem? (i := 706) (by decide +kernel), List.mem_of_getElem? (i := 707) (by decide +kernel)⟩
theorem lw_p26 : lw_okq (⟨"SmellAbbey$Undoing", "forgetOldest", "()V"⟩, 4) := ⟨⟨by decide +kernel, by decide +kernel⟩, List.mem_of_getElem? (i := 300) (by decide +kernel), List.mem_of_getElem? (i := 745) (by decide +kernel), List.mem_of_getElem? (i := 746) (by decide +kernel)⟩
theorem lw_p27 : lw_okq (⟨"SmellAbbey$State", "drift", "(LSmellAbbey$Told;)V"⟩, 15) := ⟨⟨by decide +kernel, by decide +kernel⟩, List.mem_of_getElem? (i := 320) (by decide +kernel), List.mem_of_getElem? (i := 778) (by decide +kernel), List.mem_of_getElem? (i := 779) (by decide +kernel)⟩
theorem lw_p28 : lw_okq (⟨"SmellAbbey$State", "smellAndThink", "(LSmellAbbey$Told;II)V"⟩, 15) := ⟨⟨by decide +kernel, by decide +kernel⟩, List.mem_of_getElem? (i := 320) (by decide +kernel), List.mem_of_getElem? (i := 784) (by decide +kernel), List.mem_of_getElem? (i := 785) (by decide +kernel)⟩
theorem lw_p29 : lw_okq (⟨"SmellAbbey$State", "vote", "(LSmellAbbey$Told;)V"⟩, 15) := ⟨⟨by decide +kernel, by decide +kernel⟩, List.mem_of_getElem? (i := 320) (by decide +kernel), List.mem_of_getElem? (i := 789) (by decide +kernel), List.mem_of_getElem? (i := 790) (by decide +kernel)⟩
theorem lw_p30 : lw_okq (⟨"SmellAbbey$State", "mostThought", "(LSmellAbbey$Told;I)I"⟩, 15) := ⟨⟨by decide +kernel, by decide +kernel⟩, List.mem_of_getElem? (i := 320) (by decide +kernel), List.mem_of_getElem? (i := 793) (by decide +kernel), List.mem_of_getElem? (i := 794) (by decide +kernel)⟩
theorem lw_p31 : lw_okq (⟨"SmellAbbey", "markDays", "(II)V"⟩, 14) := ⟨⟨by decide +kernel, by decide +kernel⟩, List.mem_of_getElem? (i := 24) (by decide +kernel), List.mem_of_getElem? (i := 801) (by decide +kernel), List.mem_of_getElem? (i := 802) (by decide +kernel)⟩
def lw_privs_2 : List (MethodName × Nat) := [(⟨"SmellAbbey$Reader", "seedLine", "()I"⟩, 9), (⟨"SmellAbbey$Reader", "lawLine", "()I"⟩, 9), (⟨"SmellAbbey$Reader", "readFormula", "()I"⟩, 9), (⟨"SmellAbbey$Reader", "settle", "(I)V"⟩, 9), (⟨"SmellAbbey$Reader", "topStrength", "()I"⟩, 9), (⟨"SmellAbbey$Reader", "readValue", "()I"⟩, 9), (⟨"SmellAbbey$Reader", "putOff", "(I)I"⟩, 9), (⟨"SmellAbbey$Reader", "readSign", "()I"⟩, 9), (⟨"SmellAbbey", "has", "(II)Z"⟩, 14), (⟨"SmellAbbey", "keenNow", "(I)I"⟩, 14), (⟨"SmellAbbey$Undoing", "forgetOldest", "()V"⟩, 4), (⟨"SmellAbbey$State", "drift", "(LSmellAbbey$Told;)V"⟩, 15), (⟨"SmellAbbey$State", "smellAndThink", "(LSmellAbbey$Told;II)V"⟩, 15), (⟨"SmellAbbey$State", "vote", "(LSmellAbbey$Told;)V"⟩, 15), (⟨"SmellAbbey$State", "mostThought", "(LSmellAbbey$Told;I)I"⟩, 15), (⟨"SmellAbbey", "markDays", "(II)V"⟩, 14)]
theorem lw_r2 : ∀ q ∈ lw_privs_2, lw_okq q := List.forall_mem_cons.mpr ⟨lw_p16, List.forall_mem_cons.mpr ⟨lw_p17, List.forall_mem_cons.mpr ⟨lw_p18, List.forall_mem_cons.mpr ⟨lw_p19, List.forall_mem_cons.mpr ⟨lw_p20, List.forall_mem_cons.mpr ⟨lw_p21, List.forall_mem_cons.mpr ⟨lw_p22, List.forall_mem_cons.mpr ⟨lw_p23, List.forall_mem_cons.mpr ⟨lw_p24, List.forall_mem_cons.mpr ⟨lw_p25, List.forall_mem_cons.mpr ⟨lw_p26, List.forall_mem_cons.mpr ⟨lw_p27, List.forall_mem_cons.mpr ⟨lw_p28, List.forall_mem_cons.mpr ⟨lw_p29, List.forall_mem_cons.mpr ⟨lw_p30, List.forall_mem_cons.mpr ⟨lw_p31, fun _ h => absurd h List.not_mem_nil⟩⟩⟩⟩⟩⟩⟩⟩⟩⟩⟩⟩⟩⟩⟩⟩
theorem lw_p32 : lw_okq (⟨"SmellAbbey", "alikePairs", "()I"⟩, 14) := ⟨⟨by decide +kernel, by decide +kernel⟩, List.mem_of_getElem? (i := 24) (by decide +kernel), List.mem_of_getElem? (i := 806) (by decide +kernel), List.mem_of_getElem? (i := 807) (by decide +kernel)⟩
theorem lw_p33 : lw_okq (⟨"SmellAbbey", "moreThatIsSmelled", "(IIII)I"⟩, 14) := ⟨⟨by decide +kernel, by decide +kernel⟩, List.mem_of_getElem? (i := 24) (by decide +kernel), List.mem_of_getElem? (i := 821) (by decide +kernel), List.mem_of_getElem? (i := 822) (by decide +kernel)⟩
theorem lw_p34 : lw_okq (⟨"SmellAbbey", "unlikeMarks", "()I"⟩, 14) := ⟨⟨by decide +kernel, by decide +kernel⟩, List.mem_of_getElem? (i := 24) (by decide +kernel), List.mem_of_getElem? (i := 829) (by decide +kernel), List.mem_of_getElem? (i := 830) (by decide +kernel)⟩
theorem lw_p35 : lw_okq (⟨"SmellAbbey", "markDaysInPlace", "(III)V"⟩, 14) := ⟨⟨by decide +kernel, by decide +kernel⟩, List.mem_of_getElem? (i := 24) (by decide +kernel), List.mem_of_getElem? (i := 862) (by decide +kernel), List.mem_of_getElem? (i := 863) (by decide +kernel)⟩
theorem lw_p36 : lw_okq (⟨"SmellAbbey", "canBurn", "(I)Z"⟩, 14) := ⟨⟨by decide +kernel, by decide +kernel⟩, List.mem_of_getElem? (i := 24) (by decide +kernel), List.mem_of_getElem? (i := 879) (by decide +kernel), List.mem_of_getElem? (i := 880) (by decide +kernel)⟩
theorem lw_p37 : lw_okq (⟨"SmellAbbey", "countFeastThinkers", "(I)V"⟩, 14) := ⟨⟨by decide +kernel, by decide +kernel⟩, List.mem_of_getElem? (i := 24) (by decide +kernel), List.mem_of_getElem? (i := 883) (by decide +kernel), List.mem_of_getElem? (i := 884) (by decide +kernel)⟩
theorem lw_p38 : lw_okq (⟨"SmellAbbey", "isRest", "(II)Z"⟩, 14) := ⟨⟨by decide +kernel, by decide +kernel⟩, List.mem_of_getElem? (i := 24) (by decide +kernel), List.mem_of_getElem? (i := 891) (by decide +kernel), List.mem_of_getElem? (i := 892) (by decide +kernel)⟩
theorem lw_p39 : lw_okq (⟨"SmellAbbey", "agreesWithNotes", "()Z"⟩, 14) := ⟨⟨by decide +kernel, by decide +kernel⟩, List.mem_of_getElem? (i := 24) (by decide +kernel), List.mem_of_getElem? (i := 931) (by decide +kernel), List.mem_of_getElem? (i := 932) (by decide +kernel)⟩
theorem lw_p40 : lw_okq (⟨"SmellAbbey$Notes", "counts", "(I)Z"⟩, 8) := ⟨⟨by decide +kernel, by decide +kernel⟩, List.mem_of_getElem? (i := 267) (by decide +kernel), List.mem_of_getElem? (i := 939) (by decide +kernel), List.mem_of_getElem? (i := 940) (by decide +kernel)⟩
theorem lw_p41 : lw_okq (⟨"SmellAbbey", "blowByChance", "()V"⟩, 14) := ⟨⟨by decide +kernel, by decide +kernel⟩, List.mem_of_getElem? (i := 24) (by decide +kernel), List.mem_of_getElem? (i := 956) (by decide +kernel), List.mem_of_getElem? (i := 957) (by decide +kernel)⟩
theorem lw_p42 : lw_okq (⟨"SmellAbbey", "changeTrial", "(II)V"⟩, 14) := ⟨⟨by decide +kernel, by decide +kernel⟩, List.mem_of_getElem? (i := 24) (by decide +kernel), List.mem_of_getElem? (i := 972) (by decide +kernel), List.mem_of_getElem? (i := 973) (by decide +kernel)⟩
theorem lw_p43 : lw_okq (⟨"SmellAbbey", "allStores", "()I"⟩, 14) := ⟨⟨by decide +kernel, by decide +kernel⟩, List.mem_of_getElem? (i := 24) (by decide +kernel), List.mem_of_getElem? (i := 998) (by decide +kernel), List.mem_of_getElem? (i := 999) (by decide +kernel)⟩
theorem lw_p44 : lw_okq (⟨"java/lang/Throwable", "fillInStackTrace", "(I)Ljava/lang/Throwable;"⟩, 6) := ⟨⟨by decide +kernel, by decide +kernel⟩, List.mem_of_getElem? (i := 1049) (by decide +kernel), List.mem_of_getElem? (i := 1047) (by decide +kernel), List.mem_of_getElem? (i := 1048) (by decide +kernel)⟩
theorem lw_p45 : lw_okq (⟨"SmellAbbeyModel", "begins", "()V"⟩, 68) := ⟨⟨by decide +kernel, by decide +kernel⟩, List.mem_of_getElem? (i := 1094) (by decide +kernel), List.mem_of_getElem? (i := 1100) (by decide +kernel), List.mem_of_getElem? (i := 1101) (by decide +kernel)⟩
theorem lw_p46 : lw_okq (⟨"SmellAbbeyModel", "starts", "(I)V"⟩, 68) := ⟨⟨by decide +kernel, by decide +kernel⟩, List.mem_of_getElem? (i := 1094) (by decide +kernel), List.mem_of_getElem? (i := 1104) (by decide +kernel), List.mem_of_getElem? (i := 1105) (by decide +kernel)⟩
theorem lw_p47 : lw_okq (⟨"SmellAbbeyModel", "reads", "(II)V"⟩, 68) := ⟨⟨by decide +kernel, by decide +kernel⟩, List.mem_of_getElem? (i := 1094) (by decide +kernel), List.mem_of_getElem? (i := 1325) (by decide +kernel), List.mem_of_getElem? (i := 1326) (by decide +kernel)⟩
def lw_privs_3 : List (MethodName × Nat) := [(⟨"SmellAbbey", "alikePairs", "()I"⟩, 14), (⟨"SmellAbbey", "moreThatIsSmelled", "(IIII)I"⟩, 14), (⟨"SmellAbbey", "unlikeMarks", "()I"⟩, 14), (⟨"SmellAbbey", "markDaysInPlace", "(III)V"⟩, 14), (⟨"SmellAbbey", "canBurn", "(I)Z"⟩, 14), (⟨"SmellAbbey", "countFeastThinkers", "(I)V"⟩, 14), (⟨"SmellAbbey", "isRest", "(II)Z"⟩, 14), (⟨"SmellAbbey", "agreesWithNotes", "()Z"⟩, 14), (⟨"SmellAbbey$Notes", "counts", "(I)Z"⟩, 8), (⟨"SmellAbbey", "blowByChance", "()V"⟩, 14), (⟨"SmellAbbey", "changeTrial", "(II)V"⟩, 14), (⟨"SmellAbbey", "allStores", "()I"⟩, 14), (⟨"java/lang/Throwable", "fillInStackTrace", "(I)Ljava/lang/Throwable;"⟩, 6), (⟨"SmellAbbeyModel", "begins", "()V"⟩, 68), (⟨"SmellAbbeyModel", "starts", "(I)V"⟩, 68), (⟨"SmellAbbeyModel", "reads", "(II)V"⟩, 68)]
theorem lw_r3 : ∀ q ∈ lw_privs_3, lw_okq q := List.forall_mem_cons.mpr ⟨lw_p32, List.forall_mem_cons.mpr ⟨lw_p33, List.forall_mem_cons.mpr ⟨lw_p34, List.forall_mem_cons.mpr ⟨lw_p35, List.forall_mem_cons.mpr ⟨lw_p36, List.forall_mem_cons.mpr ⟨lw_p37, List.forall_mem_cons.mpr ⟨lw_p38, List.forall_mem_cons.mpr ⟨lw_p39, List.forall_mem_cons.mpr ⟨lw_p40, List.forall_mem_cons.mpr ⟨lw_p41, List.forall_mem_cons.mpr ⟨lw_p42, List.forall_mem_cons.mpr ⟨lw_p43, List.forall_mem_cons.mpr ⟨lw_p44, List.forall_mem_cons.mpr ⟨lw_p45, List.forall_mem_cons.mpr ⟨lw_p46, List.forall_mem_cons.mpr ⟨lw_p47, fun _ h => absurd h List.not_mem_nil⟩⟩⟩⟩⟩⟩⟩⟩⟩⟩⟩⟩⟩⟩⟩⟩
theorem lw_p48 : lw_okq (⟨"SmellAbbeyModel", "token", "()V"⟩, 68) := ⟨⟨by decide +kernel, by decide +kernel⟩, List.mem_of_getElem? (i := 1094) (by decide +kernel), List.mem_of_getElem? (i := 1329) (by decide +kernel), List.mem_of_getElem? (i := 1330) (by decide +kernel)⟩
theorem lw_p49 : lw_okq (⟨"SmellAbbeyModel", "here", "()I"⟩, 68) := ⟨⟨by decide +kernel, by decide +kernel⟩, List.mem_of_getElem? (i := 1094) (by decide +kernel), List.mem_of_getElem? (i := 1333) (by decide +kernel), List.mem_of_getElem? (i := 1334) (by decide +kernel)⟩
theorem lw_p50 : lw_okq (⟨"SmellAbbeyModel", "word", "()I"⟩, 68) := ⟨⟨by decide +kernel, by decide +kernel⟩, List.mem_of_getElem? (i := 1094) (by decide +kernel), List.mem_of_getElem? (i := 1340) (by decide +kernel), List.mem_of_getElem? (i := 1341) (by decide +kernel)⟩
theorem lw_p51 : lw_okq (⟨"SmellAbbeyModel", "name", "()V"⟩, 68) := ⟨⟨by decide +kernel, by decide +kernel⟩, List.mem_of_getElem? (i := 1094) (by decide +kernel), List.mem_of_getElem? (i := 1347) (by decide +kernel), List.mem_of_getElem? (i := 1348) (by decide +kernel)⟩
theorem lw_p52 : lw_okq (⟨"SmellAbbeyModel", "sign", "(I)V"⟩, 68) := ⟨⟨by decide +kernel, by decide +kernel⟩, List.mem_of_getElem? (i := 1094) (by decide +kernel), List.mem_of_getElem? (i := 1355) (by decide +kernel), List.mem_of_getElem? (i := 1356) (by decide +kernel)⟩
theorem lw_p53 : lw_okq (⟨"SmellAbbeyModel", "line", "()V"⟩, 68) := ⟨⟨by decide +kernel, by decide +kernel⟩, List.mem_of_getElem? (i := 1094) (by decide +kernel), List.mem_of_getElem? (i := 1359) (by decide +kernel), List.mem_of_getElem? (i := 1360) (by decide +kernel)⟩
theorem lw_p54 : lw_okq (⟨"SmellAbbeyModel", "wrong", "(I)V"⟩, 68) := ⟨⟨by decide +kernel, by decide +kernel⟩, List.mem_of_getElem? (i := 1094) (by decide +kernel), List.mem_of_getElem? (i := 1363) (by decide +kernel), List.mem_of_getElem? (i := 1364) (by decide +kernel)⟩
theorem lw_p55 : lw_okq (⟨"SmellAbbeyModel", "isFull", "(I)Z"⟩, 68) := ⟨⟨by decide +kernel, by decide +kernel⟩, List.mem_of_getElem? (i := 1094) (by decide +kernel), List.mem_of_getElem? (i := 1367) (by decide +kernel), List.mem_of_getElem? (i := 1368) (by decide +kernel)⟩
theorem lw_p56 : lw_okq (⟨"SmellAbbeyModel", "fresher", "(I)I"⟩, 68) := ⟨⟨by decide +kernel, by decide +kernel⟩, List.mem_of_getElem? (i := 1094) (by decide +kernel), List.mem_of_getElem? (i := 1371) (by decide +kernel), List.mem_of_getElem? (i := 1372) (by decide +kernel)⟩
theorem lw_p57 : lw_okq (⟨"SmellAbbeyModel", "fresh", "([III)I"⟩, 68) := ⟨⟨by decide +kernel, by decide +kernel⟩, List.mem_of_getElem? (i := 1094) (by decide +kernel), List.mem_of_getElem? (i := 1375) (by decide +kernel), List.mem_of_getElem? (i := 1376) (by decide +kernel)⟩
theorem lw_p58 : lw_okq (⟨"SmellAbbeyModel", "numeral", "(II)I"⟩, 68) := ⟨⟨by decide +kernel, by decide +kernel⟩, List.mem_of_getElem? (i := 1094) (by decide +kernel), List.mem_of_getElem? (i := 1382) (by decide +kernel), List.mem_of_getElem? (i := 1383) (by decide +kernel)⟩
theorem lw_p59 : lw_okq (⟨"SmellAbbeyModel", "dayLine", "(I)V"⟩, 68) := ⟨⟨by decide +kernel, by decide +kernel⟩, List.mem_of_getElem? (i := 1094) (by decide +kernel), List.mem_of_getElem? (i := 1386) (by decide +kernel), List.mem_of_getElem? (i := 1387) (by decide +kernel)⟩
theorem lw_p60 : lw_okq (⟨"SmellAbbeyModel", "isWord", "(I)Z"⟩, 68) := ⟨⟨by decide +kernel, by decide +kernel⟩, List.mem_of_getElem? (i := 1094) (by decide +kernel), List.mem_of_getElem? (i := 1390) (by decide +kernel), List.mem_of_getElem? (i := 1391) (by decide +kernel)⟩
theorem lw_p61 : lw_okq (⟨"SmellAbbeyModel", "mixLine", "()V"⟩, 68) := ⟨⟨by decide +kernel, by decide +kernel⟩, List.mem_of_getElem? (i := 1094) (by decide +kernel), List.mem_of_getElem? (i := 1394) (by decide +kernel), List.mem_of_getElem? (i := 1395) (by decide +kernel)⟩
theorem lw_p62 : lw_okq (⟨"SmellAbbeyModel", "toldAhead", "([III)I"⟩, 68) := ⟨⟨by decide +kernel, by decide +kernel⟩, List.mem_of_getElem? (i := 1094) (by decide +kernel), List.mem_of_getElem? (i := 1398) (by decide +kernel), List.mem_of_getElem? (i := 1399) (by decide +kernel)⟩
theorem lw_p63 : lw_okq (⟨"SmellAbbeyModel", "goOn", "()V"⟩, 68) := ⟨⟨by decide +kernel, by decide +kernel⟩, List.mem_of_getElem? (i := 1094) (by decide +kernel), List.mem_of_getElem? (i := 1402) (by decide +kernel), List.mem_of_getElem? (i := 1403) (by decide +kernel)⟩
def lw_privs_4 : List (MethodName × Nat) := [(⟨"SmellAbbeyModel", "token", "()V"⟩, 68), (⟨"SmellAbbeyModel", "here", "()I"⟩, 68), (⟨"SmellAbbeyModel", "word", "()I"⟩, 68), (⟨"SmellAbbeyModel", "name", "()V"⟩, 68), (⟨"SmellAbbeyModel", "sign", "(I)V"⟩, 68), (⟨"SmellAbbeyModel", "line", "()V"⟩, 68), (⟨"SmellAbbeyModel", "wrong", "(I)V"⟩, 68), (⟨"SmellAbbeyModel", "isFull", "(I)Z"⟩, 68), (⟨"SmellAbbeyModel", "fresher", "(I)I"⟩, 68), (⟨"SmellAbbeyModel", "fresh", "([III)I"⟩, 68), (⟨"SmellAbbeyModel", "numeral", "(II)I"⟩, 68), (⟨"SmellAbbeyModel", "dayLine", "(I)V"⟩, 68), (⟨"SmellAbbeyModel", "isWord", "(I)Z"⟩, 68), (⟨"SmellAbbeyModel", "mixLine", "()V"⟩, 68), (⟨"SmellAbbeyModel", "toldAhead", "([III)I"⟩, 68), (⟨"SmellAbbeyModel", "goOn", "()V"⟩, 68)]
theorem lw_r4 : ∀ q ∈ lw_privs_4, lw_okq q := List.forall_mem_cons.mpr ⟨lw_p48, List.forall_mem_cons.mpr ⟨lw_p49, List.forall_mem_cons.mpr ⟨lw_p50, List.forall_mem_cons.mpr ⟨lw_p51, List.forall_mem_cons.mpr ⟨lw_p52, List.forall_mem_cons.mpr ⟨lw_p53, List.forall_mem_cons.mpr ⟨lw_p54, List.forall_mem_cons.mpr ⟨lw_p55, List.forall_mem_cons.mpr ⟨lw_p56, List.forall_mem_cons.mpr ⟨lw_p57, List.forall_mem_cons.mpr ⟨lw_p58, List.forall_mem_cons.mpr ⟨lw_p59, List.forall_mem_cons.mpr ⟨lw_p60, List.forall_mem_cons.mpr ⟨lw_p61, List.forall_mem_cons.mpr ⟨lw_p62, List.forall_mem_cons.mpr ⟨lw_p63, fun _ h => absurd h List.not_mem_nil⟩⟩⟩⟩⟩⟩⟩⟩⟩⟩⟩⟩⟩⟩⟩⟩
theorem lw_p64 : lw_okq (⟨"SmellAbbeyModel", "lawLine", "()V"⟩, 68) := ⟨⟨by decide +kernel, by decide +kernel⟩, List.mem_of_getElem? (i := 1094) (by decide +kernel), List.mem_of_getElem? (i := 1406) (by decide +kernel), List.mem_of_getElem? (i := 1407) (by decide +kernel)⟩
theorem lw_p65 : lw_okq (⟨"SmellAbbeyModel", "expression", "()V"⟩, 68) := ⟨⟨by decide +kernel, by decide +kernel⟩, List.mem_of_getElem? (i := 1094) (by decide +kernel), List.mem_of_getElem? (i := 1410) (by decide +kernel), List.mem_of_getElem? (i := 1411) (by decide +kernel)⟩
theorem lw_p66 : lw_okq (⟨"SmellAbbeyModel", "conjunction", "()V"⟩, 68) := ⟨⟨by decide +kernel, by decide +kernel⟩, List.mem_of_getElem? (i := 1094) (by decide +kernel), List.mem_of_getElem? (i := 1414) (by decide +kernel), List.mem_of_getElem? (i := 1415) (by decide +kernel)⟩
theorem lw_p67 : lw_okq (⟨"SmellAbbeyModel", "negation", "()V"⟩, 68) := ⟨⟨by decide +kernel, by decide +kernel⟩, List.mem_of_getElem? (i := 1094) (by decide +kernel), List.mem_of_getElem? (i := 1418) (by decide +kernel), List.mem_of_getElem? (i := 1419) (by decide +kernel)⟩
theorem lw_p68 : lw_okq (⟨"SmellAbbeyModel", "knot", "()V"⟩, 68) := ⟨⟨by decide +kernel, by decide +kernel⟩, List.mem_of_getElem? (i := 1094) (by decide +kernel), List.mem_of_getElem? (i := 1422) (by decide +kernel), List.mem_of_getElem? (i := 1423) (by decide +kernel)⟩
theorem lw_p69 : lw_okq (⟨"SmellAbbeyModel", "puts", "(II)V"⟩, 68) := ⟨⟨by decide +kernel, by decide +kernel⟩, List.mem_of_getElem? (i := 1094) (by decide +kernel), List.mem_of_getElem? (i := 1426) (by decide +kernel), List.mem_of_getElem? (i := 1427) (by decide +kernel)⟩
theorem lw_p70 : lw_okq (⟨"SmellAbbeyModel", "sum", "()V"⟩, 68) := ⟨⟨by decide +kernel, by decide +kernel⟩, List.mem_of_getElem? (i := 1094) (by decide +kernel), List.mem_of_getElem? (i := 1430) (by decide +kernel), List.mem_of_getElem? (i := 1431) (by decide +kernel)⟩
theorem lw_p71 : lw_okq (⟨"SmellAbbeyModel", "product", "()V"⟩, 68) := ⟨⟨by decide +kernel, by decide +kernel⟩, List.mem_of_getElem? (i := 1094) (by decide +kernel), List.mem_of_getElem? (i := 1434) (by decide +kernel), List.mem_of_getElem? (i := 1435) (by decide +kernel)⟩
theorem lw_p72 : lw_okq (⟨"SmellAbbeyModel", "primary", "()V"⟩, 68) := ⟨⟨by decide +kernel, by decide +kernel⟩, List.mem_of_getElem? (i := 1094) (by decide +kernel), List.mem_of_getElem? (i := 1438) (by decide +kernel), List.mem_of_getElem? (i := 1439) (by decide +kernel)⟩
theorem lw_p73 : lw_okq (⟨"SmellAbbeyModel", "isSign", "(I)Z"⟩, 68) := ⟨⟨by decide +kernel, by decide +kernel⟩, List.mem_of_getElem? (i := 1094) (by decide +kernel), List.mem_of_getElem? (i := 1442) (by decide +kernel), List.mem_of_getElem? (i := 1443) (by decide +kernel)⟩
theorem lw_p74 : lw_okq (⟨"SmellAbbeyModel", "isMonk", "(I)Z"⟩, 68) := ⟨⟨by decide +kernel, by decide +kernel⟩, List.mem_of_getElem? (i := 1094) (by decide +kernel), List.mem_of_getElem? (i := 1461) (by decide +kernel), List.mem_of_getElem? (i := 1462) (by decide +kernel)⟩
theorem lw_p75 : lw_okq (⟨"SmellAbbeyModel", "isStuff", "(I)Z"⟩, 68) := ⟨⟨by decide +kernel, by decide +kernel⟩, List.mem_of_getElem? (i := 1094) (by decide +kernel), List.mem_of_getElem? (i := 1469) (by decide +kernel), List.mem_of_getElem? (i := 1470) (by decide +kernel)⟩
theorem lw_p76 : lw_okq (⟨"SmellAbbeyModel", "worthOf", "(II)I"⟩, 68) := ⟨⟨by decide +kernel, by decide +kernel⟩, List.mem_of_getElem? (i := 1094) (by decide +kernel), List.mem_of_getElem? (i := 1473) (by decide +kernel), List.mem_of_getElem? (i := 1474) (by decide +kernel)⟩
theorem lw_p77 : lw_okq (⟨"SmellAbbeyModel", "calls", "(IIIIIII)V"⟩, 68) := ⟨⟨by decide +kernel, by decide +kernel⟩, List.mem_of_getElem? (i := 1094) (by decide +kernel), List.mem_of_getElem? (i := 1477) (by decide +kernel), List.mem_of_getElem? (i := 1478) (by decide +kernel)⟩
theorem lw_p78 : lw_okq (⟨"SmellAbbeyModel", "within", "(IIII)I"⟩, 68) := ⟨⟨by decide +kernel, by decide +kernel⟩, List.mem_of_getElem? (i := 1094) (by decide +kernel), List.mem_of_getElem? (i := 1481) (by decide +kernel), List.mem_of_getElem? (i := 1482) (by decide +kernel)⟩
theorem lw_p79 : lw_okq (⟨"SmellAbbeyModel", "hasLaw", "(I)Z"⟩, 68) := ⟨⟨by decide +kernel, by decide +kernel⟩, List.mem_of_getElem? (i := 1094) (by decide +kernel), List.mem_of_getElem? (i := 1485) (by decide +kernel), List.mem_of_getElem? (i := 1486) (by decide +kernel)⟩
def lw_privs_5 : List (MethodName × Nat) := [(⟨"SmellAbbeyModel", "lawLine", "()V"⟩, 68), (⟨"SmellAbbeyModel", "expression", "()V"⟩, 68), (⟨"SmellAbbeyModel", "conjunction", "()V"⟩, 68), (⟨"SmellAbbeyModel", "negation", "()V"⟩, 68), (⟨"SmellAbbeyModel", "knot", "()V"⟩, 68), (⟨"SmellAbbeyModel", "puts", "(II)V"⟩, 68), (⟨"SmellAbbeyModel", "sum", "()V"⟩, 68), (⟨"SmellAbbeyModel", "product", "()V"⟩, 68), (⟨"SmellAbbeyModel", "primary", "()V"⟩, 68), (⟨"SmellAbbeyModel", "isSign", "(I)Z"⟩, 68), (⟨"SmellAbbeyModel", "isMonk", "(I)Z"⟩, 68), (⟨"SmellAbbeyModel", "isStuff", "(I)Z"⟩, 68), (⟨"SmellAbbeyModel", "worthOf", "(II)I"⟩, 68), (⟨"SmellAbbeyModel", "calls", "(IIIIIII)V"⟩, 68), (⟨"SmellAbbeyModel", "within", "(IIII)I"⟩, 68), (⟨"SmellAbbeyModel", "hasLaw", "(I)Z"⟩, 68)]
theorem lw_r5 : ∀ q ∈ lw_privs_5, lw_okq q := List.forall_mem_cons.mpr ⟨lw_p64, List.forall_mem_cons.mpr ⟨lw_p65, List.forall_mem_cons.mpr ⟨lw_p66, List.forall_mem_cons.mpr ⟨lw_p67, List.forall_mem_cons.mpr ⟨lw_p68, List.forall_mem_cons.mpr ⟨lw_p69, List.forall_mem_cons.mpr ⟨lw_p70, List.forall_mem_cons.mpr ⟨lw_p71, List.forall_mem_cons.mpr ⟨lw_p72, List.forall_mem_cons.mpr ⟨lw_p73, List.forall_mem_cons.mpr ⟨lw_p74, List.forall_mem_cons.mpr ⟨lw_p75, List.forall_mem_cons.mpr ⟨lw_p76, List.forall_mem_cons.mpr ⟨lw_p77, List.forall_mem_cons.mpr ⟨lw_p78, List.forall_mem_cons.mpr ⟨lw_p79, fun _ h => absurd h List.not_mem_nil⟩⟩⟩⟩⟩⟩⟩⟩⟩⟩⟩⟩⟩⟩⟩⟩
theorem lw_p80 : lw_okq (⟨"SmellAbbeyModel", "comesOut", "(I)Z"⟩, 68) := ⟨⟨by decide +kernel, by decide +kernel⟩, List.mem_of_getElem? (i := 1094) (by decide +kernel), List.mem_of_getElem? (i := 1489) (by decide +kernel), List.mem_of_getElem? (i := 1490) (by decide +kernel)⟩
theorem lw_p81 : lw_okq (⟨"SmellAbbeyModel", "works", "(I)Z"⟩, 68) := ⟨⟨by decide +kernel, by decide +kernel⟩, List.mem_of_getElem? (i := 1094) (by decide +kernel), List.mem_of_getElem? (i := 1493) (by decide +kernel), List.mem_of_getElem? (i := 1494) (by decide +kernel)⟩
theorem lw_p82 : lw_okq (⟨"SmellAbbeyModel", "isDay", "(I)Z"⟩, 68) := ⟨⟨by decide +kernel, by decide +kernel⟩, List.mem_of_getElem? (i := 1094) (by decide +kernel), List.mem_of_getElem? (i := 1511) (by decide +kernel), List.mem_of_getElem? (i := 1512) (by decide +kernel)⟩
theorem lw_p83 : lw_okq (⟨"SmellAbbeyModel", "isRoom", "(I)Z"⟩, 68) := ⟨⟨by decide +kernel, by decide +kernel⟩, List.mem_of_getElem? (i := 1094) (by decide +kernel), List.mem_of_getElem? (i := 1523) (by decide +kernel), List.mem_of_getElem? (i := 1524) (by decide +kernel)⟩
theorem lw_p84 : lw_okq (⟨"SmellAbbeyModel", "markOf", "(III)I"⟩, 68) := ⟨⟨by decide +kernel, by decide +kernel⟩, List.mem_of_getElem? (i := 1094) (by decide +kernel), List.mem_of_getElem? (i := 1531) (by decide +kernel), List.mem_of_getElem? (i := 1532) (by decide +kernel)⟩
theorem lw_p85 : lw_okq (⟨"SmellAbbeyModel", "keenOf", "(II)I"⟩, 68) := ⟨⟨by decide +kernel, by decide +kernel⟩, List.mem_of_getElem? (i := 1094) (by decide +kernel), List.mem_of_getElem? (i := 1535) (by decide +kernel), List.mem_of_getElem? (i := 1536) (by decide +kernel)⟩
theorem lw_p86 : lw_okq (⟨"SmellAbbeyModel", "keenIn", "(III)I"⟩, 68) := ⟨⟨by decide +kernel, by decide +kernel⟩, List.mem_of_getElem? (i := 1094) (by decide +kernel), List.mem_of_getElem? (i := 1539) (by decide +kernel), List.mem_of_getElem? (i := 1540) (by decide +kernel)⟩
theorem lw_p87 : lw_okq (⟨"SmellAbbeyModel", "partIn", "(I)I"⟩, 68) := ⟨⟨by decide +kernel, by decide +kernel⟩, List.mem_of_getElem? (i := 1094) (by decide +kernel), List.mem_of_getElem? (i := 1543) (by decide +kernel), List.mem_of_getElem? (i := 1544) (by decide +kernel)⟩
theorem lw_p88 : lw_okq (⟨"SmellAbbeyModel", "coldsOf", "(II)I"⟩, 68) := ⟨⟨by decide +kernel, by decide +kernel⟩, List.mem_of_getElem? (i := 1094) (by decide +kernel), List.mem_of_getElem? (i := 1547) (by decide +kernel), List.mem_of_getElem? (i := 1548) (by decide +kernel)⟩
theorem lw_p89 : lw_okq (⟨"SmellAbbeyModel", "markBy", "(IIII)I"⟩, 68) := ⟨⟨by decide +kernel, by decide +kernel⟩, List.mem_of_getElem? (i := 1094) (by decide +kernel), List.mem_of_getElem? (i := 1551) (by decide +kernel), List.mem_of_getElem? (i := 1552) (by decide +kernel)⟩
theorem lw_p90 : lw_okq (⟨"SmellAbbeyModel", "mixOf", "(II)I"⟩, 68) := ⟨⟨by decide +kernel, by decide +kernel⟩, List.mem_of_getElem? (i := 1094) (by decide +kernel), List.mem_of_getElem? (i := 1555) (by decide +kernel), List.mem_of_getElem? (i := 1556) (by decide +kernel)⟩
theorem lw_p91 : lw_okq (⟨"SmellAbbeyModel", "keepNow", "()V"⟩, 68) := ⟨⟨by decide +kernel, by decide +kernel⟩, List.mem_of_getElem? (i := 1094) (by decide +kernel), List.mem_of_getElem? (i := 1568) (by decide +kernel), List.mem_of_getElem? (i := 1569) (by decide +kernel)⟩
theorem lw_p92 : lw_okq (⟨"SmellAbbeyModel", "copies", "(II)V"⟩, 68) := ⟨⟨by decide +kernel, by decide +kernel⟩, List.mem_of_getElem? (i := 1094) (by decide +kernel), List.mem_of_getElem? (i := 1572) (by decide +kernel), List.mem_of_getElem? (i := 1573) (by decide +kernel)⟩
theorem lw_p93 : lw_okq (⟨"SmellAbbeyModel", "passes", "(I)V"⟩, 68) := ⟨⟨by decide +kernel, by decide +kernel⟩, List.mem_of_getElem? (i := 1094) (by decide +kernel), List.mem_of_getElem? (i := 1592) (by decide +kernel), List.mem_of_getElem? (i := 1593) (by decide +kernel)⟩
theorem lw_p94 : lw_okq (⟨"SmellAbbeyModel", "mixes", "(I)V"⟩, 68) := ⟨⟨by decide +kernel, by decide +kernel⟩, List.mem_of_getElem? (i := 1094) (by decide +kernel), List.mem_of_getElem? (i := 1596) (by decide +kernel), List.mem_of_getElem? (i := 1597) (by decide +kernel)⟩
theorem lw_p95 : lw_okq (⟨"SmellAbbeyModel", "drifts", "(I)V"⟩, 68) := ⟨⟨by decide +kernel, by decide +kernel⟩, List.mem_of_getElem? (i := 1094) (by decide +kernel), List.mem_of_getElem? (i := 1601) (by decide +kernel), List.mem_of_getElem? (i := 1602) (by decide +kernel)⟩
def lw_privs_6 : List (MethodName × Nat) := [(⟨"SmellAbbeyModel", "comesOut", "(I)Z"⟩, 68), (⟨"SmellAbbeyModel", "works", "(I)Z"⟩, 68), (⟨"SmellAbbeyModel", "isDay", "(I)Z"⟩, 68), (⟨"SmellAbbeyModel", "isRoom", "(I)Z"⟩, 68), (⟨"SmellAbbeyModel", "markOf", "(III)I"⟩, 68), (⟨"SmellAbbeyModel", "keenOf", "(II)I"⟩, 68), (⟨"SmellAbbeyModel", "keenIn", "(III)I"⟩, 68), (⟨"SmellAbbeyModel", "partIn", "(I)I"⟩, 68), (⟨"SmellAbbeyModel", "coldsOf", "(II)I"⟩, 68), (⟨"SmellAbbeyModel", "markBy", "(IIII)I"⟩, 68), (⟨"SmellAbbeyModel", "mixOf", "(II)I"⟩, 68), (⟨"SmellAbbeyModel", "keepNow", "()V"⟩, 68), (⟨"SmellAbbeyModel", "copies", "(II)V"⟩, 68), (⟨"SmellAbbeyModel", "passes", "(I)V"⟩, 68), (⟨"SmellAbbeyModel", "mixes", "(I)V"⟩, 68), (⟨"SmellAbbeyModel", "drifts", "(I)V"⟩, 68)]
theorem lw_r6 : ∀ q ∈ lw_privs_6, lw_okq q := List.forall_mem_cons.mpr ⟨lw_p80, List.forall_mem_cons.mpr ⟨lw_p81, List.forall_mem_cons.mpr ⟨lw_p82, List.forall_mem_cons.mpr ⟨lw_p83, List.forall_mem_cons.mpr ⟨lw_p84, List.forall_mem_cons.mpr ⟨lw_p85, List.forall_mem_cons.mpr ⟨lw_p86, List.forall_mem_cons.mpr ⟨lw_p87, List.forall_mem_cons.mpr ⟨lw_p88, List.forall_mem_cons.mpr ⟨lw_p89, List.forall_mem_cons.mpr ⟨lw_p90, List.forall_mem_cons.mpr ⟨lw_p91, List.forall_mem_cons.mpr ⟨lw_p92, List.forall_mem_cons.mpr ⟨lw_p93, List.forall_mem_cons.mpr ⟨lw_p94, List.forall_mem_cons.mpr ⟨lw_p95, fun _ h => absurd h List.not_mem_nil⟩⟩⟩⟩⟩⟩⟩⟩⟩⟩⟩⟩⟩⟩⟩⟩
theorem lw_p96 : lw_okq (⟨"SmellAbbeyModel", "smells", "(II)I"⟩, 68) := ⟨⟨by decide +kernel, by decide +kernel⟩, List.mem_of_getElem? (i := 1094) (by decide +kernel), List.mem_of_getElem? (i := 1605) (by decide +kernel), List.mem_of_getElem? (i := 1606) (by decide +kernel)⟩
theorem lw_p97 : lw_okq (⟨"SmellAbbeyModel", "thinks", "(II)I"⟩, 68) := ⟨⟨by decide +kernel, by decide +kernel⟩, List.mem_of_getElem? (i := 1094) (by decide +kernel), List.mem_of_getElem? (i := 1609) (by decide +kernel), List.mem_of_getElem? (i := 1610) (by decide +kernel)⟩
theorem lw_p98 : lw_okq (⟨"SmellAbbeyModel", "keepsHouse", "(I)V"⟩, 68) := ⟨⟨by decide +kernel, by decide +kernel⟩, List.mem_of_getElem? (i := 1094) (by decide +kernel), List.mem_of_getElem? (i := 1613) (by decide +kernel), List.mem_of_getElem? (i := 1614) (by decide +kernel)⟩
theorem lw_p99 : lw_okq (⟨"SmellAbbeyModel", "pairOf", "(II)I"⟩, 68) := ⟨⟨by decide +kernel, by decide +kernel⟩, List.mem_of_getElem? (i := 1094) (by decide +kernel), List.mem_of_getElem? (i := 1621) (by decide +kernel), List.mem_of_getElem? (i := 1622) (by decide +kernel)⟩
theorem lw_p100 : lw_okq (⟨"SmellAbbeyModel", "layMarks", "(I)V"⟩, 68) := ⟨⟨by decide +kernel, by decide +kernel⟩, List.mem_of_getElem? (i := 1094) (by decide +kernel), List.mem_of_getElem? (i := 1625) (by decide +kernel), List.mem_of_getElem? (i := 1626) (by decide +kernel)⟩
theorem lw_p101 : lw_okq (⟨"SmellAbbeyModel", "areSextons", "(I)Z"⟩, 68) := ⟨⟨by decide +kernel, by decide +kernel⟩, List.mem_of_getElem? (i := 1094) (by decide +kernel), List.mem_of_getElem? (i := 1670) (by decide +kernel), List.mem_of_getElem? (i := 1671) (by decide +kernel)⟩
theorem lw_p102 : lw_okq (⟨"SmellAbbeyModel", "restOf", "(II)I"⟩, 68) := ⟨⟨by decide +kernel, by decide +kernel⟩, List.mem_of_getElem? (i := 1094) (by decide +kernel), List.mem_of_getElem? (i := 1674) (by decide +kernel), List.mem_of_getElem? (i := 1675) (by decide +kernel)⟩
theorem lw_p103 : lw_okq (⟨"SmellAbbeyModel", "laySextons", "(I)V"⟩, 68) := ⟨⟨by decide +kernel, by decide +kernel⟩, List.mem_of_getElem? (i := 1094) (by decide +kernel), List.mem_of_getElem? (i := 1678) (by decide +kernel), List.mem_of_getElem? (i := 1679) (by decide +kernel)⟩
theorem lw_p104 : lw_okq (⟨"SmellAbbeyModel", "isRest", "(II)Z"⟩, 68) := ⟨⟨by decide +kernel, by decide +kernel⟩, List.mem_of_getElem? (i := 1094) (by decide +kernel), List.mem_of_getElem? (i := 1682) (by decide +kernel), List.mem_of_getElem? (i := 1683) (by decide +kernel)⟩
theorem lw_p105 : lw_okq (⟨"SmellAbbeyModel", "knownMany", "()I"⟩, 68) := ⟨⟨by decide +kernel, by decide +kernel⟩, List.mem_of_getElem? (i := 1094) (by decide +kernel), List.mem_of_getElem? (i := 1706) (by decide +kernel), List.mem_of_getElem? (i := 1707) (by decide +kernel)⟩
theorem lw_p106 : lw_okq (⟨"SmellAbbeyModel", "fitsCold", "(III)Z"⟩, 68) := ⟨⟨by decide +kernel, by decide +kernel⟩, List.mem_of_getElem? (i := 1094) (by decide +kernel), List.mem_of_getElem? (i := 1710) (by decide +kernel), List.mem_of_getElem? (i := 1711) (by decide +kernel)⟩
theorem lw_p107 : lw_okq (⟨"SmellAbbeyModel", "isSo", "(I)Z"⟩, 68) := ⟨⟨by decide +kernel, by decide +kernel⟩, List.mem_of_getElem? (i := 1094) (by decide +kernel), List.mem_of_getElem? (i := 1714) (by decide +kernel), List.mem_of_getElem? (i := 1715) (by decide +kernel)⟩
theorem lw_p108 : lw_okq (⟨"SmellAbbeyModel", "draw", "(I)I"⟩, 68) := ⟨⟨by decide +kernel, by decide +kernel⟩, List.mem_of_getElem? (i := 1094) (by decide +kernel), List.mem_of_getElem? (i := 1722) (by decide +kernel), List.mem_of_getElem? (i := 1723) (by decide +kernel)⟩
def lw_privs_7 : List (MethodName × Nat) := [(⟨"SmellAbbeyModel", "smells", "(II)I"⟩, 68), (⟨"SmellAbbeyModel", "thinks", "(II)I"⟩, 68), (⟨"SmellAbbeyModel", "keepsHouse", "(I)V"⟩, 68), (⟨"SmellAbbeyModel", "pairOf", "(II)I"⟩, 68), (⟨"SmellAbbeyModel", "layMarks", "(I)V"⟩, 68), (⟨"SmellAbbeyModel", "areSextons", "(I)Z"⟩, 68), (⟨"SmellAbbeyModel", "restOf", "(II)I"⟩, 68), (⟨"SmellAbbeyModel", "laySextons", "(I)V"⟩, 68), (⟨"SmellAbbeyModel", "isRest", "(II)Z"⟩, 68), (⟨"SmellAbbeyModel", "knownMany", "()I"⟩, 68), (⟨"SmellAbbeyModel", "fitsCold", "(III)Z"⟩, 68), (⟨"SmellAbbeyModel", "isSo", "(I)Z"⟩, 68), (⟨"SmellAbbeyModel", "draw", "(I)I"⟩, 68)]
theorem lw_r7 : ∀ q ∈ lw_privs_7, lw_okq q := List.forall_mem_cons.mpr ⟨lw_p96, List.forall_mem_cons.mpr ⟨lw_p97, List.forall_mem_cons.mpr ⟨lw_p98, List.forall_mem_cons.mpr ⟨lw_p99, List.forall_mem_cons.mpr ⟨lw_p100, List.forall_mem_cons.mpr ⟨lw_p101, List.forall_mem_cons.mpr ⟨lw_p102, List.forall_mem_cons.mpr ⟨lw_p103, List.forall_mem_cons.mpr ⟨lw_p104, List.forall_mem_cons.mpr ⟨lw_p105, List.forall_mem_cons.mpr ⟨lw_p106, List.forall_mem_cons.mpr ⟨lw_p107, List.forall_mem_cons.mpr ⟨lw_p108, fun _ h => absurd h List.not_mem_nil⟩⟩⟩⟩⟩⟩⟩⟩⟩⟩⟩⟩⟩
def lw_privs : List (MethodName × Nat) := lw_privs_1 ++ (lw_privs_2 ++ (lw_privs_3 ++ (lw_privs_4 ++ (lw_privs_5 ++ (lw_privs_6 ++ (lw_privs_7))))))
def lw_tbl : List Cond := k2_sels lw_privs ++ tables_1
theorem lw_privs_ok : ∀ q ∈ lw_privs, lw_okq q := by
  show ∀ q ∈ lw_privs_1 ++ (lw_privs_2 ++ (lw_privs_3 ++ (lw_privs_4 ++ (lw_privs_5 ++ (lw_privs_6 ++ (lw_privs_7)))))), lw_okq q
  exact List.forall_mem_append.mpr ⟨lw_r1, List.forall_mem_append.mpr ⟨lw_r2, List.forall_mem_append.mpr ⟨lw_r3, List.forall_mem_append.mpr ⟨lw_r4, List.forall_mem_append.mpr ⟨lw_r5, List.forall_mem_append.mpr ⟨lw_r6, lw_r7⟩⟩⟩⟩⟩⟩
end
section
def RX0 : String := "SmellAbbey$Laws"
def TX0 : u_T := fun k => match k with
  | 0 => ("SmellAbbey$Laws", "tokens", "[I", true)
  | 1 => ("SmellAbbey$Laws", "numbers", "[I", true)
  | 2 => ("SmellAbbey$Laws", "from", "[I", true)
  | 3 => ("SmellAbbey$Laws", "to", "[I", true)
  | 4 => ("SmellAbbey$Laws", "isTold", "[Z", true)
  | 5 => ("SmellAbbey$Laws", "names", "[J", true)
  | 6 => ("SmellAbbey$Laws", "values", "[J", true)
  | 7 => ("SmellAbbey$Laws", "length", "I", false)
  | _ => ("SmellAbbey$Laws", "knots", "I", false)
def tyX0 : Nat → FieldType := fun k => match k with
  | 0 => .array .int
  | 1 => .array .int
  | 2 => .array .int
  | 3 => .array .int
  | 4 => .array .boolean
  | 5 => .array .long
  | 6 => .array .long
  | 7 => .int
  | _ => .int
abbrev wsX00 : List Cond := u_ws RX0 TX0 9
theorem nmX0 : ∀ a, a < 9 → ∀ b, b < 9 → a ≠ b → (TX0 a).2.1 ≠ (TX0 b).2.1 := by decide +kernel
theorem tyX0_ok : ∀ k, k < 9 → parseFieldDescriptor (TX0 k).2.2.1 = some (tyX0 k) := by decide +kernel
abbrev cX0_init : ByteArray := prog_2_method_1_code
def yX0_init : MethodName := ⟨RX0, "<init>", "()V"⟩
abbrev cX0_clear : ByteArray := prog_2_method_2_code
def yX0_clear : MethodName := ⟨RX0, "clear", "()V"⟩
abbrev cX0_isTold : ByteArray := prog_2_method_3_code
def yX0_isTold : MethodName := ⟨RX0, "isTold", "(I)Z"⟩
abbrev cX0_begin : ByteArray := prog_2_method_4_code
def yX0_begin : MethodName := ⟨RX0, "begin", "(I)V"⟩
abbrev cX0_end : ByteArray := prog_2_method_5_code
def yX0_end : MethodName := ⟨RX0, "end", "(I)V"⟩
abbrev cX0_addKnot : ByteArray := prog_2_method_6_code
def yX0_addKnot : MethodName := ⟨RX0, "addKnot", "()Z"⟩
abbrev cX0_append : ByteArray := prog_2_method_7_code
def yX0_append : MethodName := ⟨RX0, "append", "(II)V"⟩
abbrev cX0_setNames : ByteArray := prog_2_method_8_code
def yX0_setNames : MethodName := ⟨RX0, "setNames", "(IIIIIII)V"⟩
abbrev cX0_workOut : ByteArray := prog_2_method_9_code
def yX0_workOut : MethodName := ⟨RX0, "workOut", "(I)J"⟩
abbrev cX0_joined : ByteArray := prog_2_method_10_code
def yX0_joined : MethodName := ⟨RX0, "joined", "(IJJ)J"⟩
abbrev cX0_multiplied : ByteArray := prog_2_method_11_code
def yX0_multiplied : MethodName := ⟨RX0, "multiplied", "(JJ)J"⟩
def RX1 : String := "SmellAbbey$Notes"
def TX1 : u_T := fun k => match k with
  | 0 => ("SmellAbbey$Notes", "mornings", "[I", true)
  | 1 => ("SmellAbbey$Notes", "monk", "[I", true)
  | 2 => ("SmellAbbey$Notes", "day", "[I", true)
  | 3 => ("SmellAbbey$Notes", "is", "[Z", true)
  | 4 => ("SmellAbbey$Notes", "strikes", "[I", true)
  | 5 => ("SmellAbbey$Notes", "struck", "[Z", true)
  | 6 => ("SmellAbbey$Notes", "size", "I", false)
  | _ => ("SmellAbbey$Notes", "knownBy", "I", false)
def tyX1 : Nat → FieldType := fun k => match k with
  | 0 => .array .int
  | 1 => .array .int
  | 2 => .array .int
  | 3 => .array .boolean
  | 4 => .array .int
  | 5 => .array .boolean
  | 6 => .int
  | _ => .int
abbrev wsX10 : List Cond := u_ws RX1 TX1 8
theorem nmX1 : ∀ a, a < 8 → ∀ b, b < 8 → a ≠ b → (TX1 a).2.1 ≠ (TX1 b).2.1 := by decide +kernel
theorem tyX1_ok : ∀ k, k < 8 → parseFieldDescriptor (TX1 k).2.2.1 = some (tyX1 k) := by decide +kernel
abbrev cX1_init : ByteArray := prog_3_method_1_code
def yX1_init : MethodName := ⟨RX1, "<init>", "()V"⟩
abbrev cX1_clear : ByteArray := prog_3_method_2_code
def yX1_clear : MethodName := ⟨RX1, "clear", "()V"⟩
abbrev cX1_add : ByteArray := prog_3_method_3_code
def yX1_add : MethodName := ⟨RX1, "add", "(IIIZ)I"⟩
abbrev cX1_strike : ByteArray := prog_3_method_4_code
def yX1_strike : MethodName := ⟨RX1, "strike", "(I)I"⟩
abbrev cX1_considered : ByteArray := prog_3_method_5_code
def yX1_considered : MethodName := ⟨RX1, "considered", "()I"⟩
abbrev cX1_weigh : ByteArray := prog_3_method_6_code
def yX1_weigh : MethodName := ⟨RX1, "weigh", "()V"⟩
abbrev cX1_counts : ByteArray := prog_3_method_7_code
def yX1_counts : MethodName := ⟨RX1, "counts", "(I)Z"⟩
abbrev cX1_lastMorning : ByteArray := prog_3_method_8_code
def yX1_lastMorning : MethodName := ⟨RX1, "lastMorning", "()I"⟩
abbrev cX1_allow : ByteArray := prog_3_method_9_code
def yX1_allow : MethodName := ⟨RX1, "allow", "(I[I)Z"⟩
def RX2 : String := "SmellAbbey$Numbers"
def TX2 : u_T := fun k => match k with
  | _ => ("SmellAbbey$Numbers", "last", "J", false)
def tyX2 : Nat → FieldType := fun k => match k with
  | _ => .long
abbrev wsX20 : List Cond := u_ws RX2 TX2 1
theorem nmX2 : ∀ a, a < 1 → ∀ b, b < 1 → a ≠ b → (TX2 a).2.1 ≠ (TX2 b).2.1 := by decide +kernel
theorem tyX2_ok : ∀ k, k < 1 → parseFieldDescriptor (TX2 k).2.2.1 = some (tyX2 k) := by decide +kernel
abbrev cX2_init : ByteArray := prog_4_method_1_code
def yX2_init : MethodName := ⟨RX2, "<init>", "()V"⟩
abbrev cX2_begin : ByteArray := prog_4_method_2_code
def yX2_begin : MethodName := ⟨RX2, "begin", "(I)V"⟩
abbrev cX2_draw : ByteArray := prog_4_method_3_code
def yX2_draw : MethodName := ⟨RX2, "draw", "()I"⟩
def RX3 : String := "SmellAbbey$Reader"
def TX3 : u_T := fun k => match k with
  | 0 => ("SmellAbbey$Reader", "scanner", "LSmellAbbey$Scanner;", true)
  | 1 => ("SmellAbbey$Reader", "waiting", "[I", true)
  | 2 => ("SmellAbbey$Reader", "strengths", "[I", true)
  | 3 => ("SmellAbbey$Reader", "waitingCount", "I", false)
  | 4 => ("SmellAbbey$Reader", "opened", "I", false)
  | 5 => ("SmellAbbey$Reader", "wantsValue", "Z", false)
  | 6 => ("SmellAbbey$Reader", "told", "LSmellAbbey$Told;", false)
  | 7 => ("SmellAbbey$Reader", "fault", "I", false)
  | _ => ("SmellAbbey$Reader", "place", "I", false)
def tyX3 : Nat → FieldType := fun k => match k with
  | 0 => .object "SmellAbbey$Scanner"
  | 1 => .array .int
  | 2 => .array .int
  | 3 => .int
  | 4 => .int
  | 5 => .boolean
  | 6 => .object "SmellAbbey$Told"
  | 7 => .int
  | _ => .int
abbrev wsX30 : List Cond := u_ws RX3 TX3 9
theorem nmX3 : ∀ a, a < 9 → ∀ b, b < 9 → a ≠ b → (TX3 a).2.1 ≠ (TX3 b).2.1 := by decide +kernel
theorem tyX3_ok : ∀ k, k < 9 → parseFieldDescriptor (TX3 k).2.2.1 = some (tyX3 k) := by decide +kernel
abbrev cX3_init : ByteArray := prog_5_method_1_code
def yX3_init : MethodName := ⟨RX3, "<init>", "()V"⟩
abbrev cX3_open : ByteArray := prog_5_method_2_code
def yX3_open : MethodName := ⟨RX3, "open", "([BI)V"⟩
abbrev cX3_exchange : ByteArray := prog_5_method_3_code
def yX3_exchange : MethodName := ⟨RX3, "exchange", "(LSmellAbbey$Told;)LSmellAbbey$Told;"⟩
abbrev cX3_hasMore : ByteArray := prog_5_method_4_code
def yX3_hasMore : MethodName := ⟨RX3, "hasMore", "()Z"⟩
abbrev cX3_wrong : ByteArray := prog_5_method_5_code
def yX3_wrong : MethodName := ⟨RX3, "wrong", "(I)I"⟩
abbrev cX3_readLine : ByteArray := prog_5_method_6_code
def yX3_readLine : MethodName := ⟨RX3, "readLine", "()I"⟩
abbrev cX3_stuffLine : ByteArray := prog_5_method_7_code
def yX3_stuffLine : MethodName := ⟨RX3, "stuffLine", "()I"⟩
abbrev cX3_dayLine : ByteArray := prog_5_method_8_code
def yX3_dayLine : MethodName := ⟨RX3, "dayLine", "()I"⟩
abbrev cX3_mixLine : ByteArray := prog_5_method_9_code
def yX3_mixLine : MethodName := ⟨RX3, "mixLine", "()I"⟩
abbrev cX3_roomLine : ByteArray := prog_5_method_10_code
def yX3_roomLine : MethodName := ⟨RX3, "roomLine", "()I"⟩
abbrev cX3_monkLine : ByteArray := prog_5_method_11_code
def yX3_monkLine : MethodName := ⟨RX3, "monkLine", "()I"⟩
abbrev cX3_lingerLine : ByteArray := prog_5_method_12_code
def yX3_lingerLine : MethodName := ⟨RX3, "lingerLine", "()I"⟩
abbrev cX3_seedLine : ByteArray := prog_5_method_13_code
def yX3_seedLine : MethodName := ⟨RX3, "seedLine", "()I"⟩
abbrev cX3_lawLine : ByteArray := prog_5_method_14_code
def yX3_lawLine : MethodName := ⟨RX3, "lawLine", "()I"⟩
abbrev cX3_newName : ByteArray := prog_5_method_15_code
def yX3_newName : MethodName := ⟨RX3, "newName", "(I)I"⟩
abbrev cX3_toldName : ByteArray := prog_5_method_16_code
def yX3_toldName : MethodName := ⟨RX3, "toldName", "(I)I"⟩
abbrev cX3_readNumber : ByteArray := prog_5_method_17_code
def yX3_readNumber : MethodName := ⟨RX3, "readNumber", "(II)I"⟩
abbrev cX3_readStop : ByteArray := prog_5_method_18_code
def yX3_readStop : MethodName := ⟨RX3, "readStop", "()I"⟩
abbrev cX3_readFormula : ByteArray := prog_5_method_19_code
def yX3_readFormula : MethodName := ⟨RX3, "readFormula", "()I"⟩
abbrev cX3_readValue : ByteArray := prog_5_method_20_code
def yX3_readValue : MethodName := ⟨RX3, "readValue", "()I"⟩
abbrev cX3_readSign : ByteArray := prog_5_method_21_code
def yX3_readSign : MethodName := ⟨RX3, "readSign", "()I"⟩
abbrev cX3_putOff : ByteArray := prog_5_method_22_code
def yX3_putOff : MethodName := ⟨RX3, "putOff", "(I)I"⟩
abbrev cX3_topStrength : ByteArray := prog_5_method_23_code
def yX3_topStrength : MethodName := ⟨RX3, "topStrength", "()I"⟩
abbrev cX3_settle : ByteArray := prog_5_method_24_code
def yX3_settle : MethodName := ⟨RX3, "settle", "(I)V"⟩
def RX4 : String := "SmellAbbey$Scanner"
def TX4 : u_T := fun k => match k with
  | 0 => ("SmellAbbey$Scanner", "words", "[I", true)
  | 1 => ("SmellAbbey$Scanner", "bytes", "[B", false)
  | 2 => ("SmellAbbey$Scanner", "length", "I", false)
  | 3 => ("SmellAbbey$Scanner", "at", "I", false)
  | 4 => ("SmellAbbey$Scanner", "token", "I", false)
  | 5 => ("SmellAbbey$Scanner", "start", "I", false)
  | 6 => ("SmellAbbey$Scanner", "letters", "I", false)
  | _ => ("SmellAbbey$Scanner", "number", "I", false)
def tyX4 : Nat → FieldType := fun k => match k with
  | 0 => .array .int
  | 1 => .array .byte
  | 2 => .int
  | 3 => .int
  | 4 => .int
  | 5 => .int
  | 6 => .int
  | _ => .int
abbrev wsX40 : List Cond := u_ws RX4 TX4 8
theorem nmX4 : ∀ a, a < 8 → ∀ b, b < 8 → a ≠ b → (TX4 a).2.1 ≠ (TX4 b).2.1 := by decide +kernel
theorem tyX4_ok : ∀ k, k < 8 → parseFieldDescriptor (TX4 k).2.2.1 = some (tyX4 k) := by decide +kernel
abbrev cX4_init : ByteArray := prog_6_method_1_code
def yX4_init : MethodName := ⟨RX4, "<init>", "()V"⟩
abbrev cX4_open : ByteArray := prog_6_method_2_code
def yX4_open : MethodName := ⟨RX4, "open", "([BI)V"⟩
abbrev cX4_advance : ByteArray := prog_6_method_3_code
def yX4_advance : MethodName := ⟨RX4, "advance", "()V"⟩
abbrev cX4_isLetter : ByteArray := prog_6_method_4_code
def yX4_isLetter : MethodName := ⟨RX4, "isLetter", "(I)Z"⟩
abbrev cX4_isDigit : ByteArray := prog_6_method_5_code
def yX4_isDigit : MethodName := ⟨RX4, "isDigit", "(I)Z"⟩
abbrev cX4_readWord : ByteArray := prog_6_method_6_code
def yX4_readWord : MethodName := ⟨RX4, "readWord", "()V"⟩
abbrev cX4_readNumber : ByteArray := prog_6_method_7_code
def yX4_readNumber : MethodName := ⟨RX4, "readNumber", "()V"⟩
abbrev cX4_signOf : ByteArray := prog_6_method_8_code
def yX4_signOf : MethodName := ⟨RX4, "signOf", "(I)I"⟩
abbrev cX4_takes : ByteArray := prog_6_method_9_code
def yX4_takes : MethodName := ⟨RX4, "takes", "(I)Z"⟩
def RX5 : String := "SmellAbbey$State"
def TX5 : u_T := fun k => match k with
  | 0 => ("SmellAbbey$State", "store", "[I", true)
  | 1 => ("SmellAbbey$State", "wind", "[I", true)
  | 2 => ("SmellAbbey$State", "part", "[I", true)
  | 3 => ("SmellAbbey$State", "air", "[[I", true)
  | 4 => ("SmellAbbey$State", "room", "[I", true)
  | 5 => ("SmellAbbey$State", "colds", "[I", true)
  | 6 => ("SmellAbbey$State", "smelled", "[I", true)
  | 7 => ("SmellAbbey$State", "thought", "[I", true)
  | 8 => ("SmellAbbey$State", "much", "[I", true)
  | 9 => ("SmellAbbey$State", "votes", "[I", true)
  | 10 => ("SmellAbbey$State", "date", "I", false)
  | 11 => ("SmellAbbey$State", "kept", "I", false)
  | 12 => ("SmellAbbey$State", "right", "I", false)
  | 13 => ("SmellAbbey$State", "wrong", "I", false)
  | _ => ("SmellAbbey$State", "absent", "I", false)
def tyX5 : Nat → FieldType := fun k => match k with
  | 0 => .array .int
  | 1 => .array .int
  | 2 => .array .int
  | 3 => .array (.array .int)
  | 4 => .array .int
  | 5 => .array .int
  | 6 => .array .int
  | 7 => .array .int
  | 8 => .array .int
  | 9 => .array .int
  | 10 => .int
  | 11 => .int
  | 12 => .int
  | 13 => .int
  | _ => .int
abbrev wsX50 : List Cond := u_ws RX5 TX5 15
theorem nmX5 : ∀ a, a < 15 → ∀ b, b < 15 → a ≠ b → (TX5 a).2.1 ≠ (TX5 b).2.1 := by decide +kernel
theorem tyX5_ok : ∀ k, k < 15 → parseFieldDescriptor (TX5 k).2.2.1 = some (tyX5 k) := by decide +kernel
abbrev cX5_init : ByteArray := prog_7_method_1_code
def yX5_init : MethodName := ⟨RX5, "<init>", "()V"⟩
abbrev cX5_begin : ByteArray := prog_7_method_2_code
def yX5_begin : MethodName := ⟨RX5, "begin", "(LSmellAbbey$Told;)V"⟩
abbrev cX5_copy : ByteArray := prog_7_method_3_code
def yX5_copy : MethodName := ⟨RX5, "copy", "(LSmellAbbey$State;)V"⟩
abbrev cX5_clearAir : ByteArray := prog_7_method_4_code
def yX5_clearAir : MethodName := ⟨RX5, "clearAir", "()V"⟩
abbrev cX5_goThroughMorning : ByteArray := prog_7_method_5_code
def yX5_goThroughMorning : MethodName := ⟨RX5, "goThroughMorning", "(LSmellAbbey$Told;)V"⟩
abbrev cX5_firstShort : ByteArray := prog_7_method_6_code
def yX5_firstShort : MethodName := ⟨RX5, "firstShort", "(LSmellAbbey$Told;)I"⟩
abbrev cX5_takeOut : ByteArray := prog_7_method_7_code
def yX5_takeOut : MethodName := ⟨RX5, "takeOut", "(LSmellAbbey$Told;)V"⟩
abbrev cX5_drift : ByteArray := prog_7_method_8_code
def yX5_drift : MethodName := ⟨RX5, "drift", "(LSmellAbbey$Told;)V"⟩
abbrev cX5_smellAndThink : ByteArray := prog_7_method_9_code
def yX5_smellAndThink : MethodName := ⟨RX5, "smellAndThink", "(LSmellAbbey$Told;II)V"⟩
abbrev cX5_vote : ByteArray := prog_7_method_10_code
def yX5_vote : MethodName := ⟨RX5, "vote", "(LSmellAbbey$Told;)V"⟩
abbrev cX5_mostThought : ByteArray := prog_7_method_11_code
def yX5_mostThought : MethodName := ⟨RX5, "mostThought", "(LSmellAbbey$Told;I)I"⟩
abbrev cX5_feastThinkers : ByteArray := prog_7_method_12_code
def yX5_feastThinkers : MethodName := ⟨RX5, "feastThinkers", "(LSmellAbbey$Told;)I"⟩
abbrev cX5_markOf : ByteArray := prog_7_method_13_code
def yX5_markOf : MethodName := ⟨RX5, "markOf", "(LSmellAbbey$Told;III)I"⟩
abbrev cX5_airLaw : ByteArray := prog_7_method_14_code
def yX5_airLaw : MethodName := ⟨RX5, "airLaw", "(LSmellAbbey$Told;III)J"⟩
abbrev cX5_keenLaw : ByteArray := prog_7_method_15_code
def yX5_keenLaw : MethodName := ⟨RX5, "keenLaw", "(LSmellAbbey$Told;II)J"⟩
abbrev cX5_worthLaw : ByteArray := prog_7_method_16_code
def yX5_worthLaw : MethodName := ⟨RX5, "worthLaw", "(LSmellAbbey$Told;I)J"⟩
abbrev cX5_keenOf : ByteArray := prog_7_method_17_code
def yX5_keenOf : MethodName := ⟨RX5, "keenOf", "(LSmellAbbey$Told;II)I"⟩
abbrev cX5_worthOf : ByteArray := prog_7_method_18_code
def yX5_worthOf : MethodName := ⟨RX5, "worthOf", "(LSmellAbbey$Told;I)I"⟩
abbrev cX5_within : ByteArray := prog_7_method_19_code
def yX5_within : MethodName := ⟨RX5, "within", "(JII)I"⟩
def RX6 : String := "SmellAbbey$Token"
def TX6 : u_T := fun k => match k with
  | _ => ("", "", "", false)
def tyX6 : Nat → FieldType := fun k => match k with
  | _ => .int
abbrev wsX60 : List Cond := u_ws RX6 TX6 0
theorem nmX6 : ∀ a, a < 0 → ∀ b, b < 0 → a ≠ b → (TX6 a).2.1 ≠ (TX6 b).2.1 := by decide +kernel
theorem tyX6_ok : ∀ k, k < 0 → parseFieldDescriptor (TX6 k).2.2.1 = some (tyX6 k) := by decide +kernel
abbrev cX6_strength : ByteArray := prog_8_method_2_code
def yX6_strength : MethodName := ⟨RX6, "strength", "(I)I"⟩
def RX7 : String := "SmellAbbey$Told"
def TX7 : u_T := fun k => match k with
  | 0 => ("SmellAbbey$Told", "many", "[I", true)
  | 1 => ("SmellAbbey$Told", "names", "[[I", true)
  | 2 => ("SmellAbbey$Told", "store", "[I", true)
  | 3 => ("SmellAbbey$Told", "feast", "[Z", true)
  | 4 => ("SmellAbbey$Told", "mix", "[[I", true)
  | 5 => ("SmellAbbey$Told", "part", "[I", true)
  | 6 => ("SmellAbbey$Told", "room", "[I", true)
  | 7 => ("SmellAbbey$Told", "nose", "[I", true)
  | 8 => ("SmellAbbey$Told", "laws", "LSmellAbbey$Laws;", true)
  | 9 => ("SmellAbbey$Told", "mixes", "I", false)
  | 10 => ("SmellAbbey$Told", "linger", "I", false)
  | 11 => ("SmellAbbey$Told", "lingerTold", "Z", false)
  | _ => ("SmellAbbey$Told", "seedTold", "Z", false)
def tyX7 : Nat → FieldType := fun k => match k with
  | 0 => .array .int
  | 1 => .array (.array .int)
  | 2 => .array .int
  | 3 => .array .boolean
  | 4 => .array (.array .int)
  | 5 => .array .int
  | 6 => .array .int
  | 7 => .array .int
  | 8 => .object "SmellAbbey$Laws"
  | 9 => .int
  | 10 => .int
  | 11 => .boolean
  | _ => .boolean
abbrev wsX70 : List Cond := u_ws RX7 TX7 13
theorem nmX7 : ∀ a, a < 13 → ∀ b, b < 13 → a ≠ b → (TX7 a).2.1 ≠ (TX7 b).2.1 := by decide +kernel
theorem tyX7_ok : ∀ k, k < 13 → parseFieldDescriptor (TX7 k).2.2.1 = some (tyX7 k) := by decide +kernel
abbrev cX7_init : ByteArray := prog_9_method_1_code
def yX7_init : MethodName := ⟨RX7, "<init>", "()V"⟩
abbrev cX7_clear : ByteArray := prog_9_method_2_code
def yX7_clear : MethodName := ⟨RX7, "clear", "()V"⟩
abbrev cX7_numberOf : ByteArray := prog_9_method_3_code
def yX7_numberOf : MethodName := ⟨RX7, "numberOf", "(II)I"⟩
abbrev cX7_mixedOn : ByteArray := prog_9_method_4_code
def yX7_mixedOn : MethodName := ⟨RX7, "mixedOn", "(II)I"⟩
abbrev cX7_smelt : ByteArray := prog_9_method_5_code
def yX7_smelt : MethodName := ⟨RX7, "smelt", "([IIII)I"⟩
def RX8 : String := "SmellAbbey$Undoing"
def TX8 : u_T := fun k => match k with
  | 0 => ("SmellAbbey$Undoing", "call", "[I", true)
  | 1 => ("SmellAbbey$Undoing", "whose", "[I", true)
  | 2 => ("SmellAbbey$Undoing", "before", "[I", true)
  | _ => ("SmellAbbey$Undoing", "size", "I", false)
def tyX8 : Nat → FieldType := fun k => match k with
  | 0 => .array .int
  | 1 => .array .int
  | 2 => .array .int
  | _ => .int
abbrev wsX80 : List Cond := u_ws RX8 TX8 4
theorem nmX8 : ∀ a, a < 4 → ∀ b, b < 4 → a ≠ b → (TX8 a).2.1 ≠ (TX8 b).2.1 := by decide +kernel
theorem tyX8_ok : ∀ k, k < 4 → parseFieldDescriptor (TX8 k).2.2.1 = some (tyX8 k) := by decide +kernel
abbrev cX8_init : ByteArray := prog_10_method_1_code
def yX8_init : MethodName := ⟨RX8, "<init>", "()V"⟩
abbrev cX8_clear : ByteArray := prog_10_method_2_code
def yX8_clear : MethodName := ⟨RX8, "clear", "()V"⟩
abbrev cX8_add : ByteArray := prog_10_method_3_code
def yX8_add : MethodName := ⟨RX8, "add", "(III)V"⟩
abbrev cX8_forgetOldest : ByteArray := prog_10_method_4_code
def yX8_forgetOldest : MethodName := ⟨RX8, "forgetOldest", "()V"⟩
abbrev cX8_takeBack : ByteArray := prog_10_method_5_code
def yX8_takeBack : MethodName := ⟨RX8, "takeBack", "(LSmellAbbey$State;)I"⟩
def RX9 : String := "SmellAbbey"
def TX9 : u_T := fun k => match k with
  | 0 => ("SmellAbbey", "tape", "[B", true)
  | 1 => ("SmellAbbey", "reader", "LSmellAbbey$Reader;", true)
  | 2 => ("SmellAbbey", "notes", "LSmellAbbey$Notes;", true)
  | 3 => ("SmellAbbey", "undoing", "LSmellAbbey$Undoing;", true)
  | 4 => ("SmellAbbey", "now", "LSmellAbbey$State;", true)
  | 5 => ("SmellAbbey", "image", "LSmellAbbey$State;", true)
  | 6 => ("SmellAbbey", "trial", "LSmellAbbey$State;", true)
  | 7 => ("SmellAbbey", "numbers", "LSmellAbbey$Numbers;", true)
  | 8 => ("SmellAbbey", "feastThinkers", "[I", true)
  | 9 => ("SmellAbbey", "otherMix", "[I", true)
  | 10 => ("SmellAbbey", "marks", "[I", true)
  | 11 => ("SmellAbbey", "told", "LSmellAbbey$Told;", false)
  | 12 => ("SmellAbbey", "taped", "I", false)
  | _ => ("SmellAbbey", "imaged", "Z", false)
def tyX9 : Nat → FieldType := fun k => match k with
  | 0 => .array .byte
  | 1 => .object "SmellAbbey$Reader"
  | 2 => .object "SmellAbbey$Notes"
  | 3 => .object "SmellAbbey$Undoing"
  | 4 => .object "SmellAbbey$State"
  | 5 => .object "SmellAbbey$State"
  | 6 => .object "SmellAbbey$State"
  | 7 => .object "SmellAbbey$Numbers"
  | 8 => .array .int
  | 9 => .array .int
  | 10 => .array .int
  | 11 => .object "SmellAbbey$Told"
  | 12 => .int
  | _ => .boolean
abbrev wsX90 : List Cond := u_ws RX9 TX9 14
theorem nmX9 : ∀ a, a < 14 → ∀ b, b < 14 → a ≠ b → (TX9 a).2.1 ≠ (TX9 b).2.1 := by decide +kernel
theorem tyX9_ok : ∀ k, k < 14 → parseFieldDescriptor (TX9 k).2.2.1 = some (tyX9 k) := by decide +kernel
abbrev cX9_init : ByteArray := prog_1_method_1_code
def yX9_init : MethodName := ⟨RX9, "<init>", "()V"⟩
abbrev cX9_feed : ByteArray := prog_1_method_2_code
def yX9_feed : MethodName := ⟨RX9, "feed", "(IIIII)I"⟩
abbrev cX9_tapeNumber : ByteArray := prog_1_method_3_code
def yX9_tapeNumber : MethodName := ⟨RX9, "tapeNumber", "(I)V"⟩
abbrev cX9_text : ByteArray := prog_1_method_4_code
def yX9_text : MethodName := ⟨RX9, "text", "(I)I"⟩
abbrev cX9_fault : ByteArray := prog_1_method_5_code
def yX9_fault : MethodName := ⟨RX9, "fault", "(I)I"⟩
abbrev cX9_named : ByteArray := prog_1_method_6_code
def yX9_named : MethodName := ⟨RX9, "named", "(II)I"⟩
abbrev cX9_monk : ByteArray := prog_1_method_7_code
def yX9_monk : MethodName := ⟨RX9, "monk", "(II)I"⟩
abbrev cX9_stuff : ByteArray := prog_1_method_8_code
def yX9_stuff : MethodName := ⟨RX9, "stuff", "(II)I"⟩
abbrev cX9_mix : ByteArray := prog_1_method_9_code
def yX9_mix : MethodName := ⟨RX9, "mix", "(II)I"⟩
abbrev cX9_feast : ByteArray := prog_1_method_10_code
def yX9_feast : MethodName := ⟨RX9, "feast", "(I)I"⟩
abbrev cX9_air : ByteArray := prog_1_method_11_code
def yX9_air : MethodName := ⟨RX9, "air", "(II)I"⟩
abbrev cX9_mark : ByteArray := prog_1_method_12_code
def yX9_mark : MethodName := ⟨RX9, "mark", "(II)I"⟩
abbrev cX9_law : ByteArray := prog_1_method_13_code
def yX9_law : MethodName := ⟨RX9, "law", "(III)J"⟩
abbrev cX9_cold : ByteArray := prog_1_method_14_code
def yX9_cold : MethodName := ⟨RX9, "cold", "(IIZ)Z"⟩
abbrev cX9_wind : ByteArray := prog_1_method_15_code
def yX9_wind : MethodName := ⟨RX9, "wind", "(II)Z"⟩
abbrev cX9_buy : ByteArray := prog_1_method_16_code
def yX9_buy : MethodName := ⟨RX9, "buy", "(II)I"⟩
abbrev cX9_goes : ByteArray := prog_1_method_17_code
def yX9_goes : MethodName := ⟨RX9, "goes", "(II)Z"⟩
abbrev cX9_go : ByteArray := prog_1_method_18_code
def yX9_go : MethodName := ⟨RX9, "go", "(I)I"⟩
abbrev cX9_mixedUp : ByteArray := prog_1_method_19_code
def yX9_mixedUp : MethodName := ⟨RX9, "mixedUp", "(I)I"⟩
abbrev cX9_pair : ByteArray := prog_1_method_20_code
def yX9_pair : MethodName := ⟨RX9, "pair", "(II)I"⟩
abbrev cX9_mending : ByteArray := prog_1_method_21_code
def yX9_mending : MethodName := ⟨RX9, "mending", "(IIII)I"⟩
abbrev cX9_moreThatIsSmelled : ByteArray := prog_1_method_22_code
def yX9_moreThatIsSmelled : MethodName := ⟨RX9, "moreThatIsSmelled", "(IIII)I"⟩
abbrev cX9_placeTo : ByteArray := prog_1_method_23_code
def yX9_placeTo : MethodName := ⟨RX9, "placeTo", "(II)I"⟩
abbrev cX9_lasts : ByteArray := prog_1_method_24_code
def yX9_lasts : MethodName := ⟨RX9, "lasts", "(I)I"⟩
abbrev cX9_needs : ByteArray := prog_1_method_25_code
def yX9_needs : MethodName := ⟨RX9, "needs", "(II)I"⟩
abbrev cX9_dearest : ByteArray := prog_1_method_26_code
def yX9_dearest : MethodName := ⟨RX9, "dearest", "(I)I"⟩
abbrev cX9_inPlace : ByteArray := prog_1_method_27_code
def yX9_inPlace : MethodName := ⟨RX9, "inPlace", "(II)I"⟩
abbrev cX9_markDaysInPlace : ByteArray := prog_1_method_28_code
def yX9_markDaysInPlace : MethodName := ⟨RX9, "markDaysInPlace", "(III)V"⟩
abbrev cX9_letter : ByteArray := prog_1_method_29_code
def yX9_letter : MethodName := ⟨RX9, "letter", "(III)I"⟩
abbrev cX9_firstWrong : ByteArray := prog_1_method_30_code
def yX9_firstWrong : MethodName := ⟨RX9, "firstWrong", "(I)I"⟩
abbrev cX9_rests : ByteArray := prog_1_method_31_code
def yX9_rests : MethodName := ⟨RX9, "rests", "(I)I"⟩
abbrev cX9_rest : ByteArray := prog_1_method_32_code
def yX9_rest : MethodName := ⟨RX9, "rest", "(II)I"⟩
abbrev cX9_canBurn : ByteArray := prog_1_method_33_code
def yX9_canBurn : MethodName := ⟨RX9, "canBurn", "(I)Z"⟩
abbrev cX9_countFeastThinkers : ByteArray := prog_1_method_34_code
def yX9_countFeastThinkers : MethodName := ⟨RX9, "countFeastThinkers", "(I)V"⟩
abbrev cX9_isRest : ByteArray := prog_1_method_35_code
def yX9_isRest : MethodName := ⟨RX9, "isRest", "(II)Z"⟩
abbrev cX9_note : ByteArray := prog_1_method_36_code
def yX9_note : MethodName := ⟨RX9, "note", "(IIIZ)I"⟩
abbrev cX9_out : ByteArray := prog_1_method_37_code
def yX9_out : MethodName := ⟨RX9, "out", "(I)I"⟩
abbrev cX9_known : ByteArray := prog_1_method_38_code
def yX9_known : MethodName := ⟨RX9, "known", "(I)Z"⟩
abbrev cX9_colds : ByteArray := prog_1_method_39_code
def yX9_colds : MethodName := ⟨RX9, "colds", "(I)I"⟩
abbrev cX9_agreesWithNotes : ByteArray := prog_1_method_40_code
def yX9_agreesWithNotes : MethodName := ⟨RX9, "agreesWithNotes", "()Z"⟩
abbrev cX9_chance : ByteArray := prog_1_method_41_code
def yX9_chance : MethodName := ⟨RX9, "chance", "(III)I"⟩
abbrev cX9_blowByChance : ByteArray := prog_1_method_42_code
def yX9_blowByChance : MethodName := ⟨RX9, "blowByChance", "()V"⟩
abbrev cX9_tried : ByteArray := prog_1_method_43_code
def yX9_tried : MethodName := ⟨RX9, "tried", "(III)I"⟩
abbrev cX9_changeTrial : ByteArray := prog_1_method_44_code
def yX9_changeTrial : MethodName := ⟨RX9, "changeTrial", "(II)V"⟩
abbrev cX9_undo : ByteArray := prog_1_method_45_code
def yX9_undo : MethodName := ⟨RX9, "undo", "()I"⟩
abbrev cX9_keep : ByteArray := prog_1_method_46_code
def yX9_keep : MethodName := ⟨RX9, "keep", "()I"⟩
abbrev cX9_back : ByteArray := prog_1_method_47_code
def yX9_back : MethodName := ⟨RX9, "back", "()I"⟩
abbrev cX9_count : ByteArray := prog_1_method_48_code
def yX9_count : MethodName := ⟨RX9, "count", "(I)I"⟩
abbrev cX9_allStores : ByteArray := prog_1_method_49_code
def yX9_allStores : MethodName := ⟨RX9, "allStores", "()I"⟩
abbrev cX9_has : ByteArray := prog_1_method_50_code
def yX9_has : MethodName := ⟨RX9, "has", "(II)Z"⟩
abbrev cX9_keenNow : ByteArray := prog_1_method_51_code
def yX9_keenNow : MethodName := ⟨RX9, "keenNow", "(I)I"⟩
abbrev cX9_markDays : ByteArray := prog_1_method_52_code
def yX9_markDays : MethodName := ⟨RX9, "markDays", "(II)V"⟩
abbrev cX9_alikePairs : ByteArray := prog_1_method_53_code
def yX9_alikePairs : MethodName := ⟨RX9, "alikePairs", "()I"⟩
abbrev cX9_unlikeMarks : ByteArray := prog_1_method_54_code
def yX9_unlikeMarks : MethodName := ⟨RX9, "unlikeMarks", "()I"⟩
def RX10 : String := "SmellAbbeyModel"
def TX10 : u_T := fun k => match k with
  | 0 => ("SmellAbbeyModel", "thrown", "I", false)
  | 1 => ("SmellAbbeyModel", "tape", "[I", true)
  | 2 => ("SmellAbbeyModel", "taped", "I", false)
  | 3 => ("SmellAbbeyModel", "number", "[I", true)
  | 4 => ("SmellAbbeyModel", "stuffName", "[I", true)
  | 5 => ("SmellAbbeyModel", "storeAs", "[I", true)
  | 6 => ("SmellAbbeyModel", "dayName", "[I", true)
  | 7 => ("SmellAbbeyModel", "feast", "[I", true)
  | 8 => ("SmellAbbeyModel", "mixed", "[I", true)
  | 9 => ("SmellAbbeyModel", "roomName", "[I", true)
  | 10 => ("SmellAbbeyModel", "partOf", "[I", true)
  | 11 => ("SmellAbbeyModel", "monkName", "[I", true)
  | 12 => ("SmellAbbeyModel", "roomAs", "[I", true)
  | 13 => ("SmellAbbeyModel", "noseOf", "[I", true)
  | 14 => ("SmellAbbeyModel", "sumFrom", "[I", true)
  | 15 => ("SmellAbbeyModel", "sumTo", "[I", true)
  | 16 => ("SmellAbbeyModel", "knotSort", "[I", true)
  | 17 => ("SmellAbbeyModel", "knotValue", "[I", true)
  | 18 => ("SmellAbbeyModel", "told", "I", false)
  | 19 => ("SmellAbbeyModel", "lines", "I", false)
  | 20 => ("SmellAbbeyModel", "size", "I", false)
  | 21 => ("SmellAbbeyModel", "at", "I", false)
  | 22 => ("SmellAbbeyModel", "place", "I", false)
  | 23 => ("SmellAbbeyModel", "sort", "I", false)
  | 24 => ("SmellAbbeyModel", "value", "I", false)
  | 25 => ("SmellAbbeyModel", "fault", "I", false)
  | 26 => ("SmellAbbeyModel", "faultPlace", "I", false)
  | 27 => ("SmellAbbeyModel", "lastFault", "I", false)
  | 28 => ("SmellAbbeyModel", "lastPlace", "I", false)
  | 29 => ("SmellAbbeyModel", "open", "I", false)
  | 30 => ("SmellAbbeyModel", "counted", "I", false)
  | 31 => ("SmellAbbeyModel", "names", "[J", true)
  | 32 => ("SmellAbbeyModel", "worked", "[J", true)
  | 33 => ("SmellAbbeyModel", "workedMany", "I", false)
  | 34 => ("SmellAbbeyModel", "date", "[I", true)
  | 35 => ("SmellAbbeyModel", "house", "[I", true)
  | 36 => ("SmellAbbeyModel", "right", "[I", true)
  | 37 => ("SmellAbbeyModel", "amiss", "[I", true)
  | 38 => ("SmellAbbeyModel", "drawn", "[I", true)
  | 39 => ("SmellAbbeyModel", "store", "[I", true)
  | 40 => ("SmellAbbeyModel", "wind", "[I", true)
  | 41 => ("SmellAbbeyModel", "airs", "[I", true)
  | 42 => ("SmellAbbeyModel", "room", "[I", true)
  | 43 => ("SmellAbbeyModel", "colds", "[I", true)
  | 44 => ("SmellAbbeyModel", "smelled", "[I", true)
  | 45 => ("SmellAbbeyModel", "thought", "[I", true)
  | 46 => ("SmellAbbeyModel", "hasImage", "Z", false)
  | 47 => ("SmellAbbeyModel", "undoMany", "I", false)
  | 48 => ("SmellAbbeyModel", "tryWhat", "I", false)
  | 49 => ("SmellAbbeyModel", "tryMonk", "I", false)
  | 50 => ("SmellAbbeyModel", "placeFrom", "I", false)
  | 51 => ("SmellAbbeyModel", "placeTo", "I", false)
  | 52 => ("SmellAbbeyModel", "moreDay", "I", false)
  | 53 => ("SmellAbbeyModel", "moreStuff", "I", false)
  | 54 => ("SmellAbbeyModel", "more", "I", false)
  | 55 => ("SmellAbbeyModel", "votes", "[I", true)
  | 56 => ("SmellAbbeyModel", "taken", "[I", true)
  | 57 => ("SmellAbbeyModel", "marks", "[I", true)
  | 58 => ("SmellAbbeyModel", "hasOne", "[I", true)
  | 59 => ("SmellAbbeyModel", "hasTwo", "[I", true)
  | 60 => ("SmellAbbeyModel", "notes", "I", false)
  | 61 => ("SmellAbbeyModel", "knownBy", "I", false)
  | 62 => ("SmellAbbeyModel", "noteMornings", "[I", true)
  | 63 => ("SmellAbbeyModel", "noteMonk", "[I", true)
  | 64 => ("SmellAbbeyModel", "noteDay", "[I", true)
  | 65 => ("SmellAbbeyModel", "noteIs", "[Z", true)
  | 66 => ("SmellAbbeyModel", "outs", "[I", true)
  | _ => ("SmellAbbeyModel", "isOut", "[Z", true)
def tyX10 : Nat → FieldType := fun k => match k with
  | 0 => .int
  | 1 => .array .int
  | 2 => .int
  | 3 => .array .int
  | 4 => .array .int
  | 5 => .array .int
  | 6 => .array .int
  | 7 => .array .int
  | 8 => .array .int
  | 9 => .array .int
  | 10 => .array .int
  | 11 => .array .int
  | 12 => .array .int
  | 13 => .array .int
  | 14 => .array .int
  | 15 => .array .int
  | 16 => .array .int
  | 17 => .array .int
  | 18 => .int
  | 19 => .int
  | 20 => .int
  | 21 => .int
  | 22 => .int
  | 23 => .int
  | 24 => .int
  | 25 => .int
  | 26 => .int
  | 27 => .int
  | 28 => .int
  | 29 => .int
  | 30 => .int
  | 31 => .array .long
  | 32 => .array .long
  | 33 => .int
  | 34 => .array .int
  | 35 => .array .int
  | 36 => .array .int
  | 37 => .array .int
  | 38 => .array .int
  | 39 => .array .int
  | 40 => .array .int
  | 41 => .array .int
  | 42 => .array .int
  | 43 => .array .int
  | 44 => .array .int
  | 45 => .array .int
  | 46 => .boolean
  | 47 => .int
  | 48 => .int
  | 49 => .int
  | 50 => .int
  | 51 => .int
  | 52 => .int
  | 53 => .int
  | 54 => .int
  | 55 => .array .int
  | 56 => .array .int
  | 57 => .array .int
  | 58 => .array .int
  | 59 => .array .int
  | 60 => .int
  | 61 => .int
  | 62 => .array .int
  | 63 => .array .int
  | 64 => .array .int
  | 65 => .array .boolean
  | 66 => .array .int
  | _ => .array .boolean
abbrev wsX100 : List Cond := u_ws RX10 TX10 68
theorem nmX10 : ∀ a, a < 68 → ∀ b, b < 68 → a ≠ b → (TX10 a).2.1 ≠ (TX10 b).2.1 := by decide +kernel
theorem tyX10_ok : ∀ k, k < 68 → parseFieldDescriptor (TX10 k).2.2.1 = some (tyX10 k) := by decide +kernel
abbrev cX10_init : ByteArray := prog_12_method_1_code
def yX10_init : MethodName := ⟨RX10, "<init>", "()V"⟩
abbrev cX10_thrown : ByteArray := prog_12_method_2_code
def yX10_thrown : MethodName := ⟨RX10, "thrown", "()I"⟩
abbrev cX10_feed : ByteArray := prog_12_method_3_code
def yX10_feed : MethodName := ⟨RX10, "feed", "(IIIII)I"⟩
abbrev cX10_here : ByteArray := prog_12_method_4_code
def yX10_here : MethodName := ⟨RX10, "here", "()I"⟩
abbrev cX10_isSmall : ByteArray := prog_12_method_5_code
def yX10_isSmall : MethodName := ⟨RX10, "isSmall", "(I)Z"⟩
abbrev cX10_isDigit : ByteArray := prog_12_method_6_code
def yX10_isDigit : MethodName := ⟨RX10, "isDigit", "(I)Z"⟩
abbrev cX10_token : ByteArray := prog_12_method_7_code
def yX10_token : MethodName := ⟨RX10, "token", "()V"⟩
abbrev cX10_sign : ByteArray := prog_12_method_8_code
def yX10_sign : MethodName := ⟨RX10, "sign", "(I)V"⟩
abbrev cX10_word : ByteArray := prog_12_method_9_code
def yX10_word : MethodName := ⟨RX10, "word", "()I"⟩
abbrev cX10_name : ByteArray := prog_12_method_10_code
def yX10_name : MethodName := ⟨RX10, "name", "()V"⟩
abbrev cX10_wrong : ByteArray := prog_12_method_11_code
def yX10_wrong : MethodName := ⟨RX10, "wrong", "(I)V"⟩
abbrev cX10_isWord : ByteArray := prog_12_method_12_code
def yX10_isWord : MethodName := ⟨RX10, "isWord", "(I)Z"⟩
abbrev cX10_isSign : ByteArray := prog_12_method_13_code
def yX10_isSign : MethodName := ⟨RX10, "isSign", "(I)Z"⟩
abbrev cX10_goOn : ByteArray := prog_12_method_14_code
def yX10_goOn : MethodName := ⟨RX10, "goOn", "()V"⟩
abbrev cX10_numeral : ByteArray := prog_12_method_15_code
def yX10_numeral : MethodName := ⟨RX10, "numeral", "(II)I"⟩
abbrev cX10_found : ByteArray := prog_12_method_16_code
def yX10_found : MethodName := ⟨RX10, "found", "([IIII)I"⟩
abbrev cX10_fresh : ByteArray := prog_12_method_17_code
def yX10_fresh : MethodName := ⟨RX10, "fresh", "([III)I"⟩
abbrev cX10_fresher : ByteArray := prog_12_method_18_code
def yX10_fresher : MethodName := ⟨RX10, "fresher", "(I)I"⟩
abbrev cX10_reads : ByteArray := prog_12_method_19_code
def yX10_reads : MethodName := ⟨RX10, "reads", "(II)V"⟩
abbrev cX10_isFull : ByteArray := prog_12_method_20_code
def yX10_isFull : MethodName := ⟨RX10, "isFull", "(I)Z"⟩
abbrev cX10_line : ByteArray := prog_12_method_21_code
def yX10_line : MethodName := ⟨RX10, "line", "()V"⟩
abbrev cX10_toldAhead : ByteArray := prog_12_method_22_code
def yX10_toldAhead : MethodName := ⟨RX10, "toldAhead", "([III)I"⟩
abbrev cX10_dayLine : ByteArray := prog_12_method_23_code
def yX10_dayLine : MethodName := ⟨RX10, "dayLine", "(I)V"⟩
abbrev cX10_mixLine : ByteArray := prog_12_method_24_code
def yX10_mixLine : MethodName := ⟨RX10, "mixLine", "()V"⟩
abbrev cX10_lawLine : ByteArray := prog_12_method_25_code
def yX10_lawLine : MethodName := ⟨RX10, "lawLine", "()V"⟩
abbrev cX10_puts : ByteArray := prog_12_method_26_code
def yX10_puts : MethodName := ⟨RX10, "puts", "(II)V"⟩
abbrev cX10_knot : ByteArray := prog_12_method_27_code
def yX10_knot : MethodName := ⟨RX10, "knot", "()V"⟩
abbrev cX10_expression : ByteArray := prog_12_method_28_code
def yX10_expression : MethodName := ⟨RX10, "expression", "()V"⟩
abbrev cX10_conjunction : ByteArray := prog_12_method_29_code
def yX10_conjunction : MethodName := ⟨RX10, "conjunction", "()V"⟩
abbrev cX10_negation : ByteArray := prog_12_method_30_code
def yX10_negation : MethodName := ⟨RX10, "negation", "()V"⟩
abbrev cX10_sum : ByteArray := prog_12_method_31_code
def yX10_sum : MethodName := ⟨RX10, "sum", "()V"⟩
abbrev cX10_product : ByteArray := prog_12_method_32_code
def yX10_product : MethodName := ⟨RX10, "product", "()V"⟩
abbrev cX10_primary : ByteArray := prog_12_method_33_code
def yX10_primary : MethodName := ⟨RX10, "primary", "()V"⟩
abbrev cX10_half : ByteArray := prog_12_method_34_code
def yX10_half : MethodName := ⟨RX10, "half", "([I)V"⟩
abbrev cX10_text : ByteArray := prog_12_method_35_code
def yX10_text : MethodName := ⟨RX10, "text", "(I)I"⟩
abbrev cX10_fault : ByteArray := prog_12_method_36_code
def yX10_fault : MethodName := ⟨RX10, "fault", "(I)I"⟩
abbrev cX10_named : ByteArray := prog_12_method_37_code
def yX10_named : MethodName := ⟨RX10, "named", "(II)I"⟩
abbrev cX10_is : ByteArray := prog_12_method_38_code
def yX10_is : MethodName := ⟨RX10, "is", "(Z)J"⟩
abbrev cX10_works : ByteArray := prog_12_method_39_code
def yX10_works : MethodName := ⟨RX10, "works", "(I)Z"⟩
abbrev cX10_comesOut : ByteArray := prog_12_method_40_code
def yX10_comesOut : MethodName := ⟨RX10, "comesOut", "(I)Z"⟩
abbrev cX10_hasLaw : ByteArray := prog_12_method_41_code
def yX10_hasLaw : MethodName := ⟨RX10, "hasLaw", "(I)Z"⟩
abbrev cX10_starts : ByteArray := prog_12_method_42_code
def yX10_starts : MethodName := ⟨RX10, "starts", "(I)V"⟩
abbrev cX10_begins : ByteArray := prog_12_method_43_code
def yX10_begins : MethodName := ⟨RX10, "begins", "()V"⟩
abbrev cX10_copies : ByteArray := prog_12_method_44_code
def yX10_copies : MethodName := ⟨RX10, "copies", "(II)V"⟩
abbrev cX10_isStuff : ByteArray := prog_12_method_45_code
def yX10_isStuff : MethodName := ⟨RX10, "isStuff", "(I)Z"⟩
abbrev cX10_isDay : ByteArray := prog_12_method_46_code
def yX10_isDay : MethodName := ⟨RX10, "isDay", "(I)Z"⟩
abbrev cX10_isRoom : ByteArray := prog_12_method_47_code
def yX10_isRoom : MethodName := ⟨RX10, "isRoom", "(I)Z"⟩
abbrev cX10_isMonk : ByteArray := prog_12_method_48_code
def yX10_isMonk : MethodName := ⟨RX10, "isMonk", "(I)Z"⟩
abbrev cX10_partIn : ByteArray := prog_12_method_49_code
def yX10_partIn : MethodName := ⟨RX10, "partIn", "(I)I"⟩
abbrev cX10_mixOf : ByteArray := prog_12_method_50_code
def yX10_mixOf : MethodName := ⟨RX10, "mixOf", "(II)I"⟩
abbrev cX10_calls : ByteArray := prog_12_method_51_code
def yX10_calls : MethodName := ⟨RX10, "calls", "(IIIIIII)V"⟩
abbrev cX10_within : ByteArray := prog_12_method_52_code
def yX10_within : MethodName := ⟨RX10, "within", "(IIII)I"⟩
abbrev cX10_keenIn : ByteArray := prog_12_method_53_code
def yX10_keenIn : MethodName := ⟨RX10, "keenIn", "(III)I"⟩
abbrev cX10_keenOf : ByteArray := prog_12_method_54_code
def yX10_keenOf : MethodName := ⟨RX10, "keenOf", "(II)I"⟩
abbrev cX10_coldsOf : ByteArray := prog_12_method_55_code
def yX10_coldsOf : MethodName := ⟨RX10, "coldsOf", "(II)I"⟩
abbrev cX10_worthOf : ByteArray := prog_12_method_56_code
def yX10_worthOf : MethodName := ⟨RX10, "worthOf", "(II)I"⟩
abbrev cX10_markBy : ByteArray := prog_12_method_57_code
def yX10_markBy : MethodName := ⟨RX10, "markBy", "(IIII)I"⟩
abbrev cX10_markOf : ByteArray := prog_12_method_58_code
def yX10_markOf : MethodName := ⟨RX10, "markOf", "(III)I"⟩
abbrev cX10_mixes : ByteArray := prog_12_method_59_code
def yX10_mixes : MethodName := ⟨RX10, "mixes", "(I)V"⟩
abbrev cX10_drifts : ByteArray := prog_12_method_60_code
def yX10_drifts : MethodName := ⟨RX10, "drifts", "(I)V"⟩
abbrev cX10_smells : ByteArray := prog_12_method_61_code
def yX10_smells : MethodName := ⟨RX10, "smells", "(II)I"⟩
abbrev cX10_thinks : ByteArray := prog_12_method_62_code
def yX10_thinks : MethodName := ⟨RX10, "thinks", "(II)I"⟩
abbrev cX10_keepsHouse : ByteArray := prog_12_method_63_code
def yX10_keepsHouse : MethodName := ⟨RX10, "keepsHouse", "(I)V"⟩
abbrev cX10_passes : ByteArray := prog_12_method_64_code
def yX10_passes : MethodName := ⟨RX10, "passes", "(I)V"⟩
abbrev cX10_monk : ByteArray := prog_12_method_65_code
def yX10_monk : MethodName := ⟨RX10, "monk", "(II)I"⟩
abbrev cX10_stuff : ByteArray := prog_12_method_66_code
def yX10_stuff : MethodName := ⟨RX10, "stuff", "(II)I"⟩
abbrev cX10_mix : ByteArray := prog_12_method_67_code
def yX10_mix : MethodName := ⟨RX10, "mix", "(II)I"⟩
abbrev cX10_feast : ByteArray := prog_12_method_68_code
def yX10_feast : MethodName := ⟨RX10, "feast", "(I)I"⟩
abbrev cX10_air : ByteArray := prog_12_method_69_code
def yX10_air : MethodName := ⟨RX10, "air", "(II)I"⟩
abbrev cX10_mark : ByteArray := prog_12_method_70_code
def yX10_mark : MethodName := ⟨RX10, "mark", "(II)I"⟩
abbrev cX10_law : ByteArray := prog_12_method_71_code
def yX10_law : MethodName := ⟨RX10, "law", "(III)J"⟩
abbrev cX10_keepNow : ByteArray := prog_12_method_72_code
def yX10_keepNow : MethodName := ⟨RX10, "keepNow", "()V"⟩
abbrev cX10_cold : ByteArray := prog_12_method_73_code
def yX10_cold : MethodName := ⟨RX10, "cold", "(IIZ)Z"⟩
abbrev cX10_wind : ByteArray := prog_12_method_74_code
def yX10_wind : MethodName := ⟨RX10, "wind", "(II)Z"⟩
abbrev cX10_buy : ByteArray := prog_12_method_75_code
def yX10_buy : MethodName := ⟨RX10, "buy", "(II)I"⟩
abbrev cX10_goes : ByteArray := prog_12_method_76_code
def yX10_goes : MethodName := ⟨RX10, "goes", "(II)Z"⟩
abbrev cX10_go : ByteArray := prog_12_method_77_code
def yX10_go : MethodName := ⟨RX10, "go", "(I)I"⟩
abbrev cX10_layMarks : ByteArray := prog_12_method_78_code
def yX10_layMarks : MethodName := ⟨RX10, "layMarks", "(I)V"⟩
abbrev cX10_pairOf : ByteArray := prog_12_method_79_code
def yX10_pairOf : MethodName := ⟨RX10, "pairOf", "(II)I"⟩
abbrev cX10_mixedUp : ByteArray := prog_12_method_80_code
def yX10_mixedUp : MethodName := ⟨RX10, "mixedUp", "(I)I"⟩
abbrev cX10_pair : ByteArray := prog_12_method_81_code
def yX10_pair : MethodName := ⟨RX10, "pair", "(II)I"⟩
abbrev cX10_mending : ByteArray := prog_12_method_82_code
def yX10_mending : MethodName := ⟨RX10, "mending", "(IIII)I"⟩
abbrev cX10_placeTo : ByteArray := prog_12_method_83_code
def yX10_placeTo : MethodName := ⟨RX10, "placeTo", "(II)I"⟩
abbrev cX10_lasts : ByteArray := prog_12_method_84_code
def yX10_lasts : MethodName := ⟨RX10, "lasts", "(I)I"⟩
abbrev cX10_needs : ByteArray := prog_12_method_85_code
def yX10_needs : MethodName := ⟨RX10, "needs", "(II)I"⟩
abbrev cX10_dearest : ByteArray := prog_12_method_86_code
def yX10_dearest : MethodName := ⟨RX10, "dearest", "(I)I"⟩
abbrev cX10_inPlace : ByteArray := prog_12_method_87_code
def yX10_inPlace : MethodName := ⟨RX10, "inPlace", "(II)I"⟩
abbrev cX10_letter : ByteArray := prog_12_method_88_code
def yX10_letter : MethodName := ⟨RX10, "letter", "(III)I"⟩
abbrev cX10_firstWrong : ByteArray := prog_12_method_89_code
def yX10_firstWrong : MethodName := ⟨RX10, "firstWrong", "(I)I"⟩
abbrev cX10_laySextons : ByteArray := prog_12_method_90_code
def yX10_laySextons : MethodName := ⟨RX10, "laySextons", "(I)V"⟩
abbrev cX10_isRest : ByteArray := prog_12_method_91_code
def yX10_isRest : MethodName := ⟨RX10, "isRest", "(II)Z"⟩
abbrev cX10_restOf : ByteArray := prog_12_method_92_code
def yX10_restOf : MethodName := ⟨RX10, "restOf", "(II)I"⟩
abbrev cX10_areSextons : ByteArray := prog_12_method_93_code
def yX10_areSextons : MethodName := ⟨RX10, "areSextons", "(I)Z"⟩
abbrev cX10_rests : ByteArray := prog_12_method_94_code
def yX10_rests : MethodName := ⟨RX10, "rests", "(I)I"⟩
abbrev cX10_rest : ByteArray := prog_12_method_95_code
def yX10_rest : MethodName := ⟨RX10, "rest", "(II)I"⟩
abbrev cX10_note : ByteArray := prog_12_method_96_code
def yX10_note : MethodName := ⟨RX10, "note", "(IIIZ)I"⟩
abbrev cX10_out : ByteArray := prog_12_method_97_code
def yX10_out : MethodName := ⟨RX10, "out", "(I)I"⟩
abbrev cX10_known : ByteArray := prog_12_method_98_code
def yX10_known : MethodName := ⟨RX10, "known", "(I)Z"⟩
abbrev cX10_knownMany : ByteArray := prog_12_method_99_code
def yX10_knownMany : MethodName := ⟨RX10, "knownMany", "()I"⟩
abbrev cX10_isSo : ByteArray := prog_12_method_100_code
def yX10_isSo : MethodName := ⟨RX10, "isSo", "(I)Z"⟩
abbrev cX10_fitsCold : ByteArray := prog_12_method_101_code
def yX10_fitsCold : MethodName := ⟨RX10, "fitsCold", "(III)Z"⟩
abbrev cX10_colds : ByteArray := prog_12_method_102_code
def yX10_colds : MethodName := ⟨RX10, "colds", "(I)I"⟩
abbrev cX10_draw : ByteArray := prog_12_method_103_code
def yX10_draw : MethodName := ⟨RX10, "draw", "(I)I"⟩
abbrev cX10_chance : ByteArray := prog_12_method_104_code
def yX10_chance : MethodName := ⟨RX10, "chance", "(III)I"⟩
abbrev cX10_tried : ByteArray := prog_12_method_105_code
def yX10_tried : MethodName := ⟨RX10, "tried", "(III)I"⟩
abbrev cX10_undo : ByteArray := prog_12_method_106_code
def yX10_undo : MethodName := ⟨RX10, "undo", "()I"⟩
abbrev cX10_keep : ByteArray := prog_12_method_107_code
def yX10_keep : MethodName := ⟨RX10, "keep", "()I"⟩
abbrev cX10_back : ByteArray := prog_12_method_108_code
def yX10_back : MethodName := ⟨RX10, "back", "()I"⟩
abbrev cX10_count : ByteArray := prog_12_method_109_code
def yX10_count : MethodName := ⟨RX10, "count", "(I)I"⟩
def RJ9 : String := "java/lang/Math"
abbrev cJ9_abs_067f4 : ByteArray := prog_18_method_61_code
def yJ9_abs_067f4 : MethodName := ⟨RJ9, "abs", "(J)J"⟩
abbrev cJ9_max_7cf53 : ByteArray := prog_18_method_65_code
def yJ9_max_7cf53 : MethodName := ⟨RJ9, "max", "(II)I"⟩
abbrev cJ9_max_f86c9 : ByteArray := prog_18_method_66_code
def yJ9_max_f86c9 : MethodName := ⟨RJ9, "max", "(JJ)J"⟩
abbrev cJ9_min_7cf53 : ByteArray := prog_18_method_69_code
def yJ9_min_7cf53 : MethodName := ⟨RJ9, "min", "(II)I"⟩
abbrev cJ9_min_f86c9 : ByteArray := prog_18_method_70_code
def yJ9_min_f86c9 : MethodName := ⟨RJ9, "min", "(JJ)J"⟩
def RJ0 : String := "java/lang/String"
abbrev cJ0_length_8abf5 : ByteArray := prog_20_method_54_code
def yJ0_length_8abf5 : MethodName := ⟨RJ0, "length", "()I"⟩
abbrev cJ0_charAt_5068e : ByteArray := prog_20_method_56_code
def yJ0_charAt_5068e : MethodName := ⟨RJ0, "charAt", "(I)C"⟩
abbrev cJ0_coder_7d493 : ByteArray := prog_20_method_152_code
def yJ0_coder_7d493 : MethodName := ⟨RJ0, "coder", "()B"⟩
abbrev cJ0_isLatin1_aae02 : ByteArray := prog_20_method_154_code
def yJ0_isLatin1_aae02 : MethodName := ⟨RJ0, "isLatin1", "()Z"⟩
abbrev cJ0_checkIndex_df160 : ByteArray := prog_20_method_155_code
def yJ0_checkIndex_df160 : MethodName := ⟨RJ0, "checkIndex", "(II)V"⟩
def RJ1 : String := "java/lang/StringLatin1"
abbrev cJ1_charAt_3b067 : ByteArray := prog_21_method_2_code
def yJ1_charAt_3b067 : MethodName := ⟨RJ1, "charAt", "([BI)C"⟩
def RJ2 : String := "java/lang/StringUTF16"
abbrev cJ2_getChar_3b067 : ByteArray := prog_22_method_5_code
def yJ2_getChar_3b067 : MethodName := ⟨RJ2, "getChar", "([BI)C"⟩
abbrev cJ2_length_9d52b : ByteArray := prog_22_method_6_code
def yJ2_length_9d52b : MethodName := ⟨RJ2, "length", "([B)I"⟩
abbrev cJ2_charAt_3b067 : ByteArray := prog_22_method_83_code
def yJ2_charAt_3b067 : MethodName := ⟨RJ2, "charAt", "([BI)C"⟩
abbrev cJ2_checkIndex_2214a : ByteArray := prog_22_method_91_code
def yJ2_checkIndex_2214a : MethodName := ⟨RJ2, "checkIndex", "(I[B)V"⟩
def RJ10 : String := "java/lang/System"
def RJ3 : String := "jdk/internal/util/Preconditions"
abbrev cJ3_checkIndex_8e157 : ByteArray := prog_28_method_11_code
def yJ3_checkIndex_8e157 : MethodName := ⟨RJ3, "checkIndex", "(IILjava/util/function/BiFunction;)I"⟩
def RL : String := "SmellAbbeyLaw"
abbrev cL_monk : ByteArray := method_3_code
def yL_monk : MethodName := ⟨RL, "monk", "(LSmellAbbey;II[J)I"⟩
abbrev cL_law : ByteArray := code
def yL_law : MethodName := ⟨RL, "law", "([I)Z"⟩
abbrev vwCl : List vw_C := [(RX0, TX0, 9), (RX1, TX1, 8), (RX2, TX2, 1), (RX3, TX3, 9), (RX4, TX4, 8), (RX5, TX5, 15), (RX7, TX7, 13), (RX8, TX8, 4), (RX9, TX9, 14), (RX10, TX10, 68)]
end
section
/-! THE BASE: a typed memory (kinds, lengths, references, ints, longs) in place of the machine's heap, and zGo, the machine at a place of a method over such a memory. Rows z_.. : a row an instruction. -/
def zU : Value := .retAddr 0
abbrev zMem : Type := (Nat × Nat × Nat) × ((Nat → Nat) × (Nat → Nat) × (Nat → Nat → Option Nat)) × ((Nat → Nat → Int32) × (Nat → Nat → Int64))
def zn (h : zMem) : Nat := h.1.1
def zx (h : zMem) : Nat := h.1.2.1
def zs (h : zMem) : Nat := h.1.2.2
def zK (h : zMem) : Nat → Nat := h.2.1.1
def zLen (h : zMem) : Nat → Nat := h.2.1.2.1
def zR (h : zMem) : Nat → Nat → Option Nat := h.2.1.2.2
def zI (h : zMem) : Nat → Nat → Int32 := h.2.2.1
def zL (h : zMem) : Nat → Nat → Int64 := h.2.2.2
def zup {α : Type} (f : Nat → Nat → α) (a i : Nat) (v : α) : Nat → Nat → α := fun b j => if b = a then (if j = i then v else f b j) else f b j
def zsI (h : zMem) (a i : Nat) (v : Int32) : zMem := (h.1, h.2.1, (zup (zI h) a i v, zL h))
def zsL (h : zMem) (a i : Nat) (v : Int64) : zMem := (h.1, h.2.1, (zI h, zup (zL h) a i v))
def zsR (h : zMem) (a i : Nat) (v : Option Nat) : zMem := (h.1, (zK h, zLen h, zup (zR h) a i v), h.2.2)
/-- a new cell: kind, length, what its ints, longs and references are at first -/
def zup1 {α : Type} (f : Nat → α) (a : Nat) (v : α) : Nat → α := fun b => if b = a then v else f b
def znew (h : zMem) (kd len sl : Nat) : zMem := ((zn h + 1, zx h, zs h + sl), (zup1 (zK h) (zn h) kd, zup1 (zLen h) (zn h) len, zup1 (zR h) (zn h) (fun _ => none)), (zup1 (zI h) (zn h) (fun _ => 0), zup1 (zL h) (zn h) (fun _ => 0)))
theorem zn_sI (h : zMem) (a i : Nat) (v : Int32) : zn (zsI h a i v) = zn h := rfl
theorem zx_sI (h : zMem) (a i : Nat) (v : Int32) : zx (zsI h a i v) = zx h := rfl
theorem zs_sI (h : zMem) (a i : Nat) (v : Int32) : zs (zsI h a i v) = zs h := rfl
theorem zK_sI (h : zMem) (a i : Nat) (v : Int32) : zK (zsI h a i v) = zK h := rfl
theorem zLen_sI (h : zMem) (a i : Nat) (v : Int32) : zLen (zsI h a i v) = zLen h := rfl
theorem zR_sI (h : zMem) (a i : Nat) (v : Int32) : zR (zsI h a i v) = zR h := rfl
theorem zL_sI (h : zMem) (a i : Nat) (v : Int32) : zL (zsI h a i v) = zL h := rfl
theorem zI_sI (h : zMem) (a i : Nat) (v : Int32) : zI (zsI h a i v) = zup (zI h) a i v := rfl
theorem zn_sL (h : zMem) (a i : Nat) (v : Int64) : zn (zsL h a i v) = zn h := rfl
theorem zx_sL (h : zMem) (a i : Nat) (v : Int64) : zx (zsL h a i v) = zx h := rfl
theorem zs_sL (h : zMem) (a i : Nat) (v : Int64) : zs (zsL h a i v) = zs h := rfl
theorem zK_sL (h : zMem) (a i : Nat) (v : Int64) : zK (zsL h a i v) = zK h := rfl
theorem zLen_sL (h : zMem) (a i : Nat) (v : Int64) : zLen (zsL h a i v) = zLen h := rfl
theorem zR_sL (h : zMem) (a i : Nat) (v : Int64) : zR (zsL h a i v) = zR h := rfl
theorem zI_sL (h : zMem) (a i : Nat) (v : Int64) : zI (zsL h a i v) = zI h := rfl
theorem zL_sL (h : zMem) (a i : Nat) (v : Int64) : zL (zsL h a i v) = zup (zL h) a i v := rfl
theorem zn_sR (h : zMem) (a i : Nat) (v : Option Nat) : zn (zsR h a i v) = zn h := rfl
theorem zx_sR (h : zMem) (a i : Nat) (v : Option Nat) : zx (zsR h a i v) = zx h := rfl
theorem zs_sR (h : zMem) (a i : Nat) (v : Option Nat) : zs (zsR h a i v) = zs h := rfl
theorem zK_sR (h : zMem) (a i : Nat) (v : Option Nat) : zK (zsR h a i v) = zK h := rfl
theorem zLen_sR (h : zMem) (a i : Nat) (v : Option Nat) : zLen (zsR h a i v) = zLen h := rfl
theorem zR_sR (h : zMem) (a i : Nat) (v : Option Nat) : zR (zsR h a i v) = zup (zR h) a i v := rfl
theorem zI_sR (h : zMem) (a i : Nat) (v : Option Nat) : zI (zsR h a i v) = zI h := rfl
theorem zL_sR (h : zMem) (a i : Nat) (v : Option Nat) : zL (zsR h a i v) = zL h := rfl
theorem zup_s {α : Type} (f : Nat → Nat → α) (a i : Nat) (v : α) : zup f a i v a i = v := by simp [zup]
theorem zup_a {α : Type} (f : Nat → Nat → α) {a i : Nat} (v : α) {b : Nat} (j : Nat) (h : b ≠ a) : zup f a i v b j = f b j := by simp [zup, h]
theorem zup_i {α : Type} (f : Nat → Nat → α) {a i : Nat} (v : α) (b : Nat) {j : Nat} (h : j ≠ i) : zup f a i v b j = f b j := by simp [zup, h]
/-- the world that all is about: slots of the classes, array classes, addresses of what was there ahead, the heap at the start, what else is known of a state -/
abbrev zG : Type := va_G × (Nat → ClassId) × (Nat → Nat) × Heap × (State → Prop)
def gD (G : zG) : va_G := G.1
def gA (G : zG) : Nat → ClassId := G.2.1
def gX (G : zG) : Nat → Nat := G.2.2.1
def gH (G : zG) : Heap := G.2.2.2.1
def gE (G : zG) : State → Prop := G.2.2.2.2
def zad (G : zG) (k : Nat) : Nat := if k < 1000000 then (gH G).size + k else gX G (k - 1000000)
def zrv (G : zG) : Value → Value
  | .ref k => .ref (zad G k)
  | v => v
def zcl : List vw_C := vwCl
def zty : Nat → Nat → FieldType
  | 0 => tyX0
  | 1 => tyX1
  | 2 => tyX2
  | 3 => tyX3
  | 4 => tyX4
  | 5 => tyX5
  | 6 => tyX7
  | 7 => tyX8
  | 8 => tyX9
  | _ => tyX10
def zfn (ci : Nat) : Nat := match zcl[ci]? with
  | some q => q.2.2
  | none => 0
def zfv (G : zG) (h : zMem) (k ci j : Nat) : Value := match zty ci j with
  | .long => .long (zL h k j)
  | .object _ => va_rf ((zR h k j).map (zad G))
  | .array _ => va_rf ((zR h k j).map (zad G))
  | _ => .int (zI h k j)
def zfs (G : zG) (h : zMem) (k ci : Nat) : List Value := (List.range (zfn ci)).map (zfv G h k ci)
def zcell (G : zG) (h : zMem) (k : Nat) : va_E :=
  if zK h k = 100 then .inl (gA G 0, zLen h k, .inl (zI h k))
  else if zK h k = 101 then .inl (gA G 1, zLen h k, .inr (.inl (zL h k)))
  else if zK h k = 102 then .inl (gA G 2, zLen h k, .inl (zI h k))
  else if zK h k = 103 then .inl (gA G 3, zLen h k, .inl (zI h k))
  else if zK h k = 104 then .inl (gA G 4, zLen h k, .inr (.inr (.inr (.inr (fun j => (zR h k j).map (zad G))))))
  else .inr (zK h k, zfs G h k (zK h k))
def zw (G : zG) (h : zMem) : va_W := (List.range (zn h)).map (fun k => (zad G k, zcell G h k))
def zA (G : zG) : Nat → Prop := fun q => (gH G).size ≤ q
theorem zw_at {G : zG} {h : zMem} {k : Nat} (hk : k < zn h) : (zw G h)[k]? = some (zad G k, zcell G h k) := by simp [zw, hk]
theorem zw_some {G : zG} {h : zMem} {k : Nat} {q : Nat × va_E} (hq : (zw G h)[k]? = some q) : k < zn h ∧ q = (zad G k, zcell G h k) := by
  have hk : k < zn h := by
    have := (List.getElem?_eq_some_iff.mp hq).1
    simpa [zw] using this
  rw [zw_at hk] at hq
  exact ⟨hk, (Option.some.inj hq).symm⟩
theorem zad_lt {G : zG} {k : Nat} (h : k < 1000000) : zad G k = (gH G).size + k := if_pos h
theorem zw_D {G : zG} {h : zMem} (hn : zn h ≤ 1000000) : va_D (zA G) (zw G h) := by
  refine ⟨fun i j p q hi hj hpq => ?_, fun k q hk => ?_⟩
  · obtain ⟨h1, rfl⟩ := zw_some hi
    obtain ⟨h2, rfl⟩ := zw_some hj
    dsimp only at hpq
    rw [zad_lt (by omega), zad_lt (by omega)] at hpq
    omega
  · obtain ⟨h1, rfl⟩ := zw_some hk
    show (gH G).size ≤ zad G k
    rw [zad_lt (by omega)]
    omega
theorem zw_set {G : zG} {h h' : zMem} {k : Nat} {e : va_E} (hk : k < zn h) (hn : zn h' = zn h) (he : e = zcell G h' k) (ho : ∀ j, j ≠ k → zcell G h' j = zcell G h j) : (zw G h).set k (zad G k, e) = zw G h' := by
  subst he
  apply List.ext_getElem?
  intro j
  by_cases hj : j = k
  · subst hj
    rw [List.getElem?_set_self (by simp [zw]; exact hk), zw_at (by omega)]
  · rw [List.getElem?_set_ne (Ne.symm hj)]
    by_cases hl : j < zn h
    · rw [zw_at hl, zw_at (by omega), ho j hj]
    · rw [List.getElem?_eq_none (by simp [zw]; omega), List.getElem?_eq_none (by simp [zw]; omega)]
def zRep (G : zG) (h : zMem) (H : Heap) (locs : List Loc) : Prop := va_P (gD G) zcl (zw G h) H ∧ va_S (zA G) (gH G) H locs ∧ H.size = (gH G).size + zn h + zx h ∧ zn h ≤ 1000000
def zTy (G : zG) : List (ClassId × FieldType) := [(gA G 0, .int), (gA G 1, .long), (gA G 2, .byte), (gA G 3, .boolean), (gA G 4, .array .int)]
def zKK (G : zG) (U : State) : Prop := va_K (gD G) zcl (zTy G) U ∧ (gE G U ∧ ∀ s V : State, (s.WarmedH V.vm ∨ s.vm = V.vm) → gE G s → gE G V)
/-- the words that every method is given -/
def ztb : List Cond := lw_tbl.filter goodWord
theorem ztb_in {w : Cond} (h : w ∈ lw_tbl) (hg : goodWord w = true) : w ∈ ztb := List.mem_filter.mpr ⟨h, hg⟩
theorem ztb_t {w : Cond} (h : w ∈ tables_1) (hg : goodWord w = true) : w ∈ ztb := ztb_in (List.mem_append_right _ h) hg
theorem ztb_good : ∀ w ∈ ztb, goodWord w = true := fun w h => (List.mem_filter.mp h).2
/-- a method: name, bytes, locals, return type, instructions -/
abbrev zM : Type := MethodName × ByteArray × Nat × Option FieldType × List (Nat × Instr × Nat)
def zroom (d bc bs : Nat) : Room := { frames := d, cells := bc, slots := bs, locals := 64 * d }
/-- cells and slots at the method's entry; how many it makes -/
abbrev zB : Type := Nat × Nat × Nat × Nat
def zdec (μ : zM) : Prop := ∀ q ∈ μ.2.2.2.2, decode μ.2.1 q.1 = .ok q.2
def zCtx (G : zG) (μ : zM) (d : Nat) (b : zB) (p : Program) (R : Room) (s : State) (m : MethodId) (args : Array Value) (meth : Method) (c : Code) : Prop :=
  p.tables.exec = Jvm.exec ∧ c.code = μ.2.1 ∧ c.maxLocals = μ.2.2.1 ∧ meth.sig.returnType = μ.2.2.2.1 ∧ meth.locks = false ∧ s.vm.findClass μ.1.cls = some m.cls ∧ (∀ w ∈ ztb, w.before args s = true) ∧ zKK G s ∧ (μ.1.name = "<init>" → meth.name = "<init>") ∧ zdec μ ∧ R = zroom d b.2.2.1 b.2.2.2
def zQ (G : zG) (b : zB) (Post : Option Value → zMem → Prop) : Array Value → State → Outcome → State → Prop := fun _ _ o t => ∃ (r : Option Value) (h' : zMem), o = .returned (r.map (zrv G)) ∧ Post r h' ∧ zRep G h' t.heap [] ∧ zn h' + zx h' = b.1 + b.2.2.1 ∧ zs h' = b.2.1 + b.2.2.2
def zisU (v : Value) : Bool := match v with
  | .retAddr _ => true
  | _ => false
def zLv (G : zG) (ls : Array Slot) (nL : Nat) (lv : List Value) : Prop := ls.size = nL ∧ lv_wf ls ∧ ∀ (i : Nat) (v : Value), lv[i]? = some v → zisU v = false → ls[i]? = some (.val (zrv G v))
/-- THE MACHINE at a place of a method: it comes to the method's end, with Post -/
def zGo (G : zG) (μ : zM) (d : Nat) (b : zB) (pc : Nat) (lv st : List Value) (h : zMem) (Post : Option Value → zMem → Prop) : Prop :=
  ∀ (p : Program) (l : Launch) (e : Env) (R : Room) (s : State) (m : MethodId) (args : Array Value) (below : List Frame) (meth : Method) (c : Code), zCtx G μ d b p R s m args meth c →
    ∀ (H : Heap) (locs : List Loc) (ls : Array Slot), zRep G h H locs → zLv G ls μ.2.2.1 lv → b.1 ≤ zn h + zx h → b.2.1 ≤ zs h →
      W p l e R s m args below meth c H locs (zn h + zx h - b.1) (zs h - b.2.1) (MQ below (zQ G b Post) args s b.2.2.1 b.2.2.2 (zA G)) (F0 m pc ls (st.map (zrv G)))
/-- A METHOD'S CONTRACT: from these arguments and this memory it comes to its end with Post -/
def zCon (G : zG) (μ : zM) (d bc bs : Nat) (as : List Value) (h : zMem) (Post : Option Value → zMem → Prop) : Prop :=
  ∀ l : Launch, Met l μ.1 (Cond.code μ.1 μ.2.1 μ.2.2.1 μ.2.2.2.1 :: ztb) (zroom d bc bs) (fun a U => a = (as.map (zrv G)).toArray ∧ zRep G h U.heap [] ∧ zKK G U) (zQ G (zn h + zx h, zs h, bc, bs) Post) bc bs (zA G)
section ZB
variable {G : zG} {μ : zM} {d : Nat} {b : zB} {pc : Nat} {lv st : List Value} {h : zMem} {P : Option Value → zMem → Prop}
theorem zdg {G : zG} {μ : zM} {d : Nat} {b : zB} {p : Program} {R : Room} {s : State} {m : MethodId} {args : Array Value} {meth : Method} {c : Code} (C : zCtx G μ d b p R s m args meth c) {i pc n : Nat} {x : Instr} (hi : μ.2.2.2.2[i]? = some (pc, x, n)) : decode μ.2.1 pc = .ok (x, n) := C.2.2.2.2.2.2.2.2.2.1 (pc, x, n) (List.mem_of_getElem? hi)
theorem zgo_eq {pc2 : Nat} {lv2 st2 : List Value} (h1 : pc = pc2) (h2 : lv = lv2) (h3 : st = st2) (k : zGo G μ d b pc2 lv2 st2 h P) : zGo G μ d b pc lv st h P := by subst h1; subst h2; subst h3; exact k
theorem zgo_mem {h2 : zMem} (h1 : h = h2) (k : zGo G μ d b pc lv st h2 P) : zGo G μ d b pc lv st h P := by subst h1; exact k
theorem zgo_post {P2 : Option Value → zMem → Prop} (k : zGo G μ d b pc lv st h P2) (hp : ∀ r h', P2 r h' → P r h') : zGo G μ d b pc lv st h P := by
  intro p l e R s m args below meth c C H locs ls hR hl h1 h2 T hT X
  obtain ⟨t, a1, o, b1, b2, ⟨r, h', q1, q2, q3⟩, b4⟩ := k p l e R s m args below meth c C H locs ls hR hl h1 h2 T hT X
  exact ⟨t, a1, o, b1, b2, ⟨r, h', q1, hp r h' q2, q3⟩, b4⟩
theorem z_iconst (i : Nat) {n : Int} {v : Int32} (hv : Int32.ofInt n = v) (hi : μ.2.2.2.2[i]? = some (pc, .iconst n, 1)) (k : zGo G μ d b (pc + 1) lv (.int v :: st) h P) : zGo G μ d b pc lv (st) h P := by
  intro p l e R s m args below meth c C H locs ls hR hl h1 h2
  exact lv_iconst C.1 C.2.1 (zdg C hi) hv (k p l e R s m args below meth c C H locs ls hR hl h1 h2)
theorem z_bipush (i : Nat) {n : Int} {v : Int32} (hv : (Int8.ofInt n).toInt32 = v) (hi : μ.2.2.2.2[i]? = some (pc, .bipush n, 2)) (k : zGo G μ d b (pc + 2) lv (.int v :: st) h P) : zGo G μ d b pc lv (st) h P := by
  intro p l e R s m args below meth c C H locs ls hR hl h1 h2
  exact lv_bipush C.1 C.2.1 (zdg C hi) hv (k p l e R s m args below meth c C H locs ls hR hl h1 h2)
theorem z_sipush (i : Nat) {n : Int} {v : Int32} (hv : (Int16.ofInt n).toInt32 = v) (hi : μ.2.2.2.2[i]? = some (pc, .sipush n, 3)) (k : zGo G μ d b (pc + 3) lv (.int v :: st) h P) : zGo G μ d b pc lv (st) h P := by
  intro p l e R s m args below meth c C H locs ls hR hl h1 h2
  exact lv_sipush C.1 C.2.1 (zdg C hi) hv (k p l e R s m args below meth c C H locs ls hR hl h1 h2)
theorem z_lconst (i : Nat) {n : Fin 2} {v : Int64} (hv : Int64.ofNat (n : Nat) = v) (hi : μ.2.2.2.2[i]? = some (pc, .lconst n, 1)) (k : zGo G μ d b (pc + 1) lv (.long v :: st) h P) : zGo G μ d b pc lv (st) h P := by
  intro p l e R s m args below meth c C H locs ls hR hl h1 h2
  exact lv_lconst C.1 C.2.1 (zdg C hi) hv (k p l e R s m args below meth c C H locs ls hR hl h1 h2)
theorem z_ldc (i : Nat) {index : Nat} {v : Int32} (hc : Cond.constant μ.1.cls index v ∈ ztb) (hi : μ.2.2.2.2[i]? = some (pc, .ldc index, 2)) (k : zGo G μ d b (pc + 2) lv (.int v :: st) h P) : zGo G μ d b pc lv (st) h P := by
  intro p l e R s m args below meth c C H locs ls hR hl h1 h2
  exact lv_ldc C.1 C.2.1 C.2.2.2.2.2.1 (C.2.2.2.2.2.2.1 _ hc) (zdg C hi) (k p l e R s m args below meth c C H locs ls hR hl h1 h2)
theorem z_ldcw (i : Nat) {index : Nat} {v : Int32} (hc : Cond.constant μ.1.cls index v ∈ ztb) (hi : μ.2.2.2.2[i]? = some (pc, .ldc_w index, 3)) (k : zGo G μ d b (pc + 3) lv (.int v :: st) h P) : zGo G μ d b pc lv (st) h P := by
  intro p l e R s m args below meth c C H locs ls hR hl h1 h2
  exact lv_ldcw C.1 C.2.1 C.2.2.2.2.2.1 (C.2.2.2.2.2.2.1 _ hc) (zdg C hi) (k p l e R s m args below meth c C H locs ls hR hl h1 h2)
theorem z_ldc2 (i : Nat) {index : Nat} {v : Int64} (hc : Cond.constantLong μ.1.cls index v ∈ ztb) (hi : μ.2.2.2.2[i]? = some (pc, .ldc2_w index, 3)) (k : zGo G μ d b (pc + 3) lv (.long v :: st) h P) : zGo G μ d b pc lv (st) h P := by
  intro p l e R s m args below meth c C H locs ls hR hl h1 h2
  exact lv_ldc2 C.1 C.2.1 C.2.2.2.2.2.1 (C.2.2.2.2.2.2.1 _ hc) (zdg C hi) (k p l e R s m args below meth c C H locs ls hR hl h1 h2)
theorem z_iload_n (i : Nat) {n : Fin 4} {x : Int32} (hx : lv[(n : Nat)]? = some (.int x)) (hi : μ.2.2.2.2[i]? = some (pc, .iload_n n, 1)) (k : zGo G μ d b (pc + 1) lv (.int x :: st) h P) : zGo G μ d b pc lv (st) h P := by
  intro p l e R s m args below meth c C H locs ls hR hl h1 h2
  exact lv_iload_n C.1 C.2.1 (zdg C hi) rfl (hl.2.2 _ _ hx rfl) (k p l e R s m args below meth c C H locs ls hR hl h1 h2)
theorem z_iload (i : Nat) {n : Nat} {x : Int32} (hx : lv[n]? = some (.int x)) (hi : μ.2.2.2.2[i]? = some (pc, .iload n, 2)) (k : zGo G μ d b (pc + 2) lv (.int x :: st) h P) : zGo G μ d b pc lv (st) h P := by
  intro p l e R s m args below meth c C H locs ls hR hl h1 h2
  exact lv_iload C.1 C.2.1 (zdg C hi) (hl.2.2 _ _ hx rfl) (k p l e R s m args below meth c C H locs ls hR hl h1 h2)
theorem z_lload_n (i : Nat) {n : Fin 4} {x : Int64} (hx : lv[(n : Nat)]? = some (.long x)) (hi : μ.2.2.2.2[i]? = some (pc, .lload_n n, 1)) (k : zGo G μ d b (pc + 1) lv (.long x :: st) h P) : zGo G μ d b pc lv (st) h P := by
  intro p l e R s m args below meth c C H locs ls hR hl h1 h2
  exact lv_lload_n C.1 C.2.1 (zdg C hi) rfl (hl.2.2 _ _ hx rfl) (k p l e R s m args below meth c C H locs ls hR hl h1 h2)
theorem z_lload (i : Nat) {n : Nat} {x : Int64} (hx : lv[n]? = some (.long x)) (hi : μ.2.2.2.2[i]? = some (pc, .lload n, 2)) (k : zGo G μ d b (pc + 2) lv (.long x :: st) h P) : zGo G μ d b pc lv (st) h P := by
  intro p l e R s m args below meth c C H locs ls hR hl h1 h2
  exact lv_lload C.1 C.2.1 (zdg C hi) (hl.2.2 _ _ hx rfl) (k p l e R s m args below meth c C H locs ls hR hl h1 h2)
theorem z_aload_n (i : Nat) {n : Fin 4} {x : Nat} (hx : lv[(n : Nat)]? = some (.ref x)) (hi : μ.2.2.2.2[i]? = some (pc, .aload_n n, 1)) (k : zGo G μ d b (pc + 1) lv (.ref x :: st) h P) : zGo G μ d b pc lv (st) h P := by
  intro p l e R s m args below meth c C H locs ls hR hl h1 h2
  exact lv_aload_n C.1 C.2.1 (zdg C hi) rfl (hl.2.2 _ _ hx rfl) (k p l e R s m args below meth c C H locs ls hR hl h1 h2)
theorem z_aload (i : Nat) {n : Nat} {x : Nat} (hx : lv[n]? = some (.ref x)) (hi : μ.2.2.2.2[i]? = some (pc, .aload n, 2)) (k : zGo G μ d b (pc + 2) lv (.ref x :: st) h P) : zGo G μ d b pc lv (st) h P := by
  intro p l e R s m args below meth c C H locs ls hR hl h1 h2
  exact lv_aload C.1 C.2.1 (zdg C hi) (hl.2.2 _ _ hx rfl) (k p l e R s m args below meth c C H locs ls hR hl h1 h2)
theorem z_iadd (i : Nat) {x y : Int32} (hi : μ.2.2.2.2[i]? = some (pc, .iadd, 1)) (k : zGo G μ d b (pc + 1) lv (.int (x + y) :: st) h P) : zGo G μ d b pc lv (.int y :: .int x :: st) h P := by
  intro p l e R s m args below meth c C H locs ls hR hl h1 h2
  exact lv_iadd C.1 C.2.1 (zdg C hi) (k p l e R s m args below meth c C H locs ls hR hl h1 h2)
theorem z_isub (i : Nat) {x y : Int32} (hi : μ.2.2.2.2[i]? = some (pc, .isub, 1)) (k : zGo G μ d b (pc + 1) lv (.int (x - y) :: st) h P) : zGo G μ d b pc lv (.int y :: .int x :: st) h P := by
  intro p l e R s m args below meth c C H locs ls hR hl h1 h2
  exact lv_isub C.1 C.2.1 (zdg C hi) (k p l e R s m args below meth c C H locs ls hR hl h1 h2)
theorem z_imul (i : Nat) {x y : Int32} (hi : μ.2.2.2.2[i]? = some (pc, .imul, 1)) (k : zGo G μ d b (pc + 1) lv (.int (x * y) :: st) h P) : zGo G μ d b pc lv (.int y :: .int x :: st) h P := by
  intro p l e R s m args below meth c C H locs ls hR hl h1 h2
  exact lv_imul C.1 C.2.1 (zdg C hi) (k p l e R s m args below meth c C H locs ls hR hl h1 h2)
theorem z_iand (i : Nat) {x y : Int32} (hi : μ.2.2.2.2[i]? = some (pc, .iand, 1)) (k : zGo G μ d b (pc + 1) lv (.int (x &&& y) :: st) h P) : zGo G μ d b pc lv (.int y :: .int x :: st) h P := by
  intro p l e R s m args below meth c C H locs ls hR hl h1 h2
  exact lv_iand C.1 C.2.1 (zdg C hi) (k p l e R s m args below meth c C H locs ls hR hl h1 h2)
theorem z_ior (i : Nat) {x y : Int32} (hi : μ.2.2.2.2[i]? = some (pc, .ior, 1)) (k : zGo G μ d b (pc + 1) lv (.int (x ||| y) :: st) h P) : zGo G μ d b pc lv (.int y :: .int x :: st) h P := by
  intro p l e R s m args below meth c C H locs ls hR hl h1 h2
  exact lv_ior C.1 C.2.1 (zdg C hi) (k p l e R s m args below meth c C H locs ls hR hl h1 h2)
theorem z_ixor (i : Nat) {x y : Int32} (hi : μ.2.2.2.2[i]? = some (pc, .ixor, 1)) (k : zGo G μ d b (pc + 1) lv (.int (x ^^^ y) :: st) h P) : zGo G μ d b pc lv (.int y :: .int x :: st) h P := by
  intro p l e R s m args below meth c C H locs ls hR hl h1 h2
  exact lv_ixor C.1 C.2.1 (zdg C hi) (k p l e R s m args below meth c C H locs ls hR hl h1 h2)
theorem z_ishl (i : Nat) {x y : Int32} (hi : μ.2.2.2.2[i]? = some (pc, .ishl, 1)) (k : zGo G μ d b (pc + 1) lv (.int (x <<< (y &&& 31)) :: st) h P) : zGo G μ d b pc lv (.int y :: .int x :: st) h P := by
  intro p l e R s m args below meth c C H locs ls hR hl h1 h2
  exact lv_ishl C.1 C.2.1 (zdg C hi) (k p l e R s m args below meth c C H locs ls hR hl h1 h2)
theorem z_ishr (i : Nat) {x y : Int32} (hi : μ.2.2.2.2[i]? = some (pc, .ishr, 1)) (k : zGo G μ d b (pc + 1) lv (.int (x >>> (y &&& 31)) :: st) h P) : zGo G μ d b pc lv (.int y :: .int x :: st) h P := by
  intro p l e R s m args below meth c C H locs ls hR hl h1 h2
  exact lv_ishr C.1 C.2.1 (zdg C hi) (k p l e R s m args below meth c C H locs ls hR hl h1 h2)
theorem z_idiv (i : Nat) {x y : Int32} (hne : ¬ y = 0) (hi : μ.2.2.2.2[i]? = some (pc, .idiv, 1)) (k : zGo G μ d b (pc + 1) lv (.int (x / y) :: st) h P) : zGo G μ d b pc lv (.int y :: .int x :: st) h P := by
  intro p l e R s m args below meth c C H locs ls hR hl h1 h2
  exact lv_idiv C.1 C.2.1 (zdg C hi) hne (k p l e R s m args below meth c C H locs ls hR hl h1 h2)
theorem z_irem (i : Nat) {x y : Int32} (hne : ¬ y = 0) (hi : μ.2.2.2.2[i]? = some (pc, .irem, 1)) (k : zGo G μ d b (pc + 1) lv (.int (x - x / y * y) :: st) h P) : zGo G μ d b pc lv (.int y :: .int x :: st) h P := by
  intro p l e R s m args below meth c C H locs ls hR hl h1 h2
  exact lv_irem C.1 C.2.1 (zdg C hi) hne (k p l e R s m args below meth c C H locs ls hR hl h1 h2)
theorem z_ladd (i : Nat) {x y : Int64} (hi : μ.2.2.2.2[i]? = some (pc, .ladd, 1)) (k : zGo G μ d b (pc + 1) lv (.long (x + y) :: st) h P) : zGo G μ d b pc lv (.long y :: .long x :: st) h P := by
  intro p l e R s m args below meth c C H locs ls hR hl h1 h2
  exact lv_ladd C.1 C.2.1 (zdg C hi) (k p l e R s m args below meth c C H locs ls hR hl h1 h2)
theorem z_lsub (i : Nat) {x y : Int64} (hi : μ.2.2.2.2[i]? = some (pc, .lsub, 1)) (k : zGo G μ d b (pc + 1) lv (.long (x - y) :: st) h P) : zGo G μ d b pc lv (.long y :: .long x :: st) h P := by
  intro p l e R s m args below meth c C H locs ls hR hl h1 h2
  exact lv_lsub C.1 C.2.1 (zdg C hi) (k p l e R s m args below meth c C H locs ls hR hl h1 h2)
theorem z_lmul (i : Nat) {x y : Int64} (hi : μ.2.2.2.2[i]? = some (pc, .lmul, 1)) (k : zGo G μ d b (pc + 1) lv (.long (x * y) :: st) h P) : zGo G μ d b pc lv (.long y :: .long x :: st) h P := by
  intro p l e R s m args below meth c C H locs ls hR hl h1 h2
  exact lv_lmul C.1 C.2.1 (zdg C hi) (k p l e R s m args below meth c C H locs ls hR hl h1 h2)
theorem z_land (i : Nat) {x y : Int64} (hi : μ.2.2.2.2[i]? = some (pc, .land, 1)) (k : zGo G μ d b (pc + 1) lv (.long (x &&& y) :: st) h P) : zGo G μ d b pc lv (.long y :: .long x :: st) h P := by
  intro p l e R s m args below meth c C H locs ls hR hl h1 h2
  exact lv_land C.1 C.2.1 (zdg C hi) (k p l e R s m args below meth c C H locs ls hR hl h1 h2)
theorem z_ldiv (i : Nat) {x y : Int64} (hne : ¬ y = 0) (hi : μ.2.2.2.2[i]? = some (pc, .ldiv, 1)) (k : zGo G μ d b (pc + 1) lv (.long (x / y) :: st) h P) : zGo G μ d b pc lv (.long y :: .long x :: st) h P := by
  intro p l e R s m args below meth c C H locs ls hR hl h1 h2
  exact lv_ldiv C.1 C.2.1 (zdg C hi) hne (k p l e R s m args below meth c C H locs ls hR hl h1 h2)
theorem z_lneg (i : Nat) {x : Int64} (hi : μ.2.2.2.2[i]? = some (pc, .lneg, 1)) (k : zGo G μ d b (pc + 1) lv (.long (-x) :: st) h P) : zGo G μ d b pc lv (.long x :: st) h P := by
  intro p l e R s m args below meth c C H locs ls hR hl h1 h2
  exact lv_lneg C.1 C.2.1 (zdg C hi) (k p l e R s m args below meth c C H locs ls hR hl h1 h2)
theorem z_ineg (i : Nat) {x : Int32} (hi : μ.2.2.2.2[i]? = some (pc, .ineg, 1)) (k : zGo G μ d b (pc + 1) lv (.int (-x) :: st) h P) : zGo G μ d b pc lv (.int x :: st) h P := by
  intro p l e R s m args below meth c C H locs ls hR hl h1 h2
  exact lv_ineg C.1 C.2.1 (zdg C hi) (k p l e R s m args below meth c C H locs ls hR hl h1 h2)
theorem z_i2l (i : Nat) {x : Int32} (hi : μ.2.2.2.2[i]? = some (pc, .i2l, 1)) (k : zGo G μ d b (pc + 1) lv (.long x.toInt64 :: st) h P) : zGo G μ d b pc lv (.int x :: st) h P := by
  intro p l e R s m args below meth c C H locs ls hR hl h1 h2
  exact lv_i2l C.1 C.2.1 (zdg C hi) rfl (k p l e R s m args below meth c C H locs ls hR hl h1 h2)
theorem z_l2i (i : Nat) {x : Int64} (hi : μ.2.2.2.2[i]? = some (pc, .l2i, 1)) (k : zGo G μ d b (pc + 1) lv (.int x.toInt32 :: st) h P) : zGo G μ d b pc lv (.long x :: st) h P := by
  intro p l e R s m args below meth c C H locs ls hR hl h1 h2
  exact lv_l2i C.1 C.2.1 (zdg C hi) rfl (k p l e R s m args below meth c C H locs ls hR hl h1 h2)
theorem z_i2b (i : Nat) {x : Int32} (hi : μ.2.2.2.2[i]? = some (pc, .i2b, 1)) (k : zGo G μ d b (pc + 1) lv (.int x.toInt8.toInt32 :: st) h P) : zGo G μ d b pc lv (.int x :: st) h P := by
  intro p l e R s m args below meth c C H locs ls hR hl h1 h2
  exact lv_i2b C.1 C.2.1 (zdg C hi) rfl (k p l e R s m args below meth c C H locs ls hR hl h1 h2)
theorem z_i2c (i : Nat) {x v : Int32} (hv : (x.toUInt32 % 65536).toInt32 = v) (hi : μ.2.2.2.2[i]? = some (pc, .i2c, 1)) (k : zGo G μ d b (pc + 1) lv (.int v :: st) h P) : zGo G μ d b pc lv (.int x :: st) h P := by
  intro p l e R s m args below meth c C H locs ls hR hl h1 h2
  exact lv_i2c C.1 C.2.1 (zdg C hi) hv (k p l e R s m args below meth c C H locs ls hR hl h1 h2)
theorem z_lcmp (i : Nat) {x y : Int64} (hi : μ.2.2.2.2[i]? = some (pc, .lcmp, 1)) (k : zGo G μ d b (pc + 1) lv (.int (lg_cmp x y) :: st) h P) : zGo G μ d b pc lv (.long y :: .long x :: st) h P := by
  intro p l e R s m args below meth c C H locs ls hR hl h1 h2
  exact W.lcmp C.1 C.2.1 (zdg C hi) (k p l e R s m args below meth c C H locs ls hR hl h1 h2)
theorem zrv_cat (G : zG) (v : Value) : (zrv G v).category = v.category := by cases v <;> rfl
theorem z_dup (i : Nat) {va : Value} (hva : va.category = 1) (hi : μ.2.2.2.2[i]? = some (pc, .dup, 1)) (k : zGo G μ d b (pc + 1) lv (va :: va :: st) h P) : zGo G μ d b pc lv (va :: st) h P := by
  intro p l e R s m args below meth c C H locs ls hR hl h1 h2
  exact lv_dup C.1 C.2.1 (zdg C hi) ((zrv_cat G _).trans hva) (k p l e R s m args below meth c C H locs ls hR hl h1 h2)
theorem z_dup2 (i : Nat) {va vb : Value} (hva : va.category = 1) (hvb : vb.category = 1) (hi : μ.2.2.2.2[i]? = some (pc, .dup2, 1)) (k : zGo G μ d b (pc + 1) lv (va :: vb :: va :: vb :: st) h P) : zGo G μ d b pc lv (va :: vb :: st) h P := by
  intro p l e R s m args below meth c C H locs ls hR hl h1 h2
  exact lv_dup2_11 C.1 C.2.1 (zdg C hi) ((zrv_cat G _).trans hva) ((zrv_cat G _).trans hvb) (k p l e R s m args below meth c C H locs ls hR hl h1 h2)
theorem z_pop (i : Nat) {va : Value} (hva : va.category = 1) (hi : μ.2.2.2.2[i]? = some (pc, .pop, 1)) (k : zGo G μ d b (pc + 1) lv (st) h P) : zGo G μ d b pc lv (va :: st) h P := by
  intro p l e R s m args below meth c C H locs ls hR hl h1 h2
  exact lv_pop C.1 C.2.1 (zdg C hi) ((zrv_cat G _).trans hva) (k p l e R s m args below meth c C H locs ls hR hl h1 h2)
theorem z_if_eq (i tgt : Nat) {off : Int} {x : Int32} (hi : μ.2.2.2.2[i]? = some (pc, .ifCond .eq off, 3)) (ht : (pc : Int) + off = (tgt : Int)) (k : (x = 0 → zGo G μ d b tgt lv st h P) ∧ (¬ x = 0 → zGo G μ d b (pc + 3) lv st h P)) : zGo G μ d b pc lv (.int x :: st) h P := by
  intro p l e R s m args below meth c C H locs ls hR hl h1 h2
  exact lv_if_eq C.1 C.2.1 (zdg C hi) ht (fun z => k.1 z p l e R s m args below meth c C H locs ls hR hl h1 h2) (fun z => k.2 z p l e R s m args below meth c C H locs ls hR hl h1 h2)
theorem z_if_ne (i tgt : Nat) {off : Int} {x : Int32} (hi : μ.2.2.2.2[i]? = some (pc, .ifCond .ne off, 3)) (ht : (pc : Int) + off = (tgt : Int)) (k : (¬ x = 0 → zGo G μ d b tgt lv st h P) ∧ (x = 0 → zGo G μ d b (pc + 3) lv st h P)) : zGo G μ d b pc lv (.int x :: st) h P := by
  intro p l e R s m args below meth c C H locs ls hR hl h1 h2
  exact lv_if_ne C.1 C.2.1 (zdg C hi) ht (fun z => k.1 z p l e R s m args below meth c C H locs ls hR hl h1 h2) (fun z => k.2 z p l e R s m args below meth c C H locs ls hR hl h1 h2)
theorem z_if_lt (i tgt : Nat) {off : Int} {x : Int32} (hi : μ.2.2.2.2[i]? = some (pc, .ifCond .lt off, 3)) (ht : (pc : Int) + off = (tgt : Int)) (k : (x < 0 → zGo G μ d b tgt lv st h P) ∧ (¬ x < 0 → zGo G μ d b (pc + 3) lv st h P)) : zGo G μ d b pc lv (.int x :: st) h P := by
  intro p l e R s m args below meth c C H locs ls hR hl h1 h2
  exact lv_if_lt C.1 C.2.1 (zdg C hi) ht (fun z => k.1 z p l e R s m args below meth c C H locs ls hR hl h1 h2) (fun z => k.2 z p l e R s m args below meth c C H locs ls hR hl h1 h2)
theorem z_if_ge (i tgt : Nat) {off : Int} {x : Int32} (hi : μ.2.2.2.2[i]? = some (pc, .ifCond .ge off, 3)) (ht : (pc : Int) + off = (tgt : Int)) (k : (0 ≤ x → zGo G μ d b tgt lv st h P) ∧ (¬ 0 ≤ x → zGo G μ d b (pc + 3) lv st h P)) : zGo G μ d b pc lv (.int x :: st) h P := by
  intro p l e R s m args below meth c C H locs ls hR hl h1 h2
  exact lv_if_ge C.1 C.2.1 (zdg C hi) ht (fun z => k.1 z p l e R s m args below meth c C H locs ls hR hl h1 h2) (fun z => k.2 z p l e R s m args below meth c C H locs ls hR hl h1 h2)
theorem z_if_gt (i tgt : Nat) {off : Int} {x : Int32} (hi : μ.2.2.2.2[i]? = some (pc, .ifCond .gt off, 3)) (ht : (pc : Int) + off = (tgt : Int)) (k : (0 < x → zGo G μ d b tgt lv st h P) ∧ (¬ 0 < x → zGo G μ d b (pc + 3) lv st h P)) : zGo G μ d b pc lv (.int x :: st) h P := by
  intro p l e R s m args below meth c C H locs ls hR hl h1 h2
  exact lv_if_gt C.1 C.2.1 (zdg C hi) ht (fun z => k.1 z p l e R s m args below meth c C H locs ls hR hl h1 h2) (fun z => k.2 z p l e R s m args below meth c C H locs ls hR hl h1 h2)
theorem z_if_le (i tgt : Nat) {off : Int} {x : Int32} (hi : μ.2.2.2.2[i]? = some (pc, .ifCond .le off, 3)) (ht : (pc : Int) + off = (tgt : Int)) (k : (x ≤ 0 → zGo G μ d b tgt lv st h P) ∧ (¬ x ≤ 0 → zGo G μ d b (pc + 3) lv st h P)) : zGo G μ d b pc lv (.int x :: st) h P := by
  intro p l e R s m args below meth c C H locs ls hR hl h1 h2
  exact lv_if_le C.1 C.2.1 (zdg C hi) ht (fun z => k.1 z p l e R s m args below meth c C H locs ls hR hl h1 h2) (fun z => k.2 z p l e R s m args below meth c C H locs ls hR hl h1 h2)
theorem z_icmp_eq (i tgt : Nat) {off : Int} {x y : Int32} (hi : μ.2.2.2.2[i]? = some (pc, .if_icmp .eq off, 3)) (ht : (pc : Int) + off = (tgt : Int)) (k : (x = y → zGo G μ d b tgt lv st h P) ∧ (¬ x = y → zGo G μ d b (pc + 3) lv st h P)) : zGo G μ d b pc lv (.int y :: .int x :: st) h P := by
  intro p l e R s m args below meth c C H locs ls hR hl h1 h2
  exact lv_icmp_eq C.1 C.2.1 (zdg C hi) ht (fun z => k.1 z p l e R s m args below meth c C H locs ls hR hl h1 h2) (fun z => k.2 z p l e R s m args below meth c C H locs ls hR hl h1 h2)
theorem z_icmp_ne (i tgt : Nat) {off : Int} {x y : Int32} (hi : μ.2.2.2.2[i]? = some (pc, .if_icmp .ne off, 3)) (ht : (pc : Int) + off = (tgt : Int)) (k : (¬ x = y → zGo G μ d b tgt lv st h P) ∧ (x = y → zGo G μ d b (pc + 3) lv st h P)) : zGo G μ d b pc lv (.int y :: .int x :: st) h P := by
  intro p l e R s m args below meth c C H locs ls hR hl h1 h2
  exact lv_icmp_ne C.1 C.2.1 (zdg C hi) ht (fun z => k.1 z p l e R s m args below meth c C H locs ls hR hl h1 h2) (fun z => k.2 z p l e R s m args below meth c C H locs ls hR hl h1 h2)
theorem z_icmp_lt (i tgt : Nat) {off : Int} {x y : Int32} (hi : μ.2.2.2.2[i]? = some (pc, .if_icmp .lt off, 3)) (ht : (pc : Int) + off = (tgt : Int)) (k : (x < y → zGo G μ d b tgt lv st h P) ∧ (¬ x < y → zGo G μ d b (pc + 3) lv st h P)) : zGo G μ d b pc lv (.int y :: .int x :: st) h P := by
  intro p l e R s m args below meth c C H locs ls hR hl h1 h2
  exact lv_icmp_lt C.1 C.2.1 (zdg C hi) ht (fun z => k.1 z p l e R s m args below meth c C H locs ls hR hl h1 h2) (fun z => k.2 z p l e R s m args below meth c C H locs ls hR hl h1 h2)
theorem z_icmp_ge (i tgt : Nat) {off : Int} {x y : Int32} (hi : μ.2.2.2.2[i]? = some (pc, .if_icmp .ge off, 3)) (ht : (pc : Int) + off = (tgt : Int)) (k : (y ≤ x → zGo G μ d b tgt lv st h P) ∧ (¬ y ≤ x → zGo G μ d b (pc + 3) lv st h P)) : zGo G μ d b pc lv (.int y :: .int x :: st) h P := by
  intro p l e R s m args below meth c C H locs ls hR hl h1 h2
  exact lv_icmp_ge C.1 C.2.1 (zdg C hi) ht (fun z => k.1 z p l e R s m args below meth c C H locs ls hR hl h1 h2) (fun z => k.2 z p l e R s m args below meth c C H locs ls hR hl h1 h2)
theorem z_icmp_gt (i tgt : Nat) {off : Int} {x y : Int32} (hi : μ.2.2.2.2[i]? = some (pc, .if_icmp .gt off, 3)) (ht : (pc : Int) + off = (tgt : Int)) (k : (y < x → zGo G μ d b tgt lv st h P) ∧ (¬ y < x → zGo G μ d b (pc + 3) lv st h P)) : zGo G μ d b pc lv (.int y :: .int x :: st) h P := by
  intro p l e R s m args below meth c C H locs ls hR hl h1 h2
  exact lv_icmp_gt C.1 C.2.1 (zdg C hi) ht (fun z => k.1 z p l e R s m args below meth c C H locs ls hR hl h1 h2) (fun z => k.2 z p l e R s m args below meth c C H locs ls hR hl h1 h2)
theorem z_icmp_le (i tgt : Nat) {off : Int} {x y : Int32} (hi : μ.2.2.2.2[i]? = some (pc, .if_icmp .le off, 3)) (ht : (pc : Int) + off = (tgt : Int)) (k : (x ≤ y → zGo G μ d b tgt lv st h P) ∧ (¬ x ≤ y → zGo G μ d b (pc + 3) lv st h P)) : zGo G μ d b pc lv (.int y :: .int x :: st) h P := by
  intro p l e R s m args below meth c C H locs ls hR hl h1 h2
  exact lv_icmp_le C.1 C.2.1 (zdg C hi) ht (fun z => k.1 z p l e R s m args below meth c C H locs ls hR hl h1 h2) (fun z => k.2 z p l e R s m args below meth c C H locs ls hR hl h1 h2)
theorem z_goto (i tgt : Nat) {off : Int} (hi : μ.2.2.2.2[i]? = some (pc, .goto off, 3)) (ht : (pc : Int) + off = (tgt : Int)) (k : zGo G μ d b tgt lv st h P) : zGo G μ d b pc lv st h P := by
  intro p l e R s m args below meth c C H locs ls hR hl h1 h2
  exact lv_goto C.1 C.2.1 (zdg C hi) ht (k p l e R s m args below meth c C H locs ls hR hl h1 h2)
theorem z_tableOut (i tgt : Nat) {dflt lo hi9 : Int} {offs : Array Int} {len : Nat} {x : Int32} (hi : μ.2.2.2.2[i]? = some (pc, .tableswitch dflt lo hi9 offs, len)) (ht : (pc : Int) + dflt = (tgt : Int)) (hx : x.toInt < lo ∨ hi9 < x.toInt) (k : zGo G μ d b tgt lv st h P) : zGo G μ d b pc lv (.int x :: st) h P := by
  intro p l e R s m args below meth c C H locs ls hR hl h1 h2
  exact lv_tableOut C.1 C.2.1 (zdg C hi) hx ht (k p l e R s m args below meth c C H locs ls hR hl h1 h2)
theorem z_tableIn (i tgt : Nat) {dflt lo hi9 off : Int} {offs : Array Int} {len : Nat} {x : Int32} (hi : μ.2.2.2.2[i]? = some (pc, .tableswitch dflt lo hi9 offs, len)) (v : Int) (hx : x.toInt = v) (hv1 : ¬ v < lo) (hv2 : ¬ hi9 < v) (ho : offs[(v - lo).toNat]? = some off) (ht : (pc : Int) + off = (tgt : Int)) (k : zGo G μ d b tgt lv st h P) : zGo G μ d b pc lv (.int x :: st) h P := by
  subst hx
  intro p l e R s m args below meth c C H locs ls hR hl h1 h2
  exact lv_tableIn C.1 C.2.1 (zdg C hi) hv1 hv2 ho ht (k p l e R s m args below meth c C H locs ls hR hl h1 h2)
theorem z_lookup (i tgt : Nat) {dflt off : Int} {ps : Array (Int × Int)} {len : Nat} {x : Int32} (hi : μ.2.2.2.2[i]? = some (pc, .lookupswitch dflt ps, len)) (hp : (ps.toList.zip (ps.toList.drop 1)).all (fun (a, next) => a.1 < next.1) = true) (ho : Op.lookupswitch.offset ps.toList dflt x.toInt = off) (ht : (pc : Int) + off = (tgt : Int)) (k : zGo G μ d b tgt lv st h P) : zGo G μ d b pc lv (.int x :: st) h P := by
  intro p l e R s m args below meth c C H locs ls hR hl h1 h2
  exact lv_lookup C.1 C.2.1 (zdg C hi) hp ho ht (k p l e R s m args below meth c C H locs ls hR hl h1 h2)
end ZB
theorem zRep.nil {G : zG} {h : zMem} {H : Heap} {locs : List Loc} (hR : zRep G h H locs) : zRep G h H [] := ⟨hR.1, ⟨hR.2.1.1, hR.2.1.2.1, fun _ h => nomatch h⟩, hR.2.2⟩
theorem zKK.calling {G : zG} {U : State} {g : JFrame} {mk : MethodId} {a : Array Value} (h : zKK G U) : zKK G (U.calling g mk a) := ⟨va_K.moved (u := U) (U := U.calling g mk a) (Vm.Alike.refl U.vm) h.1, h.2.2 U _ (Or.inr rfl) h.2.1, h.2.2⟩
theorem zKK.warm {G : zG} {s U : State} (hW : s.WarmedH U.vm) (h : zKK G s) : zKK G U := ⟨va_K.moved hW.alike h.1, h.2.2 s U (Or.inl hW) h.2.1, h.2.2⟩
/-- the locals as the kit lists them -/
def zas (G : zG) (lv : List Value) : List (Nat × Value) := (List.range lv.length).filterMap (fun j => match lv[j]? with
  | some v => if zisU v then none else some (j, zrv G v)
  | none => none)
theorem zas_mem {G : zG} {lv : List Value} {q : Nat × Value} : q ∈ zas G lv ↔ ∃ v, lv[q.1]? = some v ∧ zisU v = false ∧ q.2 = zrv G v := by
  unfold zas
  rw [List.mem_filterMap]
  constructor
  · rintro ⟨j, hj, hq⟩
    cases hv : lv[j]? with
    | none => rw [hv] at hq; cases hq
    | some v =>
      rw [hv] at hq
      dsimp only at hq
      cases hu : zisU v with
      | true => rw [hu] at hq; cases hq
      | false =>
        rw [hu] at hq
        simp only [Bool.false_eq_true, if_false, Option.some.injEq] at hq
        subst hq
        exact ⟨v, hv, hu, rfl⟩
  · rintro ⟨v, h1, h2, h3⟩
    refine ⟨q.1, List.mem_range.mpr (List.getElem?_eq_some_iff.mp h1).1, ?_⟩
    rw [h1]
    dsimp only
    rw [h2, if_neg (by decide), ← h3]
theorem zLv.has {G : zG} {ls : Array Slot} {nL : Nat} {lv : List Value} (h : zLv G ls nL lv) : lv_has ls nL (zas G lv) := ⟨h.1, h.2.1, fun q hq => by
  obtain ⟨v, h1, h2, h3⟩ := zas_mem.mp hq
  rw [h3]
  exact h.2.2 _ v h1 h2⟩
/-- no long stands right ahead of place i -/
def zfree (lv : List Value) (i : Nat) : Bool := match i with
  | 0 => true
  | k + 1 => match lv[k]? with
    | some (.long _) => false
    | some (.double _) => false
    | _ => true
theorem zfree_ne {lv : List Value} {i j : Nat} {w : Value} (hf : zfree lv i = true) (hj : j + 1 = i) (hw : lv[j]? = some w) : w.category ≠ 2 := by
  subst hj
  simp only [zfree, hw] at hf
  cases w <;> simp_all [Value.category]
theorem zLv.set1 {G : zG} {ls' : Array Slot} {nL i : Nat} {lv : List Value} {v : Value} (hf : zfree lv i = true) (h' : lv_has ls' nL ((i, zrv G v) :: (zas G lv).filter (fun q => !(q.1 == i) && !(q.1 + 1 == i && q.2.category == 2)))) : zLv G ls' nL (lv.set i v) := by
  refine ⟨h'.1, h'.2.1, fun j w hj hu => ?_⟩
  by_cases e : j = i
  · subst e
    have hl : j < lv.length := by
      have := (List.getElem?_eq_some_iff.mp hj).1
      simpa using this
    rw [List.getElem?_set_self hl] at hj
    cases hj
    exact h'.2.2 (j, zrv G v) List.mem_cons_self
  · rw [List.getElem?_set_ne (Ne.symm e)] at hj
    refine h'.2.2 (j, zrv G w) (List.mem_cons_of_mem _ (List.mem_filter.mpr ⟨zas_mem.mpr ⟨w, hj, hu, rfl⟩, ?_⟩))
    simp only [Bool.and_eq_true, Bool.not_eq_true', beq_eq_false_iff_ne, ne_eq, Bool.and_eq_false_iff, zrv_cat]
    refine ⟨e, ?_⟩
    by_cases e2 : j + 1 = i
    · exact Or.inr (zfree_ne hf e2 hj)
    · exact Or.inl e2
theorem zLv.set2 {G : zG} {ls' : Array Slot} {nL i : Nat} {lv : List Value} {v : Value} (hf : zfree lv i = true) (h' : lv_has ls' nL ((i, zrv G v) :: (zas G lv).filter (fun q => !(q.1 == i) && (!(q.1 == i + 1) && !(q.1 + 1 == i && q.2.category == 2))))) : zLv G ls' nL ((lv.set i v).set (i + 1) zU) := by
  refine ⟨h'.1, h'.2.1, fun j w hj hu => ?_⟩
  by_cases e1 : j = i + 1
  · subst e1
    have hl : i + 1 < (lv.set i v).length := by
      have := (List.getElem?_eq_some_iff.mp hj).1
      simpa using this
    rw [List.getElem?_set_self hl] at hj
    cases hj
    cases hu
  · rw [List.getElem?_set_ne (Ne.symm e1)] at hj
    by_cases e : j = i
    · subst e
      have hl : j < lv.length := by
        have := (List.getElem?_eq_some_iff.mp hj).1
        simpa using this
      rw [List.getElem?_set_self hl] at hj
      cases hj
      exact h'.2.2 (j, zrv G v) List.mem_cons_self
    · rw [List.getElem?_set_ne (Ne.symm e)] at hj
      refine h'.2.2 (j, zrv G w) (List.mem_cons_of_mem _ (List.mem_filter.mpr ⟨zas_mem.mpr ⟨w, hj, hu, rfl⟩, ?_⟩))
      simp only [Bool.and_eq_true, Bool.not_eq_true', beq_eq_false_iff_ne, ne_eq, Bool.and_eq_false_iff, zrv_cat]
      refine ⟨e, e1, ?_⟩
      by_cases e2 : j + 1 = i
      · exact Or.inr (zfree_ne hf e2 hj)
      · exact Or.inl e2
/-- fewer locals are known -/
theorem zLv.sub {G : zG} {ls : Array Slot} {nL : Nat} {lv lv2 : List Value} (h : zLv G ls nL lv) (hs : ∀ (i : Nat) (v : Value), lv2[i]? = some v → zisU v = false → lv[i]? = some v) : zLv G ls nL lv2 := ⟨h.1, h.2.1, fun i v hi hu => h.2.2 i v (hs i v hi hu) hu⟩
section ZB2
variable {G : zG} {μ : zM} {d : Nat} {b : zB} {pc : Nat} {lv st : List Value} {h : zMem} {P : Option Value → zMem → Prop}
theorem z_locals {lv2 : List Value} (hs : ∀ (i : Nat) (v : Value), lv2[i]? = some v → zisU v = false → lv[i]? = some v) (k : zGo G μ d b pc lv2 st h P) : zGo G μ d b pc lv st h P := by
  intro p l e R s m args below meth c C H locs ls hR hl h1 h2
  exact k p l e R s m args below meth c C H locs ls hR (hl.sub hs) h1 h2
theorem z_istore_n (i : Nat) {n : Fin 4} {x : Int32} (hi : μ.2.2.2.2[i]? = some (pc, .istore_n n, 1)) (hn : (n : Nat) < μ.2.2.1) (hf : zfree lv n = true) (k : zGo G μ d b (pc + 1) (lv.set n (.int x)) st h P) : zGo G μ d b pc lv (.int x :: st) h P := by
  intro p l e R s m args below meth c C H locs ls hR hl h1 h2
  exact lv_istore_n C.1 C.2.1 (zdg C hi) rfl hl.has hn rfl (fun ls' hl' => k p l e R s m args below meth c C H locs ls' hR (zLv.set1 hf hl') h1 h2)
theorem z_istore (i : Nat) {n : Nat} {x : Int32} (hi : μ.2.2.2.2[i]? = some (pc, .istore n, 2)) (hn : n < μ.2.2.1) (hf : zfree lv n = true) (k : zGo G μ d b (pc + 2) (lv.set n (.int x)) st h P) : zGo G μ d b pc lv (.int x :: st) h P := by
  intro p l e R s m args below meth c C H locs ls hR hl h1 h2
  exact lv_istore C.1 C.2.1 (zdg C hi) hl.has hn rfl (fun ls' hl' => k p l e R s m args below meth c C H locs ls' hR (zLv.set1 hf hl') h1 h2)
theorem z_astore_n (i : Nat) {n : Fin 4} {x : Nat} (hi : μ.2.2.2.2[i]? = some (pc, .astore_n n, 1)) (hn : (n : Nat) < μ.2.2.1) (hf : zfree lv n = true) (k : zGo G μ d b (pc + 1) (lv.set n (.ref x)) st h P) : zGo G μ d b pc lv (.ref x :: st) h P := by
  intro p l e R s m args below meth c C H locs ls hR hl h1 h2
  exact lv_astore_n C.1 C.2.1 (zdg C hi) rfl hl.has hn rfl (fun ls' hl' => k p l e R s m args below meth c C H locs ls' hR (zLv.set1 (v := .ref x) hf hl') h1 h2)
theorem z_astore (i : Nat) {n : Nat} {x : Nat} (hi : μ.2.2.2.2[i]? = some (pc, .astore n, 2)) (hn : n < μ.2.2.1) (hf : zfree lv n = true) (k : zGo G μ d b (pc + 2) (lv.set n (.ref x)) st h P) : zGo G μ d b pc lv (.ref x :: st) h P := by
  intro p l e R s m args below meth c C H locs ls hR hl h1 h2
  exact lv_astore C.1 C.2.1 (zdg C hi) hl.has hn rfl (fun ls' hl' => k p l e R s m args below meth c C H locs ls' hR (zLv.set1 (v := .ref x) hf hl') h1 h2)
theorem z_lstore_n (i : Nat) {n : Fin 4} {x : Int64} (hi : μ.2.2.2.2[i]? = some (pc, .lstore_n n, 1)) (hn : (n : Nat) + 1 < μ.2.2.1) (hf : zfree lv n = true) (k : zGo G μ d b (pc + 1) ((lv.set n (.long x)).set (n + 1) zU) st h P) : zGo G μ d b pc lv (.long x :: st) h P := by
  intro p l e R s m args below meth c C H locs ls hR hl h1 h2
  exact lv_lstore_n C.1 C.2.1 (zdg C hi) rfl hl.has hn rfl (fun ls' hl' => k p l e R s m args below meth c C H locs ls' hR (zLv.set2 hf hl') h1 h2)
theorem z_lstore (i : Nat) {n : Nat} {x : Int64} (hi : μ.2.2.2.2[i]? = some (pc, .lstore n, 2)) (hn : n + 1 < μ.2.2.1) (hf : zfree lv n = true) (k : zGo G μ d b (pc + 2) ((lv.set n (.long x)).set (n + 1) zU) st h P) : zGo G μ d b pc lv (.long x :: st) h P := by
  intro p l e R s m args below meth c C H locs ls hR hl h1 h2
  exact lv_lstore C.1 C.2.1 (zdg C hi) hl.has hn rfl (fun ls' hl' => k p l e R s m args below meth c C H locs ls' hR (zLv.set2 hf hl') h1 h2)
theorem z_iinc (i : Nat) {n : Nat} {cn : Int} {x v : Int32} (hi : μ.2.2.2.2[i]? = some (pc, .iinc n cn, 3)) (hx : lv[n]? = some (.int x)) (hv : Int32.ofInt cn = v) (hn : n < μ.2.2.1) (hf : zfree lv n = true) (k : zGo G μ d b (pc + 3) (lv.set n (.int (x + v))) st h P) : zGo G μ d b pc lv st h P := by
  intro p l e R s m args below meth c C H locs ls hR hl h1 h2
  obtain ⟨j, hj⟩ := List.getElem?_of_mem (zas_mem (G := G) (q := (n, .int x)).mpr ⟨.int x, hx, rfl, rfl⟩)
  exact lv_iinc C.1 C.2.1 (zdg C hi) hl.has hj (by rw [hv]) hn rfl (fun ls' hl' => k p l e R s m args below meth c C H locs ls' hR (zLv.set1 (v := .int (x + v)) hf hl') h1 h2)
end ZB2
/-! cells under a write -/
def zO (h : zMem) (a ci : Nat) : Prop := a < zn h ∧ zK h a = ci
theorem zO_sI (h : zMem) (a i : Nat) (v : Int32) (x c : Nat) : zO (zsI h a i v) x c = zO h x c := rfl
theorem zO_sL (h : zMem) (a i : Nat) (v : Int64) (x c : Nat) : zO (zsL h a i v) x c = zO h x c := rfl
theorem zO_sR (h : zMem) (a i : Nat) (v : Option Nat) (x c : Nat) : zO (zsR h a i v) x c = zO h x c := rfl
theorem zup_row {α : Type} (f : Nat → Nat → α) {a i : Nat} (v : α) {k : Nat} (h : k ≠ a) : zup f a i v k = f k := funext fun j => zup_a f v j h
theorem zcell_i {G : zG} {h : zMem} {a : Nat} (hk : zK h a = 100) : zcell G h a = .inl (gA G 0, zLen h a, .inl (zI h a)) := by unfold zcell; rw [if_pos hk]
theorem zcell_l {G : zG} {h : zMem} {a : Nat} (hk : zK h a = 101) : zcell G h a = .inl (gA G 1, zLen h a, .inr (.inl (zL h a))) := by unfold zcell; rw [if_neg (by omega), if_pos hk]
theorem zcell_b {G : zG} {h : zMem} {a : Nat} (hk : zK h a = 102) : zcell G h a = .inl (gA G 2, zLen h a, .inl (zI h a)) := by unfold zcell; rw [if_neg (by omega), if_neg (by omega), if_pos hk]
theorem zcell_z {G : zG} {h : zMem} {a : Nat} (hk : zK h a = 103) : zcell G h a = .inl (gA G 3, zLen h a, .inl (zI h a)) := by unfold zcell; rw [if_neg (by omega), if_neg (by omega), if_neg (by omega), if_pos hk]
theorem zcell_q {G : zG} {h : zMem} {a : Nat} (hk : zK h a = 104) : zcell G h a = .inl (gA G 4, zLen h a, .inr (.inr (.inr (.inr (fun j => (zR h a j).map (zad G)))))) := by unfold zcell; rw [if_neg (by omega), if_neg (by omega), if_neg (by omega), if_neg (by omega), if_pos hk]
theorem zcell_o {G : zG} {h : zMem} {a ci : Nat} (hk : zK h a = ci) (hc : ci < 100) : zcell G h a = .inr (ci, zfs G h a ci) := by unfold zcell; rw [if_neg (by omega), if_neg (by omega), if_neg (by omega), if_neg (by omega), if_neg (by omega), hk]
theorem zcell_sI_ne {G : zG} {h : zMem} {a i : Nat} {v : Int32} {k : Nat} (hk : k ≠ a) : zcell G (zsI h a i v) k = zcell G h k := by
  have e : zI (zsI h a i v) k = zI h k := zup_row _ _ hk
  simp only [zcell, zfs, zK_sI, zLen_sI, zL_sI, zR_sI, e]
  have e2 : zfv G (zsI h a i v) k (zK h k) = zfv G h k (zK h k) := by
    funext j
    simp only [zfv, zL_sI, zR_sI, e]
  rw [e2]
  try rfl
theorem zcell_sL_ne {G : zG} {h : zMem} {a i : Nat} {v : Int64} {k : Nat} (hk : k ≠ a) : zcell G (zsL h a i v) k = zcell G h k := by
  have e : zL (zsL h a i v) k = zL h k := zup_row _ _ hk
  simp only [zcell, zfs, zK_sL, zLen_sL, zI_sL, zR_sL, e]
  have e2 : zfv G (zsL h a i v) k (zK h k) = zfv G h k (zK h k) := by
    funext j
    simp only [zfv, zI_sL, zR_sL, e]
  rw [e2]
  try rfl
theorem zcell_sR_ne {G : zG} {h : zMem} {a i : Nat} {v : Option Nat} {k : Nat} (hk : k ≠ a) : zcell G (zsR h a i v) k = zcell G h k := by
  have e : zR (zsR h a i v) k = zR h k := zup_row _ _ hk
  simp only [zcell, zfs, zK_sR, zLen_sR, zI_sR, zL_sR, e]
  have e2 : zfv G (zsR h a i v) k (zK h k) = zfv G h k (zK h k) := by
    funext j
    simp only [zfv, zI_sR, zL_sR, e]
  rw [e2]
  try rfl
def zint (t : FieldType) : Bool := match t with
  | .long => false
  | .object _ => false
  | .array _ => false
  | _ => true
def zrefT (t : FieldType) : Bool := match t with
  | .object _ => true
  | .array _ => true
  | _ => false
theorem zfv_int {G : zG} {h : zMem} {k ci j : Nat} (ht : zint (zty ci j) = true) : zfv G h k ci j = .int (zI h k j) := by
  unfold zfv; revert ht; cases zty ci j <;> simp [zint]
theorem zfv_ref {G : zG} {h : zMem} {k ci j : Nat} (ht : zrefT (zty ci j) = true) : zfv G h k ci j = va_rf ((zR h k j).map (zad G)) := by
  unfold zfv; revert ht; cases zty ci j <;> simp [zrefT]
theorem zfv_long {G : zG} {h : zMem} {k ci j : Nat} (ht : zty ci j = .long) : zfv G h k ci j = .long (zL h k j) := by
  unfold zfv; rw [ht]
theorem zfs_at {G : zG} {h : zMem} {k ci j : Nat} (hj : j < zfn ci) : (zfs G h k ci)[j]? = some (zfv G h k ci j) := by simp [zfs, hj]
theorem zfs_len {G : zG} {h : zMem} {k ci : Nat} : (zfs G h k ci).length = zfn ci := by simp [zfs]
theorem zfs_set {G : zG} {h h' : zMem} {k ci j : Nat} {v : Value} (hj : j < zfn ci) (hv : zfv G h' k ci j = v) (ho : ∀ i, i ≠ j → zfv G h' k ci i = zfv G h k ci i) : (zfs G h k ci).set j v = zfs G h' k ci := by
  apply List.ext_getElem?
  intro i
  by_cases e : i = j
  · subst e
    rw [List.getElem?_set_self (by rw [zfs_len]; exact hj), zfs_at hj, hv]
  · rw [List.getElem?_set_ne (Ne.symm e)]
    by_cases hl : i < zfn ci
    · rw [zfs_at hl, zfs_at hl, ho i e]
    · rw [List.getElem?_eq_none (by rw [zfs_len]; omega), List.getElem?_eq_none (by rw [zfs_len]; omega)]
/-- a class of the list: its number of fields, words, types, names -/
def zCF (ci : Nat) (C : String) (T : u_T) (N : Nat) : Prop := zcl[ci]? = some (C, T, N) ∧ (∀ w ∈ u_ws C T N, w ∈ ztb) ∧ (∀ k, k < N → parseFieldDescriptor (T k).2.2.1 = some (zty ci k)) ∧ (∀ a, a < N → ∀ b, b < N → a ≠ b → (T a).2.1 ≠ (T b).2.1) ∧ ci < 100
theorem zCF.n {ci : Nat} {C : String} {T : u_T} {N : Nat} (h : zCF ci C T N) : zfn ci = N := by unfold zfn; rw [h.1]
/-- a field's link: of class ci the field j, by entry 'index' of the class 'own' -/
def zFL (own : String) (index ci j : Nat) : Prop := ∃ (C : String) (T : u_T) (N : Nat), zCF ci C T N ∧ j < N ∧ Cond.fieldLink own index (T j).1 (T j).2.1 (T j).2.2.1 ∈ ztb
/-- it isn't final -/
def zNF (ci j : Nat) : Prop := ∃ (C : String) (T : u_T) (N : Nat), zcl[ci]? = some (C, T, N) ∧ (T j).2.2.2 = false
section ZB3
variable {G : zG} {μ : zM} {d : Nat} {b : zB} {pc : Nat} {lv st : List Value} {h : zMem} {P : Option Value → zMem → Prop}
theorem z_get (i : Nat) {index ci j a : Nat} {v : Value} (hi : μ.2.2.2.2[i]? = some (pc, .getfield index, 3)) (hf : zFL μ.1.cls index ci j) (ho : zO h a ci) (hv : zfv G h a ci j = zrv G v) (k : zGo G μ d b (pc + 3) lv (v :: st) h P) : zGo G μ d b pc lv (.ref a :: st) h P := by
  intro p l e R s m args below meth c C H locs ls hR hl h1 h2
  obtain ⟨Cn, T, N, hC, hj, hlk⟩ := hf
  exact va_get (v := zrv G v) C.1 C.2.1 C.2.2.2.2.2.2.1 hC.2.1 C.2.2.2.2.2.1 C.2.2.2.2.2.2.2.1.1 hR.1 a (by rw [zw_at ho.1, zcell_o ho.2 hC.2.2.2.2]) hC.1 j hj (C.2.2.2.2.2.2.1 _ hlk) (fun _ h9 => h9) (by rw [zfs_at (by rw [hC.n]; exact hj), hv]) (zdg C hi) (k p l e R s m args below meth c C H locs ls hR hl h1 h2)
theorem z_getI (i : Nat) {index ci j a : Nat} (hi : μ.2.2.2.2[i]? = some (pc, .getfield index, 3)) (hf : zFL μ.1.cls index ci j) (ht : zint (zty ci j) = true) (ho : zO h a ci) (k : zGo G μ d b (pc + 3) lv (.int (zI h a j) :: st) h P) : zGo G μ d b pc lv (.ref a :: st) h P := z_get i hi hf ho (zfv_int ht) k
theorem z_getL (i : Nat) {index ci j a : Nat} (hi : μ.2.2.2.2[i]? = some (pc, .getfield index, 3)) (hf : zFL μ.1.cls index ci j) (ht : zty ci j = .long) (ho : zO h a ci) (k : zGo G μ d b (pc + 3) lv (.long (zL h a j) :: st) h P) : zGo G μ d b pc lv (.ref a :: st) h P := z_get i hi hf ho (zfv_long ht) k
theorem z_getR (i : Nat) {index ci j a : Nat} {r : Nat} (hi : μ.2.2.2.2[i]? = some (pc, .getfield index, 3)) (hf : zFL μ.1.cls index ci j) (ht : zrefT (zty ci j) = true) (ho : zO h a ci) (hr : zR h a j = some r) (k : zGo G μ d b (pc + 3) lv (.ref r :: st) h P) : zGo G μ d b pc lv (.ref a :: st) h P := z_get i hi hf ho (by rw [zfv_ref ht, hr]; rfl) k
theorem zRep.set {G : zG} {h h' : zMem} {H H1 : Heap} {locs locs1 : List Loc} {a : Nat} {e : va_E} (hR : zRep G h H locs) (ha : a < zn h) (hn : zn h' = zn h) (hx : zx h' = zx h) (he : e = zcell G h' a) (ho : ∀ j, j ≠ a → zcell G h' j = zcell G h j) (hsz : H1.size = H.size) (hP : va_P (gD G) zcl ((zw G h).set a (zad G a, e)) H1) (hS : va_S (zA G) (gH G) H1 locs1) : zRep G h' H1 locs1 := by
  rw [zw_set ha hn he ho] at hP
  exact ⟨hP, hS, by rw [hsz, hn, hx]; exact hR.2.2.1, by rw [hn]; exact hR.2.2.2⟩
end ZB3
end
section
section ZB4
variable {G : zG} {μ : zM} {d : Nat} {b : zB} {pc : Nat} {lv st : List Value} {h : zMem} {P : Option Value → zMem → Prop}
theorem z_put (i : Nat) {index ci j a : Nat} {v : Value} {h' : zMem} (hi : μ.2.2.2.2[i]? = some (pc, .putfield index, 3)) (hf : zFL μ.1.cls index ci j) (hnf : zNF ci j) (ho : zO h a ci) (hn : narrow (zty ci j) (zrv G v) = zrv G v) (hfit : fits (zty ci j) (zrv G v) = true) (hn' : zn h' = zn h) (hx' : zx h' = zx h) (hs' : zs h' = zs h) (hK' : zK h' = zK h) (hv : zfv G h' a ci j = zrv G v) (hoj : ∀ i, i ≠ j → zfv G h' a ci i = zfv G h a ci i) (hok : ∀ k, k ≠ a → zcell G h' k = zcell G h k) (k : zGo G μ d b (pc + 3) lv st h' P) : zGo G μ d b pc lv (v :: .ref a :: st) h P := by
  intro p l e R s m args below meth c C H locs ls hR hl h1 h2
  obtain ⟨Cn, T, N, hC, hj, hlk⟩ := hf
  obtain ⟨_, _, _, hq, hfin⟩ := hnf
  cases hq.symm.trans hC.1
  have hsz : ∀ H1 : Heap, H1.size = H1.size := fun _ => rfl
  refine W.eq (g2 := F0 m pc ls (zrv G v :: .ref (zad G a) :: st.map (zrv G))) rfl ?_
  have hC2 := C.2.2.2.2.2.2.2.1.1
  obtain ⟨hap⟩ : True := trivial
  have hap := va_apart (own := μ.1.cls) C.2.2.2.2.2.2.1 hC.2.1 (zty ci) hC.2.2.1 hC.2.2.2.1 hC2 hC.1
  have he : (zw G h)[a]? = some (zad G a, .inr (ci, zfs G h a ci)) := by rw [zw_at ho.1, zcell_o ho.2 hC.2.2.2.2]
  obtain ⟨r, g1, cell, q1, q2, q3, q4⟩ := hR.1 a _ he
  have hr : r = (Cn, T, N) := Option.some.inj (g1.symm.trans hC.1)
  subst hr
  obtain ⟨hS, hfc, kC, hkC, hkind⟩ := hC2.1 ci _ hC.1
  obtain ⟨cf, kf, fi, f, hif, hsl⟩ := hS j hj
  have hlay := C.2.2.2.2.2.2.1 _ (hC.2.1 _ (u_in_lay hj))
  unfold u_lay at hlay
  rw [if_neg (by rw [hfin]; decide)] at hlay
  have hst := (u_facts hfc hkC (u_lays C.2.2.2.2.2.2.1 hC.2.1 hj) hif).1
  have h6 := u_store hfc hkC hkind hlay hif (hC.2.2.1 j hj) hn hfit
  have hD := zw_D (G := G) (h := h) hR.2.2.2
  refine W.putK C.1 C.2.1 (f := f) ⟨C.2.2.2.2.2.1, C.2.2.2.2.2.2.1 _ hlk, ⟨_, _, _, hif⟩, hst⟩ (by rw [q2]; exact h6) q1 q3 (by rw [hsl]; exact k2_hasslot (q4 j hj)) rfl rfl (zdg C hi) fun H' e1 e2 e3 => ?_
  rw [hsl] at e1 ⊢
  have hl2 : j < (zfs G h a ci).length := by rw [zfs_len, hC.n]; exact hj
  have hP1 : va_P (gD G) zcl ((zw G h).set a (zad G a, .inr (ci, (zfs G h a ci).set j (zrv G v)))) H' := hR.1.set hD he ⟨_, hC.1, t_OB.to (V := updV (vp_V (zfs G h a ci)) j (zrv G v)) ⟨_, e1, q2, q3, t_set q4 hap hj (zrv G v)⟩ (fun j' _ => vp_updV_set hl2 (zrv G v) j')⟩ e3
  have hR' : zRep G h' H' (locs ++ [⟨zad G a, gD G |>.2 ci j⟩]) := by
    refine hR.set ho.1 hn' hx' ?_ hok e2 hP1 (hR.2.1.put e2 e3 (hD.2 a _ he))
    rw [zcell_o (by rw [hK']; exact ho.2) hC.2.2.2.2, zfs_set (by rw [hC.n]; exact hj) hv hoj]
  have := k p l e R s m args below meth c C H' _ ls hR' hl (by omega) (by omega)
  rw [hn', hx', hs'] at this
  exact this
theorem z_putI (i : Nat) {index ci j a : Nat} {x : Int32} (hi : μ.2.2.2.2[i]? = some (pc, .putfield index, 3)) (hf : zFL μ.1.cls index ci j) (hnf : zNF ci j) (ht : zint (zty ci j) = true) (hn : narrow (zty ci j) (.int x) = .int x) (hfit : fits (zty ci j) (.int x) = true) (ho : zO h a ci) (k : zGo G μ d b (pc + 3) lv st (zsI h a j x) P) : zGo G μ d b pc lv (.int x :: .ref a :: st) h P := by
  refine z_put i hi hf hnf ho hn hfit (zn_sI ..) (zx_sI ..) (zs_sI ..) (zK_sI ..) (by rw [zfv_int ht, zI_sI, zup_s]; rfl) (fun j' hj' => ?_) (fun k' hk' => zcell_sI_ne hk') k
  simp only [zfv, zL_sI, zR_sI, zI_sI, zup_i _ _ _ hj']
theorem z_putL (i : Nat) {index ci j a : Nat} {x : Int64} (hi : μ.2.2.2.2[i]? = some (pc, .putfield index, 3)) (hf : zFL μ.1.cls index ci j) (hnf : zNF ci j) (ht : zty ci j = .long) (ho : zO h a ci) (k : zGo G μ d b (pc + 3) lv st (zsL h a j x) P) : zGo G μ d b pc lv (.long x :: .ref a :: st) h P := by
  refine z_put i hi hf hnf ho (by rw [ht]; rfl) (by rw [ht]; rfl) (zn_sL ..) (zx_sL ..) (zs_sL ..) (zK_sL ..) (by rw [zfv_long ht, zL_sL, zup_s]; rfl) (fun j' hj' => ?_) (fun k' hk' => zcell_sL_ne hk') k
  simp only [zfv, zI_sL, zR_sL, zL_sL, zup_i _ _ _ hj']
theorem z_putR (i : Nat) {index ci j a r : Nat} (hi : μ.2.2.2.2[i]? = some (pc, .putfield index, 3)) (hf : zFL μ.1.cls index ci j) (hnf : zNF ci j) (ht : zrefT (zty ci j) = true) (ho : zO h a ci) (k : zGo G μ d b (pc + 3) lv st (zsR h a j (some r)) P) : zGo G μ d b pc lv (.ref r :: .ref a :: st) h P := by
  refine z_put i hi hf hnf ho (by revert ht; cases zty ci j <;> simp [zrefT] <;> rfl) (by revert ht; cases zty ci j <;> simp [zrefT] <;> rfl) (zn_sR ..) (zx_sR ..) (zs_sR ..) (zK_sR ..) (by rw [zfv_ref ht, zR_sR, zup_s]; rfl) (fun j' hj' => ?_) (fun k' hk' => zcell_sR_ne hk') k
  simp only [zfv, zI_sR, zL_sR, zR_sR, zup_i _ _ _ hj']
-- arrays: reads
theorem z_iald (i : Nat) {a : Nat} {x : Int32} (hi : μ.2.2.2.2[i]? = some (pc, .iaload, 1)) (ho : zO h a 100) (hx : vp_in x (zLen h a)) (k : zGo G μ d b (pc + 1) lv (.int (zI h a x.toNatClampNeg) :: st) h P) : zGo G μ d b pc lv (.int x :: .ref a :: st) h P := by
  intro p l e R s m args below meth c C H locs ls hR hl h1 h2
  exact va_iald C.1 C.2.1 C.2.2.2.2.2.2.2.1.1 hR.1 a 0 (by rw [zw_at ho.1, zcell_i ho.2]) rfl hx (zdg C hi) (k p l e R s m args below meth c C H locs ls hR hl h1 h2)
theorem z_bald (i : Nat) {a : Nat} {x : Int32} (hi : μ.2.2.2.2[i]? = some (pc, .baload, 1)) (ho : zO h a 102) (hx : vp_in x (zLen h a)) (k : zGo G μ d b (pc + 1) lv (.int (zI h a x.toNatClampNeg) :: st) h P) : zGo G μ d b pc lv (.int x :: .ref a :: st) h P := by
  intro p l e R s m args below meth c C H locs ls hR hl h1 h2
  exact va_bald C.1 C.2.1 C.2.2.2.2.2.2.2.1.1 hR.1 a 2 (by rw [zw_at ho.1, zcell_b ho.2]) rfl hx (zdg C hi) (k p l e R s m args below meth c C H locs ls hR hl h1 h2)
theorem z_zald (i : Nat) {a : Nat} {x : Int32} (hi : μ.2.2.2.2[i]? = some (pc, .baload, 1)) (ho : zO h a 103) (hx : vp_in x (zLen h a)) (k : zGo G μ d b (pc + 1) lv (.int (zI h a x.toNatClampNeg) :: st) h P) : zGo G μ d b pc lv (.int x :: .ref a :: st) h P := by
  intro p l e R s m args below meth c C H locs ls hR hl h1 h2
  exact va_zald C.1 C.2.1 C.2.2.2.2.2.2.2.1.1 hR.1 a 3 (by rw [zw_at ho.1, zcell_z ho.2]) rfl hx (zdg C hi) (k p l e R s m args below meth c C H locs ls hR hl h1 h2)
theorem z_lald (i : Nat) {a : Nat} {x : Int32} (hi : μ.2.2.2.2[i]? = some (pc, .laload, 1)) (ho : zO h a 101) (hx : vp_in x (zLen h a)) (k : zGo G μ d b (pc + 1) lv (.long (zL h a x.toNatClampNeg) :: st) h P) : zGo G μ d b pc lv (.int x :: .ref a :: st) h P := by
  intro p l e R s m args below meth c C H locs ls hR hl h1 h2
  exact va_lald C.1 C.2.1 C.2.2.2.2.2.2.2.1.1 hR.1 a 1 (by rw [zw_at ho.1, zcell_l ho.2]) rfl hx (zdg C hi) (k p l e R s m args below meth c C H locs ls hR hl h1 h2)
theorem z_aald (i : Nat) {a r : Nat} {x : Int32} (hi : μ.2.2.2.2[i]? = some (pc, .aaload, 1)) (ho : zO h a 104) (hx : vp_in x (zLen h a)) (hr : zR h a x.toNatClampNeg = some r) (k : zGo G μ d b (pc + 1) lv (.ref r :: st) h P) : zGo G μ d b pc lv (.int x :: .ref a :: st) h P := by
  intro p l e R s m args below meth c C H locs ls hR hl h1 h2
  have hc := hR.1 a _ (zw_at ho.1)
  rw [zcell_q ho.2] at hc
  have hc : H[zad G a]? = some (arrV (gA G 4) (zLen h a) (fun j => va_rf ((zR h a j).map (zad G)))) := hc
  have hlt : x.toNatClampNeg < zLen h a := Nat.not_le.mp fun q => hx (Or.inr q)
  exact W.aald (v := .ref (zad G r)) (ty := .array .int) C.1 C.2.1 hc ((C.2.2.2.2.2.2.2.1.1.2 4 _ rfl).1 _ _) rfl (fun q => by cases q) (by rw [arrV_size]; exact hx) (by rw [arrV_read _ _ hlt, hr]; rfl) rfl rfl (zdg C hi) (k p l e R s m args below meth c C H locs ls hR hl h1 h2)
theorem z_alen (i : Nat) {a ka : Nat} (hi : μ.2.2.2.2[i]? = some (pc, .arraylength, 1)) (ho : zO h a ka) (hk : ka = 100 ∨ ka = 101 ∨ ka = 102 ∨ ka = 103 ∨ ka = 104) (k : zGo G μ d b (pc + 1) lv (.int (nI (zLen h a)) :: st) h P) : zGo G μ d b pc lv (.ref a :: st) h P := by
  intro p l e R s m args below meth c C H locs ls hR hl h1 h2
  rcases hk with rfl | rfl | rfl | rfl | rfl
  · exact va_alen (x := (zLen h a, .inl (zI h a))) C.1 C.2.1 C.2.2.2.2.2.2.2.1.1 hR.1 a 0 (by rw [zw_at ho.1, zcell_i ho.2]) rfl rfl (zdg C hi) (k p l e R s m args below meth c C H locs ls hR hl h1 h2)
  · exact va_alen (x := (zLen h a, .inr (.inl (zL h a)))) C.1 C.2.1 C.2.2.2.2.2.2.2.1.1 hR.1 a 1 (by rw [zw_at ho.1, zcell_l ho.2]) rfl rfl (zdg C hi) (k p l e R s m args below meth c C H locs ls hR hl h1 h2)
  · exact va_alen (x := (zLen h a, .inl (zI h a))) C.1 C.2.1 C.2.2.2.2.2.2.2.1.1 hR.1 a 2 (by rw [zw_at ho.1, zcell_b ho.2]) rfl rfl (zdg C hi) (k p l e R s m args below meth c C H locs ls hR hl h1 h2)
  · exact va_alen (x := (zLen h a, .inl (zI h a))) C.1 C.2.1 C.2.2.2.2.2.2.2.1.1 hR.1 a 3 (by rw [zw_at ho.1, zcell_z ho.2]) rfl rfl (zdg C hi) (k p l e R s m args below meth c C H locs ls hR hl h1 h2)
  · exact va_alen (x := (zLen h a, .inr (.inr (.inr (.inr (fun j => (zR h a j).map (zad G))))))) C.1 C.2.1 C.2.2.2.2.2.2.2.1.1 hR.1 a 4 (by rw [zw_at ho.1, zcell_q ho.2]) rfl rfl (zdg C hi) (k p l e R s m args below meth c C H locs ls hR hl h1 h2)
end ZB4
theorem zup_upd (f : Nat → Nat → Int32) (a i : Nat) (v : Int32) : zup f a i v a = upd (f a) i v := funext fun j => by simp [zup, upd]
theorem zup_updL (f : Nat → Nat → Int64) (a i : Nat) (v : Int64) : zup f a i v a = vp_updL (f a) i v := funext fun j => by simp [zup, vp_updL]
section ZB5
variable {G : zG} {μ : zM} {d : Nat} {b : zB} {pc : Nat} {lv st : List Value} {h : zMem} {P : Option Value → zMem → Prop}
theorem z_iast (i : Nat) {a : Nat} {x : Int32} {v : Int32} (hi : μ.2.2.2.2[i]? = some (pc, .iastore, 1)) (ho : zO h a 100) (hx : vp_in x (zLen h a)) (k : zGo G μ d b (pc + 1) lv st (zsI h a x.toNatClampNeg v) P) : zGo G μ d b pc lv (.int v :: .int x :: .ref a :: st) h P := by
  intro p l e R s m args below meth c C H locs ls hR hl h1 h2
  have he : (zw G h)[a]? = some (zad G a, .inl (gA G 0, zLen h a, .inl (zI h a))) := by rw [zw_at ho.1, zcell_i ho.2]
  have hD := zw_D (G := G) (h := h) hR.2.2.2
  refine W.iast C.1 C.2.1 (hR.1 a _ he) ((C.2.2.2.2.2.2.2.1.1.2 0 _ rfl).1 (zLen h a) (fun j => .int (zI h a j))) (fun q => by cases q) (by show ¬ (x < 0 ∨ (arrV _ _ _).slots.size ≤ _); rw [arrV_size]; exact hx) rfl rfl (zdg C hi) fun H1 e1 z oq => ?_
  have hP1 := hR.1.set hD he (e := zcell G (zsI h a x.toNatClampNeg v) a) (by
    rw [zcell_i (by exact ho.2)]
    show H1[zad G a]? = some (vp_cell _ _)
    rw [e1]
    dsimp only
    rw [vp_cell_i, vp_cell_i, arrV_store]
    congr 2
    funext q
    by_cases hq : q = x.toNatClampNeg
    · subst hq
      simp [updV, zI_sI, zup]
      try rfl
    · simp [updV, zI_sI, zup, hq]) oq
  exact k p l e R s m args below meth c C H1 _ ls (hR.set ho.1 rfl rfl rfl (fun j hj => zcell_sI_ne hj) z hP1 (hR.2.1.put z oq (hD.2 a _ he))) hl h1 h2
theorem z_bast (i : Nat) {a : Nat} {x : Int32} {v : Int32} (hi : μ.2.2.2.2[i]? = some (pc, .bastore, 1)) (ho : zO h a 102) (hx : vp_in x (zLen h a)) (k : zGo G μ d b (pc + 1) lv st (zsI h a x.toNatClampNeg (vp_nar .byte v)) P) : zGo G μ d b pc lv (.int v :: .int x :: .ref a :: st) h P := by
  intro p l e R s m args below meth c C H locs ls hR hl h1 h2
  have he : (zw G h)[a]? = some (zad G a, .inl (gA G 2, zLen h a, .inl (zI h a))) := by rw [zw_at ho.1, zcell_b ho.2]
  have hD := zw_D (G := G) (h := h) hR.2.2.2
  refine W.bast C.1 C.2.1 (hR.1 a _ he) ((C.2.2.2.2.2.2.2.1.1.2 2 _ rfl).1 (zLen h a) (fun j => .int (zI h a j))) (fun q => by cases q) (by show ¬ (x < 0 ∨ (arrV _ _ _).slots.size ≤ _); rw [arrV_size]; exact hx) rfl rfl (zdg C hi) fun H1 e1 z oq => ?_
  have hP1 := hR.1.set hD he (e := zcell G (zsI h a x.toNatClampNeg (vp_nar .byte v)) a) (by
    rw [zcell_b (by exact ho.2)]
    show H1[zad G a]? = some (vp_cell _ _)
    rw [e1]
    dsimp only
    rw [vp_cell_i, vp_cell_i, arrV_store]
    congr 2
    funext q
    by_cases hq : q = x.toNatClampNeg
    · subst hq
      simp [updV, zI_sI, zup, vp_nar]
      try rfl
    · simp [updV, zI_sI, zup, hq]) oq
  exact k p l e R s m args below meth c C H1 _ ls (hR.set ho.1 rfl rfl rfl (fun j hj => zcell_sI_ne hj) z hP1 (hR.2.1.put z oq (hD.2 a _ he))) hl h1 h2
theorem z_zast (i : Nat) {a : Nat} {x : Int32} {v : Int32} (hi : μ.2.2.2.2[i]? = some (pc, .bastore, 1)) (ho : zO h a 103) (hx : vp_in x (zLen h a)) (k : zGo G μ d b (pc + 1) lv st (zsI h a x.toNatClampNeg (vp_nar .boolean v)) P) : zGo G μ d b pc lv (.int v :: .int x :: .ref a :: st) h P := by
  intro p l e R s m args below meth c C H locs ls hR hl h1 h2
  have he : (zw G h)[a]? = some (zad G a, .inl (gA G 3, zLen h a, .inl (zI h a))) := by rw [zw_at ho.1, zcell_z ho.2]
  have hD := zw_D (G := G) (h := h) hR.2.2.2
  refine W.zast C.1 C.2.1 (hR.1 a _ he) ((C.2.2.2.2.2.2.2.1.1.2 3 _ rfl).1 (zLen h a) (fun j => .int (zI h a j))) (fun q => by cases q) (by show ¬ (x < 0 ∨ (arrV _ _ _).slots.size ≤ _); rw [arrV_size]; exact hx) rfl rfl (zdg C hi) fun H1 e1 z oq => ?_
  have hP1 := hR.1.set hD he (e := zcell G (zsI h a x.toNatClampNeg (vp_nar .boolean v)) a) (by
    rw [zcell_z (by exact ho.2)]
    show H1[zad G a]? = some (vp_cell _ _)
    rw [e1]
    dsimp only
    rw [vp_cell_i, vp_cell_i, arrV_store]
    congr 2
    funext q
    by_cases hq : q = x.toNatClampNeg
    · subst hq
      simp [updV, zI_sI, zup, vp_nar]
      try rfl
    · simp [updV, zI_sI, zup, hq]) oq
  exact k p l e R s m args below meth c C H1 _ ls (hR.set ho.1 rfl rfl rfl (fun j hj => zcell_sI_ne hj) z hP1 (hR.2.1.put z oq (hD.2 a _ he))) hl h1 h2
theorem z_last (i : Nat) {a : Nat} {x : Int32} {v : Int64} (hi : μ.2.2.2.2[i]? = some (pc, .lastore, 1)) (ho : zO h a 101) (hx : vp_in x (zLen h a)) (k : zGo G μ d b (pc + 1) lv st (zsL h a x.toNatClampNeg v) P) : zGo G μ d b pc lv (.long v :: .int x :: .ref a :: st) h P := by
  intro p l e R s m args below meth c C H locs ls hR hl h1 h2
  have he : (zw G h)[a]? = some (zad G a, .inl (gA G 1, zLen h a, .inr (.inl (zL h a)))) := by rw [zw_at ho.1, zcell_l ho.2]
  have hD := zw_D (G := G) (h := h) hR.2.2.2
  refine W.last C.1 C.2.1 (hR.1 a _ he) ((C.2.2.2.2.2.2.2.1.1.2 1 _ rfl).1 (zLen h a) (fun j => .long (zL h a j))) (fun q => by cases q) (by show ¬ (x < 0 ∨ (arrV _ _ _).slots.size ≤ _); rw [arrV_size]; exact hx) rfl rfl (zdg C hi) fun H1 e1 z oq => ?_
  have hP1 := hR.1.set hD he (e := zcell G (zsL h a x.toNatClampNeg v) a) (by
    rw [zcell_l (by exact ho.2)]
    show H1[zad G a]? = some (vp_cell _ _)
    rw [e1]
    dsimp only
    rw [vp_cell_l, vp_cell_l, arrV_store]
    congr 2
    funext q
    by_cases hq : q = x.toNatClampNeg
    · subst hq
      simp [updV, zL_sL, zup]
      try rfl
    · simp [updV, zL_sL, zup, hq]) oq
  exact k p l e R s m args below meth c C H1 _ ls (hR.set ho.1 rfl rfl rfl (fun j hj => zcell_sL_ne hj) z hP1 (hR.2.1.put z oq (hD.2 a _ he))) hl h1 h2
/-- how many cells and slots a method has made at its end -/
def zcnt (b : zB) (h : zMem) : Prop := zn h + zx h = b.1 + b.2.2.1 ∧ zs h = b.2.1 + b.2.2.2
theorem z_iret (i : Nat) {ty : FieldType} {v : Int32} (hi : μ.2.2.2.2[i]? = some (pc, .ireturn, 1)) (hr : μ.2.2.2.1 = some ty) (hn : narrow ty (.int v) = .int v) (hc : zcnt b h) (hp : P (some (.int v)) h) : zGo G μ d b pc lv [.int v] h P := by
  intro p l e R s m args below meth c C H locs ls hR hl h1 h2
  rw [show zn h + zx h - b.1 = b.2.2.1 by have := hc.1; omega, show zs h - b.2.1 = b.2.2.2 by have := hc.2; omega]
  exact W.zret C.1 C.2.1 (C.2.2.2.1.trans hr) hn (fun t ht _ => ⟨some (.int v), h, rfl, hp, by rw [ht]; exact hR.nil, hc.1, hc.2⟩) hR.2.1.2.2 (zdg C hi) C.2.2.2.2.1
theorem z_lret (i : Nat) {v : Int64} (hi : μ.2.2.2.2[i]? = some (pc, .lreturn, 1)) (hr : μ.2.2.2.1 = some .long) (hc : zcnt b h) (hp : P (some (.long v)) h) : zGo G μ d b pc lv [.long v] h P := by
  intro p l e R s m args below meth c C H locs ls hR hl h1 h2
  rw [show zn h + zx h - b.1 = b.2.2.1 by have := hc.1; omega, show zs h - b.2.1 = b.2.2.2 by have := hc.2; omega]
  exact W.lret C.1 C.2.1 (C.2.2.2.1.trans hr) (fun t ht _ => ⟨some (.long v), h, rfl, hp, by rw [ht]; exact hR.nil, hc.1, hc.2⟩) hR.2.1.2.2 (zdg C hi) C.2.2.2.2.1
theorem z_vret (i : Nat) (hi : μ.2.2.2.2[i]? = some (pc, .return_, 1)) (hr : μ.2.2.2.1 = none) (hc : zcnt b h) (hp : P none h) : zGo G μ d b pc lv [] h P := by
  intro p l e R s m args below meth c C H locs ls hR hl h1 h2
  rw [show zn h + zx h - b.1 = b.2.2.1 by have := hc.1; omega, show zs h - b.2.1 = b.2.2.2 by have := hc.2; omega]
  exact W.vret C.1 C.2.1 (C.2.2.2.1.trans hr) (fun t ht _ => ⟨none, h, rfl, hp, by rw [ht]; exact hR.nil, hc.1, hc.2⟩) hR.2.1.2.2 (zdg C hi) C.2.2.2.2.1
theorem z_aret (i : Nat) {a : Nat} {ty : FieldType} (hi : μ.2.2.2.2[i]? = some (pc, .areturn, 1)) (hr : μ.2.2.2.1 = some ty) (ht : (∃ n, ty = .object n) ∨ ∃ t, ty = .array t) (hc : zcnt b h) (hp : P (some (.ref a)) h) : zGo G μ d b pc lv [.ref a] h P := by
  intro p l e R s m args below meth c C H locs ls hR hl h1 h2
  rw [show zn h + zx h - b.1 = b.2.2.1 by have := hc.1; omega, show zs h - b.2.1 = b.2.2.2 by have := hc.2; omega]
  exact W.aret C.1 C.2.1 (C.2.2.2.1.trans hr) ht (Or.inr ⟨_, rfl⟩) (fun t ht _ => ⟨some (.ref a), h, rfl, hp, by rw [ht]; exact hR.nil, hc.1, hc.2⟩) hR.2.1.2.2 (zdg C hi) C.2.2.2.2.1
end ZB5
/-! calls -/
/-- what a call needs of the method called -/
def zMF (ν : zM) (n : Nat) : Prop := Cond.code ν.1 ν.2.1 ν.2.2.1 ν.2.2.2.1 ∈ ztb ∧ Cond.initialized ν.1.cls ∈ ztb ∧ (ν.1.cls ≠ "java/lang/invoke/MethodHandle" ∧ ν.1.cls ≠ "java/lang/invoke/VarHandle" ∧ (parseMethodDescriptor ν.1.desc).map (fun d => d.parameters.length) = some n) ∧ ν.2.2.1 ≤ 45
theorem ztb_GoodIn {w : Cond} (hw : w ∈ ztb) : GoodIn ztb (w :: ztb) := fun v hv => by
  have h1 : v ∈ ztb := by
    rcases List.mem_cons.mp hv with h | h
    · rw [h]; exact hw
    · exact h
  exact ⟨h1, good_of_word (ztb_good v h1)⟩
theorem zsum_cat (G : zG) (st : List Value) : ((st.map (zrv G)).map fun v => v.category).sum = (st.map fun v => v.category).sum := by
  rw [List.map_map]
  congr 1
  apply List.map_congr_left
  intro v _
  exact zrv_cat G v
section ZB6
variable {G : zG} {μ : zM} {d : Nat} {b : zB} {pc : Nat} {lv st : List Value} {h : zMem} {P : Option Value → zMem → Prop}
/-- behind a call -/
theorem z_run {ν : zM} {bc bs : Nat} {Q : Option Value → zMem → Prop} {aa : Array Value} {st0 : List Value} {p : Program} {l : Launch} {e : Env} {R : Room} {s : State} {m : MethodId} {args : Array Value} {below : List Frame} {meth : Method} {c : Code} (C : zCtx G μ d b p R s m args meth c) {H : Heap} {locs : List Loc} {ls : Array Slot} (hR : zRep G h H locs) (hl : zLv G ls μ.2.2.1 lv) (h1 : b.1 ≤ zn h + zx h) (h2 : b.2.1 ≤ zs h)
    (hr : va_Run p l e R s m args below meth c H locs (zn h + zx h - b.1) (zs h - b.2.1) bc bs (F0 m pc ls st0) (st.map (zrv G)) (zQ G (zn h + zx h, zs h, bc, bs) Q aa) (zA G))
    (k : ∀ r h', Q r h' → zn h' + zx h' = zn h + zx h + bc → zs h' = zs h + bs → zGo G μ d b (pc + 3) lv (r.toList ++ st) h' P) :
    W p l e R s m args below meth c H locs (zn h + zx h - b.1) (zs h - b.2.1) (MQ below (zQ G b P) args s b.2.2.1 b.2.2.2 (zA G)) (F0 m pc ls st0) := by
  intro T hT X
  obtain ⟨v, st₀, t, T', L, g0, X', hL, e1, e2, ⟨r, h', hv, hq, hRep, c1, c2⟩, st1⟩ := hr T hT X
  cases hv
  have c1 : zn h' + zx h' = zn h + zx h + bc := c1
  have c2 : zs h' = zs h + bs := c2
  have kk := k r h' hq c1 c2 p l e R s m args below meth c C T'.heap (locs ++ L) ls (by
    rw [e1]
    refine ⟨hRep.1, ⟨hRep.2.1.1, hRep.2.1.2.1, fun q hq => ?_⟩, hRep.2.2⟩
    rcases List.mem_append.mp hq with hq | hq
    · exact hR.2.1.2.2 q hq
    · exact hL q hq) hl (by omega) (by omega)
  rw [show zn h' + zx h' - b.1 = zn h + zx h - b.1 + bc by omega, show zs h' - b.2.1 = zs h - b.2.1 + bs by omega] at kk
  obtain ⟨t2, a1, b1⟩ := kk T' rfl X'
  refine ⟨t2, st1 t2 ?_, b1⟩
  have hst : (r.map (zrv G)).toList ++ st.map (zrv G) = (r.toList ++ st).map (zrv G) := by cases r <;> rfl
  show Steps p.tables e below (T'.setTop { F0 m pc ls st0 with pc := pc + 3, stack := (r.map (zrv G)).toList ++ st.map (zrv G) }) t2
  rw [hst]
  exact a1
theorem zPc_blind {as : List Value} : FrameBlind (fun a U => a = (as.map (zrv G)).toArray ∧ zRep G h U.heap [] ∧ zKK G U) := fun a U g mk q => ⟨q.1, q.2.1, q.2.2.calling⟩
theorem z_callV (i n : Nat) (as : List Value) {index : Nat} {ν : zM} {d' bc bs a ci : Nat} {Q : Option Value → zMem → Prop} (hi : μ.2.2.2.2[i]? = some (pc, .invokevirtual index, 3)) (hν : zMF ν n) (hlk : Cond.methodLink μ.1.cls index ν.1 ∈ ztb ∧ Cond.instanceMethod ν.1 ∈ ztb ∧ Cond.selects ν.1.cls ν.1 ν.1 ∈ ztb) (ho : zO h a ci) (hcl : ∃ q, zcl[ci]? = some q ∧ q.1 = ν.1.cls) (hci : ci < 100) (hn : as.length = n) (hw : (st.map fun v => v.category).sum ≤ 8) (hd : d' + 1 ≤ d) (hb : zn h + zx h + bc ≤ b.1 + b.2.2.1 ∧ zs h + bs ≤ b.2.1 + b.2.2.2) (K : zCon G ν d' bc bs (.ref a :: as) h Q)
    (k : ∀ r h', Q r h' → zn h' + zx h' = zn h + zx h + bc → zs h' = zs h + bs → zGo G μ d b (pc + 3) lv (r.toList ++ st) h' P) : zGo G μ d b pc lv (as.reverse ++ .ref a :: st) h P := by
  intro p l e R s m args below meth c C H locs ls hR hl h1 h2
  obtain ⟨q, hq1, hq2⟩ := hcl
  have hrm := C.2.2.2.2.2.2.2.2.2.2
  have hts := C.2.2.2.2.2.2.1
  have he : (zw G h)[a]? = some (zad G a, .inr (ci, zfs G h a ci)) := by rw [zw_at ho.1, zcell_o ho.2 hci]
  refine z_run (ν := ν) C hR hl h1 h2 (va_runV (As := as.map (zrv G)) (b := zad G a) (n := n) ⟨C.1, C.2.1, C.2.2.1, C.2.2.2.2.2.1, hts⟩ (K l) ⟨callB_of n hts (ztb_GoodIn hν.1) rfl rfl rfl (hts _ hν.2.1) (hts _ hlk.1) hν.2.2.1 ?_, hts _ hlk.2.1, hts _ hlk.2.2⟩ ⟨zPc_blind, ?_, fun U hU hW => ⟨rfl, by rw [hU]; exact hR.nil, zKK.warm hW C.2.2.2.2.2.2.2.1⟩⟩ rfl (by rw [List.length_map]; exact hn) hl.1 ?_ (lv_room (by rw [zsum_cat]; exact hw)) (zdg C hi) ?_) k
  · rw [hrm]
    have := hν.2.2.2
    exact ⟨hd, by show 8 + (ν.2.2.1 + 11) + 64 * d' ≤ 64 * d; omega⟩
  · obtain ⟨cell, g1, g2, g3⟩ := va_recv C.2.2.2.2.2.2.2.1.1 hR.1 hq1 he
    exact ⟨cell, g1, g2, by rw [← hq2]; exact g3⟩
  · simp [zrv]
  · rw [hrm]
    show zn h + zx h - b.1 + bc ≤ b.2.2.1 ∧ zs h - b.2.1 + bs ≤ b.2.2.2
    omega
theorem z_callS (i n : Nat) (as : List Value) {index : Nat} {ν : zM} {d' bc bs : Nat} {Q : Option Value → zMem → Prop} (hi : μ.2.2.2.2[i]? = some (pc, .invokestatic index, 3)) (hν : zMF ν n) (hlk : Cond.methodLink μ.1.cls index ν.1 ∈ ztb ∧ Cond.static ν.1 ∈ ztb) (hn : as.length = n) (hw : (st.map fun v => v.category).sum ≤ 8) (hd : d' + 1 ≤ d) (hb : zn h + zx h + bc ≤ b.1 + b.2.2.1 ∧ zs h + bs ≤ b.2.1 + b.2.2.2) (K : zCon G ν d' bc bs as h Q)
    (k : ∀ r h', Q r h' → zn h' + zx h' = zn h + zx h + bc → zs h' = zs h + bs → zGo G μ d b (pc + 3) lv (r.toList ++ st) h' P) : zGo G μ d b pc lv (as.reverse ++ st) h P := by
  intro p l e R s m args below meth c C H locs ls hR hl h1 h2
  have hrm := C.2.2.2.2.2.2.2.2.2.2
  have hts := C.2.2.2.2.2.2.1
  refine z_run (ν := ν) C hR hl h1 h2 (va_runS (As := as.map (zrv G)) (n := n) ⟨C.1, C.2.1, C.2.2.1, C.2.2.2.2.2.1, hts⟩ (K l) ⟨callB_of n hts (ztb_GoodIn hν.1) rfl rfl rfl (hts _ hν.2.1) (hts _ hlk.1) hν.2.2.1 ?_, hts _ hlk.2⟩ ⟨zPc_blind, fun U hU hW => ⟨rfl, by rw [hU]; exact hR.nil, zKK.warm hW C.2.2.2.2.2.2.2.1⟩⟩ rfl (by rw [List.length_map]; exact hn) hl.1 ?_ (lv_room (by rw [zsum_cat]; exact hw)) (zdg C hi) ?_) k
  · rw [hrm]
    have := hν.2.2.2
    exact ⟨hd, by show 8 + (ν.2.2.1 + 11) + 64 * d' ≤ 64 * d; omega⟩
  · simp
  · rw [hrm]
    show zn h + zx h - b.1 + bc ≤ b.2.2.1 ∧ zs h - b.2.1 + bs ≤ b.2.2.2
    omega
end ZB6
/-- the locals at a method's entry -/
def zent : Nat → List Value → List Value
  | n, [] => List.replicate n zU
  | n, .long v :: r => .long v :: zU :: zent (n - 2) r
  | n, v :: r => v :: zent (n - 1) r
def zcat1 (v : Value) : Bool := match v with
  | .long _ => true
  | .double _ => false
  | _ => true
theorem zent_args (G : zG) : ∀ (as : List Value) (n o : Nat) (i : Nat) (v : Value), (∀ a ∈ as, zcat1 a = true) → (zent n as)[i]? = some v → zisU v = false → (o + i, zrv G v) ∈ lv_args o (as.map (zrv G)) := by
  intro as
  induction as with
  | nil =>
    intro n o i v _ hi hu
    simp only [zent] at hi
    have := List.mem_of_getElem? hi
    rw [List.mem_replicate] at this
    rw [this.2] at hu
    cases hu
  | cons a r ih =>
    intro n o i v hc hi hu
    have hr : ∀ a ∈ r, zcat1 a = true := fun x hx => hc x (List.mem_cons_of_mem _ hx)
    have ha := hc a List.mem_cons_self
    have one : a.category = 1 → zent n (a :: r) = a :: zent (n - 1) r → (o + i, zrv G v) ∈ lv_args o ((a :: r).map (zrv G)) := by
      intro h1 h2
      rw [h2] at hi
      show _ ∈ (o, zrv G a) :: lv_args (if (zrv G a).category = 2 then o + 2 else o + 1) (r.map (zrv G))
      rw [zrv_cat, h1, if_neg (by decide)]
      cases i with
      | zero =>
        simp only [List.getElem?_cons_zero, Option.some.injEq] at hi
        subst hi
        exact List.mem_cons_self
      | succ i =>
        rw [List.getElem?_cons_succ] at hi
        have := ih (n - 1) (o + 1) i v hr hi hu
        rw [show o + 1 + i = o + (i + 1) by omega] at this
        exact List.mem_cons_of_mem _ this
    cases a with
    | long x =>
      simp only [zent] at hi
      show _ ∈ (o, zrv G (.long x)) :: lv_args (o + 2) (r.map (zrv G))
      match i, hi with
      | 0, hi =>
        simp only [List.getElem?_cons_zero, Option.some.injEq] at hi
        subst hi
        exact List.mem_cons_self
      | 1, hi =>
        simp only [List.getElem?_cons_succ, List.getElem?_cons_zero, Option.some.injEq] at hi
        subst hi
        cases hu
      | i + 2, hi =>
        simp only [List.getElem?_cons_succ] at hi
        have := ih (n - 2) (o + 2) i v hr hi hu
        rw [show o + 2 + i = o + (i + 2) by omega] at this
        exact List.mem_cons_of_mem _ this
    | double x => cases ha
    | int x => exact one rfl rfl
    | float x => exact one rfl rfl
    | null => exact one rfl rfl
    | ref x => exact one rfl rfl
    | retAddr x => exact one rfl rfl
def zwid (as : List Value) : Nat := (as.map fun v => v.category).sum
theorem zwid_sl (G : zG) (as : List Value) : (lg_sl (as.map (zrv G))).length = zwid as := by
  induction as with
  | nil => rfl
  | cons a r ih =>
    have : lg_sl ((a :: r).map (zrv G)) = (if (zrv G a).category = 2 then [.val (zrv G a), .second] else [.val (zrv G a)]) ++ lg_sl (r.map (zrv G)) := by simp [lg_sl]
    rw [this, List.length_append, ih, zrv_cat]
    show _ = a.category + zwid r
    rcases lv_cat a with e | e
    · rw [e]; simp
    · rw [e]; simp
theorem zcon_intro {G : zG} {μ : zM} {d bc bs : Nat} {as : List Value} {h : zMem} {P : Option Value → zMem → Prop} (hy : plainName μ.1.cls = true) (hdec : zdec μ) (hw : zwid as ≤ μ.2.2.1) (hcat : ∀ a ∈ as, zcat1 a = true) (k : zGo G μ d (zn h + zx h, zs h, bc, bs) 0 (zent μ.2.2.1 as) [] h P) : zCon G μ d bc bs as h P := by
  intro l
  refine Met.ofW (cc := μ.2.1) (maxL := μ.2.2.1) (ret := μ.2.2.2.1) hy rfl ?_
  intro p e s m args below meth c s₁ B hml hv
  obtain ⟨rfl, hR, hKK⟩ := hv
  have hts := atoms_spec (ws := Cond.code μ.1 μ.2.1 μ.2.2.1 μ.2.2.2.1 :: ztb) B.pre
  have C : zCtx G μ d (zn h + zx h, zs h, bc, bs) p (zroom d bc bs) s m (as.map (zrv G)).toArray meth c := ⟨B.exec, B.bytes, hml, B.returns, B.notSynchronized, findClass_of_methodNamed B.named, fun w hw => hts w (List.mem_cons_of_mem _ hw), hKK, fun hi => (name_of_methodNamed B.named B.method).1.trans hi, hdec, rfl⟩
  have hl := lv_entry (as.map (zrv G)) (n := μ.2.2.1) (by rw [zwid_sl]; exact hw)
  rw [lg_entry_eq]
  generalize (lg_sl (as.map (zrv G)) ++ List.replicate (μ.2.2.1 - (lg_sl (as.map (zrv G))).length) Slot.unset).toArray = ls at hl ⊢
  have kk := k p l e (zroom d bc bs) s m (as.map (zrv G)).toArray below meth c C s.heap [] ls hR ⟨hl.1, hl.2.1, fun i v hi hu => by
    have := zent_args G as μ.2.2.1 0 i v hcat hi hu
    rw [Nat.zero_add] at this
    exact hl.2.2 _ this⟩ (Nat.le_refl _) (Nat.le_refl _)
  dsimp only at kk
  rw [Nat.sub_self, Nat.sub_self] at kk
  exact kk
end
