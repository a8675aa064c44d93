section
-- ===== PART A: goes FIRST, ahead of the names: the tables' words, and 'selects' of the private methods out of them =====
/-- a private method of a class that the tables say can be made, by its rows of tables_1 -/
def lw_okq (q : MethodName × Nat) : Prop := (q.1.cls ≠ "java/lang/invoke/MethodHandle" ∧ q.1.cls ≠ "java/lang/invoke/VarHandle") ∧ Cond.instantiable q.1.cls q.2 ∈ tables_1 ∧ Cond.privateMethod q.1 ∈ tables_1 ∧ Cond.instanceMethod q.1 ∈ tables_1
theorem lw_p0 : lw_okq (⟨"SmellAbbey", "tapeNumber", "(I)V"⟩, 14) := ⟨⟨by decide +kernel, by decide +kernel⟩, List.mem_of_getElem? (i := 24) (by decide +kernel), List.mem_of_getElem? (i := 457) (by decide +kernel), List.mem_of_getElem? (i := 458) (by decide +kernel)⟩
theorem lw_p1 : lw_okq (⟨"SmellAbbey$Scanner", "readWord", "()V"⟩, 8) := ⟨⟨by decide +kernel, by decide +kernel⟩, List.mem_of_getElem? (i := 38) (by decide +kernel), List.mem_of_getElem? (i := 491) (by decide +kernel), List.mem_of_getElem? (i := 492) (by decide +kernel)⟩
theorem lw_p2 : lw_okq (⟨"SmellAbbey$Scanner", "readNumber", "()V"⟩, 8) := ⟨⟨by decide +kernel, by decide +kernel⟩, List.mem_of_getElem? (i := 38) (by decide +kernel), List.mem_of_getElem? (i := 498) (by decide +kernel), List.mem_of_getElem? (i := 499) (by decide +kernel)⟩
theorem lw_p3 : lw_okq (⟨"SmellAbbey$Scanner", "signOf", "(I)I"⟩, 8) := ⟨⟨by decide +kernel, by decide +kernel⟩, List.mem_of_getElem? (i := 38) (by decide +kernel), List.mem_of_getElem? (i := 503) (by decide +kernel), List.mem_of_getElem? (i := 504) (by decide +kernel)⟩
theorem lw_p4 : lw_okq (⟨"SmellAbbey$Scanner", "takes", "(I)Z"⟩, 8) := ⟨⟨by decide +kernel, by decide +kernel⟩, List.mem_of_getElem? (i := 38) (by decide +kernel), List.mem_of_getElem? (i := 507) (by decide +kernel), List.mem_of_getElem? (i := 508) (by decide +kernel)⟩
theorem lw_p5 : lw_okq (⟨"SmellAbbey$Reader", "stuffLine", "()I"⟩, 9) := ⟨⟨by decide +kernel, by decide +kernel⟩, List.mem_of_getElem? (i := 32) (by decide +kernel), List.mem_of_getElem? (i := 519) (by decide +kernel), List.mem_of_getElem? (i := 520) (by decide +kernel)⟩
theorem lw_p6 : lw_okq (⟨"SmellAbbey$Reader", "newName", "(I)I"⟩, 9) := ⟨⟨by decide +kernel, by decide +kernel⟩, List.mem_of_getElem? (i := 32) (by decide +kernel), List.mem_of_getElem? (i := 523) (by decide +kernel), List.mem_of_getElem? (i := 524) (by decide +kernel)⟩
theorem lw_p7 : lw_okq (⟨"SmellAbbey$Reader", "wrong", "(I)I"⟩, 9) := ⟨⟨by decide +kernel, by decide +kernel⟩, List.mem_of_getElem? (i := 32) (by decide +kernel), List.mem_of_getElem? (i := 529) (by decide +kernel), List.mem_of_getElem? (i := 530) (by decide +kernel)⟩
theorem lw_p8 : lw_okq (⟨"SmellAbbey$Reader", "readNumber", "(II)I"⟩, 9) := ⟨⟨by decide +kernel, by decide +kernel⟩, List.mem_of_getElem? (i := 32) (by decide +kernel), List.mem_of_getElem? (i := 538) (by decide +kernel), List.mem_of_getElem? (i := 539) (by decide +kernel)⟩
theorem lw_p9 : lw_okq (⟨"SmellAbbey$Reader", "readStop", "()I"⟩, 9) := ⟨⟨by decide +kernel, by decide +kernel⟩, List.mem_of_getElem? (i := 32) (by decide +kernel), List.mem_of_getElem? (i := 542) (by decide +kernel), List.mem_of_getElem? (i := 543) (by decide +kernel)⟩
theorem lw_p10 : lw_okq (⟨"SmellAbbey$Reader", "dayLine", "()I"⟩, 9) := ⟨⟨by decide +kernel, by decide +kernel⟩, List.mem_of_getElem? (i := 32) (by decide +kernel), List.mem_of_getElem? (i := 546) (by decide +kernel), List.mem_of_getElem? (i := 547) (by decide +kernel)⟩
theorem lw_p11 : lw_okq (⟨"SmellAbbey$Reader", "mixLine", "()I"⟩, 9) := ⟨⟨by decide +kernel, by decide +kernel⟩, List.mem_of_getElem? (i := 32) (by decide +kernel), List.mem_of_getElem? (i := 550) (by decide +kernel), List.mem_of_getElem? (i := 551) (by decide +kernel)⟩
theorem lw_p12 : lw_okq (⟨"SmellAbbey$Reader", "toldName", "(I)I"⟩, 9) := ⟨⟨by decide +kernel, by decide +kernel⟩, List.mem_of_getElem? (i := 32) (by decide +kernel), List.mem_of_getElem? (i := 554) (by decide +kernel), List.mem_of_getElem? (i := 555) (by decide +kernel)⟩
theorem lw_p13 : lw_okq (⟨"SmellAbbey$Reader", "roomLine", "()I"⟩, 9) := ⟨⟨by decide +kernel, by decide +kernel⟩, List.mem_of_getElem? (i := 32) (by decide +kernel), List.mem_of_getElem? (i := 558) (by decide +kernel), List.mem_of_getElem? (i := 559) (by decide +kernel)⟩
theorem lw_p14 : lw_okq (⟨"SmellAbbey$Reader", "monkLine", "()I"⟩, 9) := ⟨⟨by decide +kernel, by decide +kernel⟩, List.mem_of_getElem? (i := 32) (by decide +kernel), List.mem_of_getElem? (i := 562) (by decide +kernel), List.mem_of_getElem? (i := 563) (by decide +kernel)⟩
theorem lw_p15 : lw_okq (⟨"SmellAbbey$Reader", "lingerLine", "()I"⟩, 9) := ⟨⟨by decide +kernel, by decide +kernel⟩, List.mem_of_getElem? (i := 32) (by decide +kernel), List.mem_of_getElem? (i := 566) (by decide +kernel), List.mem_of_getElem? (i := 567) (by decide +kernel)⟩
def lw_privs_1 : List (MethodName × Nat) := [(⟨"SmellAbbey", "tapeNumber", "(I)V"⟩, 14), (⟨"SmellAbbey$Scanner", "readWord", "()V"⟩, 8), (⟨"SmellAbbey$Scanner", "readNumber", "()V"⟩, 8), (⟨"SmellAbbey$Scanner", "signOf", "(I)I"⟩, 8), (⟨"SmellAbbey$Scanner", "takes", "(I)Z"⟩, 8), (⟨"SmellAbbey$Reader", "stuffLine", "()I"⟩, 9), (⟨"SmellAbbey$Reader", "newName", "(I)I"⟩, 9), (⟨"SmellAbbey$Reader", "wrong", "(I)I"⟩, 9), (⟨"SmellAbbey$Reader", "readNumber", "(II)I"⟩, 9), (⟨"SmellAbbey$Reader", "readStop", "()I"⟩, 9), (⟨"SmellAbbey$Reader", "dayLine", "()I"⟩, 9), (⟨"SmellAbbey$Reader", "mixLine", "()I"⟩, 9), (⟨"SmellAbbey$Reader", "toldName", "(I)I"⟩, 9), (⟨"SmellAbbey$Reader", "roomLine", "()I"⟩, 9), (⟨"SmellAbbey$Reader", "monkLine", "()I"⟩, 9), (⟨"SmellAbbey$Reader", "lingerLine", "()I"⟩, 9)]
theorem lw_r1 : ∀ q ∈ lw_privs_1, lw_okq q := List.forall_mem_cons.mpr ⟨lw_p0, List.forall_mem_cons.mpr ⟨lw_p1, List.forall_mem_cons.mpr ⟨lw_p2, List.forall_mem_cons.mpr ⟨lw_p3, List.forall_mem_cons.mpr ⟨lw_p4, List.forall_mem_cons.mpr ⟨lw_p5, List.forall_mem_cons.mpr ⟨lw_p6, List.forall_mem_cons.mpr ⟨lw_p7, List.forall_mem_cons.mpr ⟨lw_p8, List.forall_mem_cons.mpr ⟨lw_p9, List.forall_mem_cons.mpr ⟨lw_p10, List.forall_mem_cons.mpr ⟨lw_p11, List.forall_mem_cons.mpr ⟨lw_p12, List.forall_mem_cons.mpr ⟨lw_p13, List.forall_mem_cons.mpr ⟨lw_p14, List.forall_mem_cons.mpr ⟨lw_p15, fun _ h => absurd h List.not_mem_nil⟩⟩⟩⟩⟩⟩⟩⟩⟩⟩⟩⟩⟩⟩⟩⟩
theorem lw_p16 : lw_okq (⟨"SmellAbbey$Reader", "seedLine", "()I"⟩, 9) := ⟨⟨by decide +kernel, by decide +kernel⟩, List.mem_of_getElem? (i := 32) (by decide +kernel), List.mem_of_getElem? (i := 570) (by decide +kernel), List.mem_of_getElem? (i := 571) (by decide +kernel)⟩
theorem lw_p17 : lw_okq (⟨"SmellAbbey$Reader", "lawLine", "()I"⟩, 9) := ⟨⟨by decide +kernel, by decide +kernel⟩, List.mem_of_getElem? (i := 32) (by decide +kernel), List.mem_of_getElem? (i := 575) (by decide +kernel), List.mem_of_getElem? (i := 576) (by decide +kernel)⟩
theorem lw_p18 : lw_okq (⟨"SmellAbbey$Reader", "readFormula", "()I"⟩, 9) := ⟨⟨by decide +kernel, by decide +kernel⟩, List.mem_of_getElem? (i := 32) (by decide +kernel), List.mem_of_getElem? (i := 587) (by decide +kernel), List.mem_of_getElem? (i := 588) (by decide +kernel)⟩
theorem lw_p19 : lw_okq (⟨"SmellAbbey$Reader", "settle", "(I)V"⟩, 9) := ⟨⟨by decide +kernel, by decide +kernel⟩, List.mem_of_getElem? (i := 32) (by decide +kernel), List.mem_of_getElem? (i := 591) (by decide +kernel), List.mem_of_getElem? (i := 592) (by decide +kernel)⟩
theorem lw_p20 : lw_okq (⟨"SmellAbbey$Reader", "topStrength", "()I"⟩, 9) := ⟨⟨by decide +kernel, by decide +kernel⟩, List.mem_of_getElem? (i := 32) (by decide +kernel), List.mem_of_getElem? (i := 595) (by decide +kernel), List.mem_of_getElem? (i := 596) (by decide +kernel)⟩
theorem lw_p21 : lw_okq (⟨"SmellAbbey$Reader", "readValue", "()I"⟩, 9) := ⟨⟨by decide +kernel, by decide +kernel⟩, List.mem_of_getElem? (i := 32) (by decide +kernel), List.mem_of_getElem? (i := 603) (by decide +kernel), List.mem_of_getElem? (i := 604) (by decide +kernel)⟩
theorem lw_p22 : lw_okq (⟨"SmellAbbey$Reader", "putOff", "(I)I"⟩, 9) := ⟨⟨by decide +kernel, by decide +kernel⟩, List.mem_of_getElem? (i := 32) (by decide +kernel), List.mem_of_getElem? (i := 607) (by decide +kernel), List.mem_of_getElem? (i := 608) (by decide +kernel)⟩
theorem lw_p23 : lw_okq (⟨"SmellAbbey$Reader", "readSign", "()I"⟩, 9) := ⟨⟨by decide +kernel, by decide +kernel⟩, List.mem_of_getElem? (i := 32) (by decide +kernel), List.mem_of_getElem? (i := 618) (by decide +kernel), List.mem_of_getElem? (i := 619) (by decide +kernel)⟩
theorem lw_p24 : lw_okq (⟨"SmellAbbey", "has", "(II)Z"⟩, 14) := ⟨⟨by decide +kernel, by decide +kernel⟩, List.mem_of_getElem? (i := 24) (by decide +kernel), List.mem_of_getElem? (i := 651) (by decide +kernel), List.mem_of_getElem? (i := 652) (by decide +kernel)⟩
theorem lw_p25 : lw_okq (⟨"SmellAbbey", "keenNow", "(I)I"⟩, 14) := ⟨⟨by decide +kernel, by decide +kernel⟩, List.mem_of_getElem? (i := 24) (by decide +kernel), List.mem_of_getElem? (i := 706) (by decide +kernel), List.mem_of_getElem? (i := 707) (by decide +kernel)⟩
theorem lw_p26 : lw_okq (⟨"SmellAbbey$Undoing", "forgetOldest", "()V"⟩, 4) := ⟨⟨by decide +kernel, by decide +kernel⟩, List.mem_of_getElem? (i := 300) (by decide +kernel), List.mem_of_getElem? (i := 745) (by decide +kernel), List.mem_of_getElem? (i := 746) (by decide +kernel)⟩
theorem lw_p27 : lw_okq (⟨"SmellAbbey$State", "drift", "(LSmellAbbey$Told;)V"⟩, 15) := ⟨⟨by decide +kernel, by decide +kernel⟩, List.mem_of_getElem? (i := 320) (by decide +kernel), List.mem_of_getElem? (i := 778) (by decide +kernel), List.mem_of_getElem? (i := 779) (by decide +kernel)⟩
theorem lw_p28 : lw_okq (⟨"SmellAbbey$State", "smellAndThink", "(LSmellAbbey$Told;II)V"⟩, 15) := ⟨⟨by decide +kernel, by decide +kernel⟩, List.mem_of_getElem? (i := 320) (by decide +kernel), List.mem_of_getElem? (i := 784) (by decide +kernel), List.mem_of_getElem? (i := 785) (by decide +kernel)⟩
theorem lw_p29 : lw_okq (⟨"SmellAbbey$State", "vote", "(LSmellAbbey$Told;)V"⟩, 15) := ⟨⟨by decide +kernel, by decide +kernel⟩, List.mem_of_getElem? (i := 320) (by decide +kernel), List.mem_of_getElem? (i := 789) (by decide +kernel), List.mem_of_getElem? (i := 790) (by decide +kernel)⟩
theorem lw_p30 : lw_okq (⟨"SmellAbbey$State", "mostThought", "(LSmellAbbey$Told;I)I"⟩, 15) := ⟨⟨by decide +kernel, by decide +kernel⟩, List.mem_of_getElem? (i := 320) (by decide +kernel), List.mem_of_getElem? (i := 793) (by decide +kernel), List.mem_of_getElem? (i := 794) (by decide +kernel)⟩
theorem lw_p31 : lw_okq (⟨"SmellAbbey", "markDays", "(II)V"⟩, 14) := ⟨⟨by decide +kernel, by decide +kernel⟩, List.mem_of_getElem? (i := 24) (by decide +kernel), List.mem_of_getElem? (i := 801) (by decide +kernel), List.mem_of_getElem? (i := 802) (by decide +kernel)⟩
def lw_privs_2 : List (MethodName × Nat) := [(⟨"SmellAbbey$Reader", "seedLine", "()I"⟩, 9), (⟨"SmellAbbey$Reader", "lawLine", "()I"⟩, 9), (⟨"SmellAbbey$Reader", "readFormula", "()I"⟩, 9), (⟨"SmellAbbey$Reader", "settle", "(I)V"⟩, 9), (⟨"SmellAbbey$Reader", "topStrength", "()I"⟩, 9), (⟨"SmellAbbey$Reader", "readValue", "()I"⟩, 9), (⟨"SmellAbbey$Reader", "putOff", "(I)I"⟩, 9), (⟨"SmellAbbey$Reader", "readSign", "()I"⟩, 9), (⟨"SmellAbbey", "has", "(II)Z"⟩, 14), (⟨"SmellAbbey", "keenNow", "(I)I"⟩, 14), (⟨"SmellAbbey$Undoing", "forgetOldest", "()V"⟩, 4), (⟨"SmellAbbey$State", "drift", "(LSmellAbbey$Told;)V"⟩, 15), (⟨"SmellAbbey$State", "smellAndThink", "(LSmellAbbey$Told;II)V"⟩, 15), (⟨"SmellAbbey$State", "vote", "(LSmellAbbey$Told;)V"⟩, 15), (⟨"SmellAbbey$State", "mostThought", "(LSmellAbbey$Told;I)I"⟩, 15), (⟨"SmellAbbey", "markDays", "(II)V"⟩, 14)]
theorem lw_r2 : ∀ q ∈ lw_privs_2, lw_okq q := List.forall_mem_cons.mpr ⟨lw_p16, List.forall_mem_cons.mpr ⟨lw_p17, List.forall_mem_cons.mpr ⟨lw_p18, List.forall_mem_cons.mpr ⟨lw_p19, List.forall_mem_cons.mpr ⟨lw_p20, List.forall_mem_cons.mpr ⟨lw_p21, List.forall_mem_cons.mpr ⟨lw_p22, List.forall_mem_cons.mpr ⟨lw_p23, List.forall_mem_cons.mpr ⟨lw_p24, List.forall_mem_cons.mpr ⟨lw_p25, List.forall_mem_cons.mpr ⟨lw_p26, List.forall_mem_cons.mpr ⟨lw_p27, List.forall_mem_cons.mpr ⟨lw_p28, List.forall_mem_cons.mpr ⟨lw_p29, List.forall_mem_cons.mpr ⟨lw_p30, List.forall_mem_cons.mpr ⟨lw_p31, fun _ h => absurd h List.not_mem_nil⟩⟩⟩⟩⟩⟩⟩⟩⟩⟩⟩⟩⟩⟩⟩⟩
theorem lw_p32 : lw_okq (⟨"SmellAbbey", "alikePairs", "()I"⟩, 14) := ⟨⟨by decide +kernel, by decide +kernel⟩, List.mem_of_getElem? (i := 24) (by decide +kernel), List.mem_of_getElem? (i := 806) (by decide +kernel), List.mem_of_getElem? (i := 807) (by decide +kernel)⟩
theorem lw_p33 : lw_okq (⟨"SmellAbbey", "moreThatIsSmelled", "(IIII)I"⟩, 14) := ⟨⟨by decide +kernel, by decide +kernel⟩, List.mem_of_getElem? (i := 24) (by decide +kernel), List.mem_of_getElem? (i := 821) (by decide +kernel), List.mem_of_getElem? (i := 822) (by decide +kernel)⟩
theorem lw_p34 : lw_okq (⟨"SmellAbbey", "unlikeMarks", "()I"⟩, 14) := ⟨⟨by decide +kernel, by decide +kernel⟩, List.mem_of_getElem? (i := 24) (by decide +kernel), List.mem_of_getElem? (i := 829) (by decide +kernel), List.mem_of_getElem? (i := 830) (by decide +kernel)⟩
theorem lw_p35 : lw_okq (⟨"SmellAbbey", "markDaysInPlace", "(III)V"⟩, 14) := ⟨⟨by decide +kernel, by decide +kernel⟩, List.mem_of_getElem? (i := 24) (by decide +kernel), List.mem_of_getElem? (i := 862) (by decide +kernel), List.mem_of_getElem? (i := 863) (by decide +kernel)⟩
theorem lw_p36 : lw_okq (⟨"SmellAbbey", "canBurn", "(I)Z"⟩, 14) := ⟨⟨by decide +kernel, by decide +kernel⟩, List.mem_of_getElem? (i := 24) (by decide +kernel), List.mem_of_getElem? (i := 879) (by decide +kernel), List.mem_of_getElem? (i := 880) (by decide +kernel)⟩
theorem lw_p37 : lw_okq (⟨"SmellAbbey", "countFeastThinkers", "(I)V"⟩, 14) := ⟨⟨by decide +kernel, by decide +kernel⟩, List.mem_of_getElem? (i := 24) (by decide +kernel), List.mem_of_getElem? (i := 883) (by decide +kernel), List.mem_of_getElem? (i := 884) (by decide +kernel)⟩
theorem lw_p38 : lw_okq (⟨"SmellAbbey", "isRest", "(II)Z"⟩, 14) := ⟨⟨by decide +kernel, by decide +kernel⟩, List.mem_of_getElem? (i := 24) (by decide +kernel), List.mem_of_getElem? (i := 891) (by decide +kernel), List.mem_of_getElem? (i := 892) (by decide +kernel)⟩
theorem lw_p39 : lw_okq (⟨"SmellAbbey", "agreesWithNotes", "()Z"⟩, 14) := ⟨⟨by decide +kernel, by decide +kernel⟩, List.mem_of_getElem? (i := 24) (by decide +kernel), List.mem_of_getElem? (i := 931) (by decide +kernel), List.mem_of_getElem? (i := 932) (by decide +kernel)⟩
theorem lw_p40 : lw_okq (⟨"SmellAbbey$Notes", "counts", "(I)Z"⟩, 8) := ⟨⟨by decide +kernel, by decide +kernel⟩, List.mem_of_getElem? (i := 267) (by decide +kernel), List.mem_of_getElem? (i := 939) (by decide +kernel), List.mem_of_getElem? (i := 940) (by decide +kernel)⟩
theorem lw_p41 : lw_okq (⟨"SmellAbbey", "blowByChance", "()V"⟩, 14) := ⟨⟨by decide +kernel, by decide +kernel⟩, List.mem_of_getElem? (i := 24) (by decide +kernel), List.mem_of_getElem? (i := 956) (by decide +kernel), List.mem_of_getElem? (i := 957) (by decide +kernel)⟩
theorem lw_p42 : lw_okq (⟨"SmellAbbey", "changeTrial", "(II)V"⟩, 14) := ⟨⟨by decide +kernel, by decide +kernel⟩, List.mem_of_getElem? (i := 24) (by decide +kernel), List.mem_of_getElem? (i := 972) (by decide +kernel), List.mem_of_getElem? (i := 973) (by decide +kernel)⟩
theorem lw_p43 : lw_okq (⟨"SmellAbbey", "allStores", "()I"⟩, 14) := ⟨⟨by decide +kernel, by decide +kernel⟩, List.mem_of_getElem? (i := 24) (by decide +kernel), List.mem_of_getElem? (i := 998) (by decide +kernel), List.mem_of_getElem? (i := 999) (by decide +kernel)⟩
theorem lw_p44 : lw_okq (⟨"java/lang/Throwable", "fillInStackTrace", "(I)Ljava/lang/Throwable;"⟩, 6) := ⟨⟨by decide +kernel, by decide +kernel⟩, List.mem_of_getElem? (i := 1049) (by decide +kernel), List.mem_of_getElem? (i := 1047) (by decide +kernel), List.mem_of_getElem? (i := 1048) (by decide +kernel)⟩
theorem lw_p45 : lw_okq (⟨"SmellAbbeyModel", "begins", "()V"⟩, 68) := ⟨⟨by decide +kernel, by decide +kernel⟩, List.mem_of_getElem? (i := 1094) (by decide +kernel), List.mem_of_getElem? (i := 1100) (by decide +kernel), List.mem_of_getElem? (i := 1101) (by decide +kernel)⟩
theorem lw_p46 : lw_okq (⟨"SmellAbbeyModel", "starts", "(I)V"⟩, 68) := ⟨⟨by decide +kernel, by decide +kernel⟩, List.mem_of_getElem? (i := 1094) (by decide +kernel), List.mem_of_getElem? (i := 1104) (by decide +kernel), List.mem_of_getElem? (i := 1105) (by decide +kernel)⟩
theorem lw_p47 : lw_okq (⟨"SmellAbbeyModel", "reads", "(II)V"⟩, 68) := ⟨⟨by decide +kernel, by decide +kernel⟩, List.mem_of_getElem? (i := 1094) (by decide +kernel), List.mem_of_getElem? (i := 1325) (by decide +kernel), List.mem_of_getElem? (i := 1326) (by decide +kernel)⟩
def lw_privs_3 : List (MethodName × Nat) := [(⟨"SmellAbbey", "alikePairs", "()I"⟩, 14), (⟨"SmellAbbey", "moreThatIsSmelled", "(IIII)I"⟩, 14), (⟨"SmellAbbey", "unlikeMarks", "()I"⟩, 14), (⟨"SmellAbbey", "markDaysInPlace", "(III)V"⟩, 14), (⟨"SmellAbbey", "canBurn", "(I)Z"⟩, 14), (⟨"SmellAbbey", "countFeastThinkers", "(I)V"⟩, 14), (⟨"SmellAbbey", "isRest", "(II)Z"⟩, 14), (⟨"SmellAbbey", "agreesWithNotes", "()Z"⟩, 14), (⟨"SmellAbbey$Notes", "counts", "(I)Z"⟩, 8), (⟨"SmellAbbey", "blowByChance", "()V"⟩, 14), (⟨"SmellAbbey", "changeTrial", "(II)V"⟩, 14), (⟨"SmellAbbey", "allStores", "()I"⟩, 14), (⟨"java/lang/Throwable", "fillInStackTrace", "(I)Ljava/lang/Throwable;"⟩, 6), (⟨"SmellAbbeyModel", "begins", "()V"⟩, 68), (⟨"SmellAbbeyModel", "starts", "(I)V"⟩, 68), (⟨"SmellAbbeyModel", "reads", "(II)V"⟩, 68)]
theorem lw_r3 : ∀ q ∈ lw_privs_3, lw_okq q := List.forall_mem_cons.mpr ⟨lw_p32, List.forall_mem_cons.mpr ⟨lw_p33, List.forall_mem_cons.mpr ⟨lw_p34, List.forall_mem_cons.mpr ⟨lw_p35, List.forall_mem_cons.mpr ⟨lw_p36, List.forall_mem_cons.mpr ⟨lw_p37, List.forall_mem_cons.mpr ⟨lw_p38, List.forall_mem_cons.mpr ⟨lw_p39, List.forall_mem_cons.mpr ⟨lw_p40, List.forall_mem_cons.mpr ⟨lw_p41, List.forall_mem_cons.mpr ⟨lw_p42, List.forall_mem_cons.mpr ⟨lw_p43, List.forall_mem_cons.mpr ⟨lw_p44, List.forall_mem_cons.mpr ⟨lw_p45, List.forall_mem_cons.mpr ⟨lw_p46, List.forall_mem_cons.mpr ⟨lw_p47, fun _ h => absurd h List.not_mem_nil⟩⟩⟩⟩⟩⟩⟩⟩⟩⟩⟩⟩⟩⟩⟩⟩
theorem lw_p48 : lw_okq (⟨"SmellAbbeyModel", "token", "()V"⟩, 68) := ⟨⟨by decide +kernel, by decide +kernel⟩, List.mem_of_getElem? (i := 1094) (by decide +kernel), List.mem_of_getElem? (i := 1329) (by decide +kernel), List.mem_of_getElem? (i := 1330) (by decide +kernel)⟩
theorem lw_p49 : lw_okq (⟨"SmellAbbeyModel", "here", "()I"⟩, 68) := ⟨⟨by decide +kernel, by decide +kernel⟩, List.mem_of_getElem? (i := 1094) (by decide +kernel), List.mem_of_getElem? (i := 1333) (by decide +kernel), List.mem_of_getElem? (i := 1334) (by decide +kernel)⟩
theorem lw_p50 : lw_okq (⟨"SmellAbbeyModel", "word", "()I"⟩, 68) := ⟨⟨by decide +kernel, by decide +kernel⟩, List.mem_of_getElem? (i := 1094) (by decide +kernel), List.mem_of_getElem? (i := 1340) (by decide +kernel), List.mem_of_getElem? (i := 1341) (by decide +kernel)⟩
theorem lw_p51 : lw_okq (⟨"SmellAbbeyModel", "name", "()V"⟩, 68) := ⟨⟨by decide +kernel, by decide +kernel⟩, List.mem_of_getElem? (i := 1094) (by decide +kernel), List.mem_of_getElem? (i := 1347) (by decide +kernel), List.mem_of_getElem? (i := 1348) (by decide +kernel)⟩
theorem lw_p52 : lw_okq (⟨"SmellAbbeyModel", "sign", "(I)V"⟩, 68) := ⟨⟨by decide +kernel, by decide +kernel⟩, List.mem_of_getElem? (i := 1094) (by decide +kernel), List.mem_of_getElem? (i := 1355) (by decide +kernel), List.mem_of_getElem? (i := 1356) (by decide +kernel)⟩
theorem lw_p53 : lw_okq (⟨"SmellAbbeyModel", "line", "()V"⟩, 68) := ⟨⟨by decide +kernel, by decide +kernel⟩, List.mem_of_getElem? (i := 1094) (by decide +kernel), List.mem_of_getElem? (i := 1359) (by decide +kernel), List.mem_of_getElem? (i := 1360) (by decide +kernel)⟩
theorem lw_p54 : lw_okq (⟨"SmellAbbeyModel", "wrong", "(I)V"⟩, 68) := ⟨⟨by decide +kernel, by decide +kernel⟩, List.mem_of_getElem? (i := 1094) (by decide +kernel), List.mem_of_getElem? (i := 1363) (by decide +kernel), List.mem_of_getElem? (i := 1364) (by decide +kernel)⟩
theorem lw_p55 : lw_okq (⟨"SmellAbbeyModel", "isFull", "(I)Z"⟩, 68) := ⟨⟨by decide +kernel, by decide +kernel⟩, List.mem_of_getElem? (i := 1094) (by decide +kernel), List.mem_of_getElem? (i := 1367) (by decide +kernel), List.mem_of_getElem? (i := 1368) (by decide +kernel)⟩
theorem lw_p56 : lw_okq (⟨"SmellAbbeyModel", "fresher", "(I)I"⟩, 68) := ⟨⟨by decide +kernel, by decide +kernel⟩, List.mem_of_getElem? (i := 1094) (by decide +kernel), List.mem_of_getElem? (i := 1371) (by decide +kernel), List.mem_of_getElem? (i := 1372) (by decide +kernel)⟩
theorem lw_p57 : lw_okq (⟨"SmellAbbeyModel", "fresh", "([III)I"⟩, 68) := ⟨⟨by decide +kernel, by decide +kernel⟩, List.mem_of_getElem? (i := 1094) (by decide +kernel), List.mem_of_getElem? (i := 1375) (by decide +kernel), List.mem_of_getElem? (i := 1376) (by decide +kernel)⟩
theorem lw_p58 : lw_okq (⟨"SmellAbbeyModel", "numeral", "(II)I"⟩, 68) := ⟨⟨by decide +kernel, by decide +kernel⟩, List.mem_of_getElem? (i := 1094) (by decide +kernel), List.mem_of_getElem? (i := 1382) (by decide +kernel), List.mem_of_getElem? (i := 1383) (by decide +kernel)⟩
theorem lw_p59 : lw_okq (⟨"SmellAbbeyModel", "dayLine", "(I)V"⟩, 68) := ⟨⟨by decide +kernel, by decide +kernel⟩, List.mem_of_getElem? (i := 1094) (by decide +kernel), List.mem_of_getElem? (i := 1386) (by decide +kernel), List.mem_of_getElem? (i := 1387) (by decide +kernel)⟩
theorem lw_p60 : lw_okq (⟨"SmellAbbeyModel", "isWord", "(I)Z"⟩, 68) := ⟨⟨by decide +kernel, by decide +kernel⟩, List.mem_of_getElem? (i := 1094) (by decide +kernel), List.mem_of_getElem? (i := 1390) (by decide +kernel), List.mem_of_getElem? (i := 1391) (by decide +kernel)⟩
theorem lw_p61 : lw_okq (⟨"SmellAbbeyModel", "mixLine", "()V"⟩, 68) := ⟨⟨by decide +kernel, by decide +kernel⟩, List.mem_of_getElem? (i := 1094) (by decide +kernel), List.mem_of_getElem? (i := 1394) (by decide +kernel), List.mem_of_getElem? (i := 1395) (by decide +kernel)⟩
theorem lw_p62 : lw_okq (⟨"SmellAbbeyModel", "toldAhead", "([III)I"⟩, 68) := ⟨⟨by decide +kernel, by decide +kernel⟩, List.mem_of_getElem? (i := 1094) (by decide +kernel), List.mem_of_getElem? (i := 1398) (by decide +kernel), List.mem_of_getElem? (i := 1399) (by decide +kernel)⟩
theorem lw_p63 : lw_okq (⟨"SmellAbbeyModel", "goOn", "()V"⟩, 68) := ⟨⟨by decide +kernel, by decide +kernel⟩, List.mem_of_getElem? (i := 1094) (by decide +kernel), List.mem_of_getElem? (i := 1402) (by decide +kernel), List.mem_of_getElem? (i := 1403) (by decide +kernel)⟩
def lw_privs_4 : List (MethodName × Nat) := [(⟨"SmellAbbeyModel", "token", "()V"⟩, 68), (⟨"SmellAbbeyModel", "here", "()I"⟩, 68), (⟨"SmellAbbeyModel", "word", "()I"⟩, 68), (⟨"SmellAbbeyModel", "name", "()V"⟩, 68), (⟨"SmellAbbeyModel", "sign", "(I)V"⟩, 68), (⟨"SmellAbbeyModel", "line", "()V"⟩, 68), (⟨"SmellAbbeyModel", "wrong", "(I)V"⟩, 68), (⟨"SmellAbbeyModel", "isFull", "(I)Z"⟩, 68), (⟨"SmellAbbeyModel", "fresher", "(I)I"⟩, 68), (⟨"SmellAbbeyModel", "fresh", "([III)I"⟩, 68), (⟨"SmellAbbeyModel", "numeral", "(II)I"⟩, 68), (⟨"SmellAbbeyModel", "dayLine", "(I)V"⟩, 68), (⟨"SmellAbbeyModel", "isWord", "(I)Z"⟩, 68), (⟨"SmellAbbeyModel", "mixLine", "()V"⟩, 68), (⟨"SmellAbbeyModel", "toldAhead", "([III)I"⟩, 68), (⟨"SmellAbbeyModel", "goOn", "()V"⟩, 68)]
theorem lw_r4 : ∀ q ∈ lw_privs_4, lw_okq q := List.forall_mem_cons.mpr ⟨lw_p48, List.forall_mem_cons.mpr ⟨lw_p49, List.forall_mem_cons.mpr ⟨lw_p50, List.forall_mem_cons.mpr ⟨lw_p51, List.forall_mem_cons.mpr ⟨lw_p52, List.forall_mem_cons.mpr ⟨lw_p53, List.forall_mem_cons.mpr ⟨lw_p54, List.forall_mem_cons.mpr ⟨lw_p55, List.forall_mem_cons.mpr ⟨lw_p56, List.forall_mem_cons.mpr ⟨lw_p57, List.forall_mem_cons.mpr ⟨lw_p58, List.forall_mem_cons.mpr ⟨lw_p59, List.forall_mem_cons.mpr ⟨lw_p60, List.forall_mem_cons.mpr ⟨lw_p61, List.forall_mem_cons.mpr ⟨lw_p62, List.forall_mem_cons.mpr ⟨lw_p63, fun _ h => absurd h List.not_mem_nil⟩⟩⟩⟩⟩⟩⟩⟩⟩⟩⟩⟩⟩⟩⟩⟩
theorem lw_p64 : lw_okq (⟨"SmellAbbeyModel", "lawLine", "()V"⟩, 68) := ⟨⟨by decide +kernel, by decide +kernel⟩, List.mem_of_getElem? (i := 1094) (by decide +kernel), List.mem_of_getElem? (i := 1406) (by decide +kernel), List.mem_of_getElem? (i := 1407) (by decide +kernel)⟩
theorem lw_p65 : lw_okq (⟨"SmellAbbeyModel", "expression", "()V"⟩, 68) := ⟨⟨by decide +kernel, by decide +kernel⟩, List.mem_of_getElem? (i := 1094) (by decide +kernel), List.mem_of_getElem? (i := 1410) (by decide +kernel), List.mem_of_getElem? (i := 1411) (by decide +kernel)⟩
theorem lw_p66 : lw_okq (⟨"SmellAbbeyModel", "conjunction", "()V"⟩, 68) := ⟨⟨by decide +kernel, by decide +kernel⟩, List.mem_of_getElem? (i := 1094) (by decide +kernel), List.mem_of_getElem? (i := 1414) (by decide +kernel), List.mem_of_getElem? (i := 1415) (by decide +kernel)⟩
theorem lw_p67 : lw_okq (⟨"SmellAbbeyModel", "negation", "()V"⟩, 68) := ⟨⟨by decide +kernel, by decide +kernel⟩, List.mem_of_getElem? (i := 1094) (by decide +kernel), List.mem_of_getElem? (i := 1418) (by decide +kernel), List.mem_of_getElem? (i := 1419) (by decide +kernel)⟩
theorem lw_p68 : lw_okq (⟨"SmellAbbeyModel", "knot", "()V"⟩, 68) := ⟨⟨by decide +kernel, by decide +kernel⟩, List.mem_of_getElem? (i := 1094) (by decide +kernel), List.mem_of_getElem? (i := 1422) (by decide +kernel), List.mem_of_getElem? (i := 1423) (by decide +kernel)⟩
theorem lw_p69 : lw_okq (⟨"SmellAbbeyModel", "puts", "(II)V"⟩, 68) := ⟨⟨by decide +kernel, by decide +kernel⟩, List.mem_of_getElem? (i := 1094) (by decide +kernel), List.mem_of_getElem? (i := 1426) (by decide +kernel), List.mem_of_getElem? (i := 1427) (by decide +kernel)⟩
theorem lw_p70 : lw_okq (⟨"SmellAbbeyModel", "sum", "()V"⟩, 68) := ⟨⟨by decide +kernel, by decide +kernel⟩, List.mem_of_getElem? (i := 1094) (by decide +kernel), List.mem_of_getElem? (i := 1430) (by decide +kernel), List.mem_of_getElem? (i := 1431) (by decide +kernel)⟩
theorem lw_p71 : lw_okq (⟨"SmellAbbeyModel", "product", "()V"⟩, 68) := ⟨⟨by decide +kernel, by decide +kernel⟩, List.mem_of_getElem? (i := 1094) (by decide +kernel), List.mem_of_getElem? (i := 1434) (by decide +kernel), List.mem_of_getElem? (i := 1435) (by decide +kernel)⟩
theorem lw_p72 : lw_okq (⟨"SmellAbbeyModel", "primary", "()V"⟩, 68) := ⟨⟨by decide +kernel, by decide +kernel⟩, List.mem_of_getElem? (i := 1094) (by decide +kernel), List.mem_of_getElem? (i := 1438) (by decide +kernel), List.mem_of_getElem? (i := 1439) (by decide +kernel)⟩
theorem lw_p73 : lw_okq (⟨"SmellAbbeyModel", "isSign", "(I)Z"⟩, 68) := ⟨⟨by decide +kernel, by decide +kernel⟩, List.mem_of_getElem? (i := 1094) (by decide +kernel), List.mem_of_getElem? (i := 1442) (by decide +kernel), List.mem_of_getElem? (i := 1443) (by decide +kernel)⟩
theorem lw_p74 : lw_okq (⟨"SmellAbbeyModel", "isMonk", "(I)Z"⟩, 68) := ⟨⟨by decide +kernel, by decide +kernel⟩, List.mem_of_getElem? (i := 1094) (by decide +kernel), List.mem_of_getElem? (i := 1461) (by decide +kernel), List.mem_of_getElem? (i := 1462) (by decide +kernel)⟩
theorem lw_p75 : lw_okq (⟨"SmellAbbeyModel", "isStuff", "(I)Z"⟩, 68) := ⟨⟨by decide +kernel, by decide +kernel⟩, List.mem_of_getElem? (i := 1094) (by decide +kernel), List.mem_of_getElem? (i := 1469) (by decide +kernel), List.mem_of_getElem? (i := 1470) (by decide +kernel)⟩
theorem lw_p76 : lw_okq (⟨"SmellAbbeyModel", "worthOf", "(II)I"⟩, 68) := ⟨⟨by decide +kernel, by decide +kernel⟩, List.mem_of_getElem? (i := 1094) (by decide +kernel), List.mem_of_getElem? (i := 1473) (by decide +kernel), List.mem_of_getElem? (i := 1474) (by decide +kernel)⟩
theorem lw_p77 : lw_okq (⟨"SmellAbbeyModel", "calls", "(IIIIIII)V"⟩, 68) := ⟨⟨by decide +kernel, by decide +kernel⟩, List.mem_of_getElem? (i := 1094) (by decide +kernel), List.mem_of_getElem? (i := 1477) (by decide +kernel), List.mem_of_getElem? (i := 1478) (by decide +kernel)⟩
theorem lw_p78 : lw_okq (⟨"SmellAbbeyModel", "within", "(IIII)I"⟩, 68) := ⟨⟨by decide +kernel, by decide +kernel⟩, List.mem_of_getElem? (i := 1094) (by decide +kernel), List.mem_of_getElem? (i := 1481) (by decide +kernel), List.mem_of_getElem? (i := 1482) (by decide +kernel)⟩
theorem lw_p79 : lw_okq (⟨"SmellAbbeyModel", "hasLaw", "(I)Z"⟩, 68) := ⟨⟨by decide +kernel, by decide +kernel⟩, List.mem_of_getElem? (i := 1094) (by decide +kernel), List.mem_of_getElem? (i := 1485) (by decide +kernel), List.mem_of_getElem? (i := 1486) (by decide +kernel)⟩
def lw_privs_5 : List (MethodName × Nat) := [(⟨"SmellAbbeyModel", "lawLine", "()V"⟩, 68), (⟨"SmellAbbeyModel", "expression", "()V"⟩, 68), (⟨"SmellAbbeyModel", "conjunction", "()V"⟩, 68), (⟨"SmellAbbeyModel", "negation", "()V"⟩, 68), (⟨"SmellAbbeyModel", "knot", "()V"⟩, 68), (⟨"SmellAbbeyModel", "puts", "(II)V"⟩, 68), (⟨"SmellAbbeyModel", "sum", "()V"⟩, 68), (⟨"SmellAbbeyModel", "product", "()V"⟩, 68), (⟨"SmellAbbeyModel", "primary", "()V"⟩, 68), (⟨"SmellAbbeyModel", "isSign", "(I)Z"⟩, 68), (⟨"SmellAbbeyModel", "isMonk", "(I)Z"⟩, 68), (⟨"SmellAbbeyModel", "isStuff", "(I)Z"⟩, 68), (⟨"SmellAbbeyModel", "worthOf", "(II)I"⟩, 68), (⟨"SmellAbbeyModel", "calls", "(IIIIIII)V"⟩, 68), (⟨"SmellAbbeyModel", "within", "(IIII)I"⟩, 68), (⟨"SmellAbbeyModel", "hasLaw", "(I)Z"⟩, 68)]
theorem lw_r5 : ∀ q ∈ lw_privs_5, lw_okq q := List.forall_mem_cons.mpr ⟨lw_p64, List.forall_mem_cons.mpr ⟨lw_p65, List.forall_mem_cons.mpr ⟨lw_p66, List.forall_mem_cons.mpr ⟨lw_p67, List.forall_mem_cons.mpr ⟨lw_p68, List.forall_mem_cons.mpr ⟨lw_p69, List.forall_mem_cons.mpr ⟨lw_p70, List.forall_mem_cons.mpr ⟨lw_p71, List.forall_mem_cons.mpr ⟨lw_p72, List.forall_mem_cons.mpr ⟨lw_p73, List.forall_mem_cons.mpr ⟨lw_p74, List.forall_mem_cons.mpr ⟨lw_p75, List.forall_mem_cons.mpr ⟨lw_p76, List.forall_mem_cons.mpr ⟨lw_p77, List.forall_mem_cons.mpr ⟨lw_p78, List.forall_mem_cons.mpr ⟨lw_p79, fun _ h => absurd h List.not_mem_nil⟩⟩⟩⟩⟩⟩⟩⟩⟩⟩⟩⟩⟩⟩⟩⟩
theorem lw_p80 : lw_okq (⟨"SmellAbbeyModel", "comesOut", "(I)Z"⟩, 68) := ⟨⟨by decide +kernel, by decide +kernel⟩, List.mem_of_getElem? (i := 1094) (by decide +kernel), List.mem_of_getElem? (i := 1489) (by decide +kernel), List.mem_of_getElem? (i := 1490) (by decide +kernel)⟩
theorem lw_p81 : lw_okq (⟨"SmellAbbeyModel", "works", "(I)Z"⟩, 68) := ⟨⟨by decide +kernel, by decide +kernel⟩, List.mem_of_getElem? (i := 1094) (by decide +kernel), List.mem_of_getElem? (i := 1493) (by decide +kernel), List.mem_of_getElem? (i := 1494) (by decide +kernel)⟩
theorem lw_p82 : lw_okq (⟨"SmellAbbeyModel", "isDay", "(I)Z"⟩, 68) := ⟨⟨by decide +kernel, by decide +kernel⟩, List.mem_of_getElem? (i := 1094) (by decide +kernel), List.mem_of_getElem? (i := 1511) (by decide +kernel), List.mem_of_getElem? (i := 1512) (by decide +kernel)⟩
theorem lw_p83 : lw_okq (⟨"SmellAbbeyModel", "isRoom", "(I)Z"⟩, 68) := ⟨⟨by decide +kernel, by decide +kernel⟩, List.mem_of_getElem? (i := 1094) (by decide +kernel), List.mem_of_getElem? (i := 1523) (by decide +kernel), List.mem_of_getElem? (i := 1524) (by decide +kernel)⟩
theorem lw_p84 : lw_okq (⟨"SmellAbbeyModel", "markOf", "(III)I"⟩, 68) := ⟨⟨by decide +kernel, by decide +kernel⟩, List.mem_of_getElem? (i := 1094) (by decide +kernel), List.mem_of_getElem? (i := 1531) (by decide +kernel), List.mem_of_getElem? (i := 1532) (by decide +kernel)⟩
theorem lw_p85 : lw_okq (⟨"SmellAbbeyModel", "keenOf", "(II)I"⟩, 68) := ⟨⟨by decide +kernel, by decide +kernel⟩, List.mem_of_getElem? (i := 1094) (by decide +kernel), List.mem_of_getElem? (i := 1535) (by decide +kernel), List.mem_of_getElem? (i := 1536) (by decide +kernel)⟩
theorem lw_p86 : lw_okq (⟨"SmellAbbeyModel", "keenIn", "(III)I"⟩, 68) := ⟨⟨by decide +kernel, by decide +kernel⟩, List.mem_of_getElem? (i := 1094) (by decide +kernel), List.mem_of_getElem? (i := 1539) (by decide +kernel), List.mem_of_getElem? (i := 1540) (by decide +kernel)⟩
theorem lw_p87 : lw_okq (⟨"SmellAbbeyModel", "partIn", "(I)I"⟩, 68) := ⟨⟨by decide +kernel, by decide +kernel⟩, List.mem_of_getElem? (i := 1094) (by decide +kernel), List.mem_of_getElem? (i := 1543) (by decide +kernel), List.mem_of_getElem? (i := 1544) (by decide +kernel)⟩
theorem lw_p88 : lw_okq (⟨"SmellAbbeyModel", "coldsOf", "(II)I"⟩, 68) := ⟨⟨by decide +kernel, by decide +kernel⟩, List.mem_of_getElem? (i := 1094) (by decide +kernel), List.mem_of_getElem? (i := 1547) (by decide +kernel), List.mem_of_getElem? (i := 1548) (by decide +kernel)⟩
theorem lw_p89 : lw_okq (⟨"SmellAbbeyModel", "markBy", "(IIII)I"⟩, 68) := ⟨⟨by decide +kernel, by decide +kernel⟩, List.mem_of_getElem? (i := 1094) (by decide +kernel), List.mem_of_getElem? (i := 1551) (by decide +kernel), List.mem_of_getElem? (i := 1552) (by decide +kernel)⟩
theorem lw_p90 : lw_okq (⟨"SmellAbbeyModel", "mixOf", "(II)I"⟩, 68) := ⟨⟨by decide +kernel, by decide +kernel⟩, List.mem_of_getElem? (i := 1094) (by decide +kernel), List.mem_of_getElem? (i := 1555) (by decide +kernel), List.mem_of_getElem? (i := 1556) (by decide +kernel)⟩
theorem lw_p91 : lw_okq (⟨"SmellAbbeyModel", "keepNow", "()V"⟩, 68) := ⟨⟨by decide +kernel, by decide +kernel⟩, List.mem_of_getElem? (i := 1094) (by decide +kernel), List.mem_of_getElem? (i := 1568) (by decide +kernel), List.mem_of_getElem? (i := 1569) (by decide +kernel)⟩
theorem lw_p92 : lw_okq (⟨"SmellAbbeyModel", "copies", "(II)V"⟩, 68) := ⟨⟨by decide +kernel, by decide +kernel⟩, List.mem_of_getElem? (i := 1094) (by decide +kernel), List.mem_of_getElem? (i := 1572) (by decide +kernel), List.mem_of_getElem? (i := 1573) (by decide +kernel)⟩
theorem lw_p93 : lw_okq (⟨"SmellAbbeyModel", "passes", "(I)V"⟩, 68) := ⟨⟨by decide +kernel, by decide +kernel⟩, List.mem_of_getElem? (i := 1094) (by decide +kernel), List.mem_of_getElem? (i := 1592) (by decide +kernel), List.mem_of_getElem? (i := 1593) (by decide +kernel)⟩
theorem lw_p94 : lw_okq (⟨"SmellAbbeyModel", "mixes", "(I)V"⟩, 68) := ⟨⟨by decide +kernel, by decide +kernel⟩, List.mem_of_getElem? (i := 1094) (by decide +kernel), List.mem_of_getElem? (i := 1596) (by decide +kernel), List.mem_of_getElem? (i := 1597) (by decide +kernel)⟩
theorem lw_p95 : lw_okq (⟨"SmellAbbeyModel", "drifts", "(I)V"⟩, 68) := ⟨⟨by decide +kernel, by decide +kernel⟩, List.mem_of_getElem? (i := 1094) (by decide +kernel), List.mem_of_getElem? (i := 1601) (by decide +kernel), List.mem_of_getElem? (i := 1602) (by decide +kernel)⟩
def lw_privs_6 : List (MethodName × Nat) := [(⟨"SmellAbbeyModel", "comesOut", "(I)Z"⟩, 68), (⟨"SmellAbbeyModel", "works", "(I)Z"⟩, 68), (⟨"SmellAbbeyModel", "isDay", "(I)Z"⟩, 68), (⟨"SmellAbbeyModel", "isRoom", "(I)Z"⟩, 68), (⟨"SmellAbbeyModel", "markOf", "(III)I"⟩, 68), (⟨"SmellAbbeyModel", "keenOf", "(II)I"⟩, 68), (⟨"SmellAbbeyModel", "keenIn", "(III)I"⟩, 68), (⟨"SmellAbbeyModel", "partIn", "(I)I"⟩, 68), (⟨"SmellAbbeyModel", "coldsOf", "(II)I"⟩, 68), (⟨"SmellAbbeyModel", "markBy", "(IIII)I"⟩, 68), (⟨"SmellAbbeyModel", "mixOf", "(II)I"⟩, 68), (⟨"SmellAbbeyModel", "keepNow", "()V"⟩, 68), (⟨"SmellAbbeyModel", "copies", "(II)V"⟩, 68), (⟨"SmellAbbeyModel", "passes", "(I)V"⟩, 68), (⟨"SmellAbbeyModel", "mixes", "(I)V"⟩, 68), (⟨"SmellAbbeyModel", "drifts", "(I)V"⟩, 68)]
theorem lw_r6 : ∀ q ∈ lw_privs_6, lw_okq q := List.forall_mem_cons.mpr ⟨lw_p80, List.forall_mem_cons.mpr ⟨lw_p81, List.forall_mem_cons.mpr ⟨lw_p82, List.forall_mem_cons.mpr ⟨lw_p83, List.forall_mem_cons.mpr ⟨lw_p84, List.forall_mem_cons.mpr ⟨lw_p85, List.forall_mem_cons.mpr ⟨lw_p86, List.forall_mem_cons.mpr ⟨lw_p87, List.forall_mem_cons.mpr ⟨lw_p88, List.forall_mem_cons.mpr ⟨lw_p89, List.forall_mem_cons.mpr ⟨lw_p90, List.forall_mem_cons.mpr ⟨lw_p91, List.forall_mem_cons.mpr ⟨lw_p92, List.forall_mem_cons.mpr ⟨lw_p93, List.forall_mem_cons.mpr ⟨lw_p94, List.forall_mem_cons.mpr ⟨lw_p95, fun _ h => absurd h List.not_mem_nil⟩⟩⟩⟩⟩⟩⟩⟩⟩⟩⟩⟩⟩⟩⟩⟩
theorem lw_p96 : lw_okq (⟨"SmellAbbeyModel", "smells", "(II)I"⟩, 68) := ⟨⟨by decide +kernel, by decide +kernel⟩, List.mem_of_getElem? (i := 1094) (by decide +kernel), List.mem_of_getElem? (i := 1605) (by decide +kernel), List.mem_of_getElem? (i := 1606) (by decide +kernel)⟩
theorem lw_p97 : lw_okq (⟨"SmellAbbeyModel", "thinks", "(II)I"⟩, 68) := ⟨⟨by decide +kernel, by decide +kernel⟩, List.mem_of_getElem? (i := 1094) (by decide +kernel), List.mem_of_getElem? (i := 1609) (by decide +kernel), List.mem_of_getElem? (i := 1610) (by decide +kernel)⟩
theorem lw_p98 : lw_okq (⟨"SmellAbbeyModel", "keepsHouse", "(I)V"⟩, 68) := ⟨⟨by decide +kernel, by decide +kernel⟩, List.mem_of_getElem? (i := 1094) (by decide +kernel), List.mem_of_getElem? (i := 1613) (by decide +kernel), List.mem_of_getElem? (i := 1614) (by decide +kernel)⟩
theorem lw_p99 : lw_okq (⟨"SmellAbbeyModel", "pairOf", "(II)I"⟩, 68) := ⟨⟨by decide +kernel, by decide +kernel⟩, List.mem_of_getElem? (i := 1094) (by decide +kernel), List.mem_of_getElem? (i := 1621) (by decide +kernel), List.mem_of_getElem? (i := 1622) (by decide +kernel)⟩
theorem lw_p100 : lw_okq (⟨"SmellAbbeyModel", "layMarks", "(I)V"⟩, 68) := ⟨⟨by decide +kernel, by decide +kernel⟩, List.mem_of_getElem? (i := 1094) (by decide +kernel), List.mem_of_getElem? (i := 1625) (by decide +kernel), List.mem_of_getElem? (i := 1626) (by decide +kernel)⟩
theorem lw_p101 : lw_okq (⟨"SmellAbbeyModel", "areSextons", "(I)Z"⟩, 68) := ⟨⟨by decide +kernel, by decide +kernel⟩, List.mem_of_getElem? (i := 1094) (by decide +kernel), List.mem_of_getElem? (i := 1670) (by decide +kernel), List.mem_of_getElem? (i := 1671) (by decide +kernel)⟩
theorem lw_p102 : lw_okq (⟨"SmellAbbeyModel", "restOf", "(II)I"⟩, 68) := ⟨⟨by decide +kernel, by decide +kernel⟩, List.mem_of_getElem? (i := 1094) (by decide +kernel), List.mem_of_getElem? (i := 1674) (by decide +kernel), List.mem_of_getElem? (i := 1675) (by decide +kernel)⟩
theorem lw_p103 : lw_okq (⟨"SmellAbbeyModel", "laySextons", "(I)V"⟩, 68) := ⟨⟨by decide +kernel, by decide +kernel⟩, List.mem_of_getElem? (i := 1094) (by decide +kernel), List.mem_of_getElem? (i := 1678) (by decide +kernel), List.mem_of_getElem? (i := 1679) (by decide +kernel)⟩
theorem lw_p104 : lw_okq (⟨"SmellAbbeyModel", "isRest", "(II)Z"⟩, 68) := ⟨⟨by decide +kernel, by decide +kernel⟩, List.mem_of_getElem? (i := 1094) (by decide +kernel), List.mem_of_getElem? (i := 1682) (by decide +kernel), List.mem_of_getElem? (i := 1683) (by decide +kernel)⟩
theorem lw_p105 : lw_okq (⟨"SmellAbbeyModel", "knownMany", "()I"⟩, 68) := ⟨⟨by decide +kernel, by decide +kernel⟩, List.mem_of_getElem? (i := 1094) (by decide +kernel), List.mem_of_getElem? (i := 1706) (by decide +kernel), List.mem_of_getElem? (i := 1707) (by decide +kernel)⟩
theorem lw_p106 : lw_okq (⟨"SmellAbbeyModel", "fitsCold", "(III)Z"⟩, 68) := ⟨⟨by decide +kernel, by decide +kernel⟩, List.mem_of_getElem? (i := 1094) (by decide +kernel), List.mem_of_getElem? (i := 1710) (by decide +kernel), List.mem_of_getElem? (i := 1711) (by decide +kernel)⟩
theorem lw_p107 : lw_okq (⟨"SmellAbbeyModel", "isSo", "(I)Z"⟩, 68) := ⟨⟨by decide +kernel, by decide +kernel⟩, List.mem_of_getElem? (i := 1094) (by decide +kernel), List.mem_of_getElem? (i := 1714) (by decide +kernel), List.mem_of_getElem? (i := 1715) (by decide +kernel)⟩
theorem lw_p108 : lw_okq (⟨"SmellAbbeyModel", "draw", "(I)I"⟩, 68) := ⟨⟨by decide +kernel, by decide +kernel⟩, List.mem_of_getElem? (i := 1094) (by decide +kernel), List.mem_of_getElem? (i := 1722) (by decide +kernel), List.mem_of_getElem? (i := 1723) (by decide +kernel)⟩
def lw_privs_7 : List (MethodName × Nat) := [(⟨"SmellAbbeyModel", "smells", "(II)I"⟩, 68), (⟨"SmellAbbeyModel", "thinks", "(II)I"⟩, 68), (⟨"SmellAbbeyModel", "keepsHouse", "(I)V"⟩, 68), (⟨"SmellAbbeyModel", "pairOf", "(II)I"⟩, 68), (⟨"SmellAbbeyModel", "layMarks", "(I)V"⟩, 68), (⟨"SmellAbbeyModel", "areSextons", "(I)Z"⟩, 68), (⟨"SmellAbbeyModel", "restOf", "(II)I"⟩, 68), (⟨"SmellAbbeyModel", "laySextons", "(I)V"⟩, 68), (⟨"SmellAbbeyModel", "isRest", "(II)Z"⟩, 68), (⟨"SmellAbbeyModel", "knownMany", "()I"⟩, 68), (⟨"SmellAbbeyModel", "fitsCold", "(III)Z"⟩, 68), (⟨"SmellAbbeyModel", "isSo", "(I)Z"⟩, 68), (⟨"SmellAbbeyModel", "draw", "(I)I"⟩, 68)]
theorem lw_r7 : ∀ q ∈ lw_privs_7, lw_okq q := List.forall_mem_cons.mpr ⟨lw_p96, List.forall_mem_cons.mpr ⟨lw_p97, List.forall_mem_cons.mpr ⟨lw_p98, List.forall_mem_cons.mpr ⟨lw_p99, List.forall_mem_cons.mpr ⟨lw_p100, List.forall_mem_cons.mpr ⟨lw_p101, List.forall_mem_cons.mpr ⟨lw_p102, List.forall_mem_cons.mpr ⟨lw_p103, List.forall_mem_cons.mpr ⟨lw_p104, List.forall_mem_cons.mpr ⟨lw_p105, List.forall_mem_cons.mpr ⟨lw_p106, List.forall_mem_cons.mpr ⟨lw_p107, List.forall_mem_cons.mpr ⟨lw_p108, fun _ h => absurd h List.not_mem_nil⟩⟩⟩⟩⟩⟩⟩⟩⟩⟩⟩⟩⟩
def lw_privs : List (MethodName × Nat) := lw_privs_1 ++ (lw_privs_2 ++ (lw_privs_3 ++ (lw_privs_4 ++ (lw_privs_5 ++ (lw_privs_6 ++ (lw_privs_7))))))
def lw_tbl : List Cond := k2_sels lw_privs ++ tables_1
theorem lw_privs_ok : ∀ q ∈ lw_privs, lw_okq q := by
  show ∀ q ∈ lw_privs_1 ++ (lw_privs_2 ++ (lw_privs_3 ++ (lw_privs_4 ++ (lw_privs_5 ++ (lw_privs_6 ++ (lw_privs_7)))))), lw_okq q
  exact List.forall_mem_append.mpr ⟨lw_r1, List.forall_mem_append.mpr ⟨lw_r2, List.forall_mem_append.mpr ⟨lw_r3, List.forall_mem_append.mpr ⟨lw_r4, List.forall_mem_append.mpr ⟨lw_r5, List.forall_mem_append.mpr ⟨lw_r6, lw_r7⟩⟩⟩⟩⟩⟩
end
section
def RX0 : String := "SmellAbbey$Laws"
def TX0 : u_T := fun k => match k with
  | 0 => ("SmellAbbey$Laws", "tokens", "[I", true)
  | 1 => ("SmellAbbey$Laws", "numbers", "[I", true)
  | 2 => ("SmellAbbey$Laws", "from", "[I", true)
  | 3 => ("SmellAbbey$Laws", "to", "[I", true)
  | 4 => ("SmellAbbey$Laws", "isTold", "[Z", true)
  | 5 => ("SmellAbbey$Laws", "names", "[J", true)
  | 6 => ("SmellAbbey$Laws", "values", "[J", true)
  | 7 => ("SmellAbbey$Laws", "length", "I", false)
  | _ => ("SmellAbbey$Laws", "knots", "I", false)
def tyX0 : Nat → FieldType := fun k => match k with
  | 0 => .array .int
  | 1 => .array .int
  | 2 => .array .int
  | 3 => .array .int
  | 4 => .array .boolean
  | 5 => .array .long
  | 6 => .array .long
  | 7 => .int
  | _ => .int
abbrev wsX00 : List Cond := u_ws RX0 TX0 9
theorem nmX0 : ∀ a, a < 9 → ∀ b, b < 9 → a ≠ b → (TX0 a).2.1 ≠ (TX0 b).2.1 := by decide +kernel
theorem tyX0_ok : ∀ k, k < 9 → parseFieldDescriptor (TX0 k).2.2.1 = some (tyX0 k) := by decide +kernel
abbrev cX0_init : ByteArray := prog_2_method_1_code
def yX0_init : MethodName := ⟨RX0, "<init>", "()V"⟩
abbrev cX0_clear : ByteArray := prog_2_method_2_code
def yX0_clear : MethodName := ⟨RX0, "clear", "()V"⟩
abbrev cX0_isTold : ByteArray := prog_2_method_3_code
def yX0_isTold : MethodName := ⟨RX0, "isTold", "(I)Z"⟩
abbrev cX0_begin : ByteArray := prog_2_method_4_code
def yX0_begin : MethodName := ⟨RX0, "begin", "(I)V"⟩
abbrev cX0_end : ByteArray := prog_2_method_5_code
def yX0_end : MethodName := ⟨RX0, "end", "(I)V"⟩
abbrev cX0_addKnot : ByteArray := prog_2_method_6_code
def yX0_addKnot : MethodName := ⟨RX0, "addKnot", "()Z"⟩
abbrev cX0_append : ByteArray := prog_2_method_7_code
def yX0_append : MethodName := ⟨RX0, "append", "(II)V"⟩
abbrev cX0_setNames : ByteArray := prog_2_method_8_code
def yX0_setNames : MethodName := ⟨RX0, "setNames", "(IIIIIII)V"⟩
abbrev cX0_workOut : ByteArray := prog_2_method_9_code
def yX0_workOut : MethodName := ⟨RX0, "workOut", "(I)J"⟩
abbrev cX0_joined : ByteArray := prog_2_method_10_code
def yX0_joined : MethodName := ⟨RX0, "joined", "(IJJ)J"⟩
abbrev cX0_multiplied : ByteArray := prog_2_method_11_code
def yX0_multiplied : MethodName := ⟨RX0, "multiplied", "(JJ)J"⟩
def RX1 : String := "SmellAbbey$Notes"
def TX1 : u_T := fun k => match k with
  | 0 => ("SmellAbbey$Notes", "mornings", "[I", true)
  | 1 => ("SmellAbbey$Notes", "monk", "[I", true)
  | 2 => ("SmellAbbey$Notes", "day", "[I", true)
  | 3 => ("SmellAbbey$Notes", "is", "[Z", true)
  | 4 => ("SmellAbbey$Notes", "strikes", "[I", true)
  | 5 => ("SmellAbbey$Notes", "struck", "[Z", true)
  | 6 => ("SmellAbbey$Notes", "size", "I", false)
  | _ => ("SmellAbbey$Notes", "knownBy", "I", false)
def tyX1 : Nat → FieldType := fun k => match k with
  | 0 => .array .int
  | 1 => .array .int
  | 2 => .array .int
  | 3 => .array .boolean
  | 4 => .array .int
  | 5 => .array .boolean
  | 6 => .int
  | _ => .int
abbrev wsX10 : List Cond := u_ws RX1 TX1 8
theorem nmX1 : ∀ a, a < 8 → ∀ b, b < 8 → a ≠ b → (TX1 a).2.1 ≠ (TX1 b).2.1 := by decide +kernel
theorem tyX1_ok : ∀ k, k < 8 → parseFieldDescriptor (TX1 k).2.2.1 = some (tyX1 k) := by decide +kernel
abbrev cX1_init : ByteArray := prog_3_method_1_code
def yX1_init : MethodName := ⟨RX1, "<init>", "()V"⟩
abbrev cX1_clear : ByteArray := prog_3_method_2_code
def yX1_clear : MethodName := ⟨RX1, "clear", "()V"⟩
abbrev cX1_add : ByteArray := prog_3_method_3_code
def yX1_add : MethodName := ⟨RX1, "add", "(IIIZ)I"⟩
abbrev cX1_strike : ByteArray := prog_3_method_4_code
def yX1_strike : MethodName := ⟨RX1, "strike", "(I)I"⟩
abbrev cX1_considered : ByteArray := prog_3_method_5_code
def yX1_considered : MethodName := ⟨RX1, "considered", "()I"⟩
abbrev cX1_weigh : ByteArray := prog_3_method_6_code
def yX1_weigh : MethodName := ⟨RX1, "weigh", "()V"⟩
abbrev cX1_counts : ByteArray := prog_3_method_7_code
def yX1_counts : MethodName := ⟨RX1, "counts", "(I)Z"⟩
abbrev cX1_lastMorning : ByteArray := prog_3_method_8_code
def yX1_lastMorning : MethodName := ⟨RX1, "lastMorning", "()I"⟩
abbrev cX1_allow : ByteArray := prog_3_method_9_code
def yX1_allow : MethodName := ⟨RX1, "allow", "(I[I)Z"⟩
def RX2 : String := "SmellAbbey$Numbers"
def TX2 : u_T := fun k => match k with
  | _ => ("SmellAbbey$Numbers", "last", "J", false)
def tyX2 : Nat → FieldType := fun k => match k with
  | _ => .long
abbrev wsX20 : List Cond := u_ws RX2 TX2 1
theorem nmX2 : ∀ a, a < 1 → ∀ b, b < 1 → a ≠ b → (TX2 a).2.1 ≠ (TX2 b).2.1 := by decide +kernel
theorem tyX2_ok : ∀ k, k < 1 → parseFieldDescriptor (TX2 k).2.2.1 = some (tyX2 k) := by decide +kernel
abbrev cX2_init : ByteArray := prog_4_method_1_code
def yX2_init : MethodName := ⟨RX2, "<init>", "()V"⟩
abbrev cX2_begin : ByteArray := prog_4_method_2_code
def yX2_begin : MethodName := ⟨RX2, "begin", "(I)V"⟩
abbrev cX2_draw : ByteArray := prog_4_method_3_code
def yX2_draw : MethodName := ⟨RX2, "draw", "()I"⟩
def RX3 : String := "SmellAbbey$Reader"
def TX3 : u_T := fun k => match k with
  | 0 => ("SmellAbbey$Reader", "scanner", "LSmellAbbey$Scanner;", true)
  | 1 => ("SmellAbbey$Reader", "waiting", "[I", true)
  | 2 => ("SmellAbbey$Reader", "strengths", "[I", true)
  | 3 => ("SmellAbbey$Reader", "waitingCount", "I", false)
  | 4 => ("SmellAbbey$Reader", "opened", "I", false)
  | 5 => ("SmellAbbey$Reader", "wantsValue", "Z", false)
  | 6 => ("SmellAbbey$Reader", "told", "LSmellAbbey$Told;", false)
  | 7 => ("SmellAbbey$Reader", "fault", "I", false)
  | _ => ("SmellAbbey$Reader", "place", "I", false)
def tyX3 : Nat → FieldType := fun k => match k with
  | 0 => .object "SmellAbbey$Scanner"
  | 1 => .array .int
  | 2 => .array .int
  | 3 => .int
  | 4 => .int
  | 5 => .boolean
  | 6 => .object "SmellAbbey$Told"
  | 7 => .int
  | _ => .int
abbrev wsX30 : List Cond := u_ws RX3 TX3 9
theorem nmX3 : ∀ a, a < 9 → ∀ b, b < 9 → a ≠ b → (TX3 a).2.1 ≠ (TX3 b).2.1 := by decide +kernel
theorem tyX3_ok : ∀ k, k < 9 → parseFieldDescriptor (TX3 k).2.2.1 = some (tyX3 k) := by decide +kernel
abbrev cX3_init : ByteArray := prog_5_method_1_code
def yX3_init : MethodName := ⟨RX3, "<init>", "()V"⟩
abbrev cX3_open : ByteArray := prog_5_method_2_code
def yX3_open : MethodName := ⟨RX3, "open", "([BI)V"⟩
abbrev cX3_exchange : ByteArray := prog_5_method_3_code
def yX3_exchange : MethodName := ⟨RX3, "exchange", "(LSmellAbbey$Told;)LSmellAbbey$Told;"⟩
abbrev cX3_hasMore : ByteArray := prog_5_method_4_code
def yX3_hasMore : MethodName := ⟨RX3, "hasMore", "()Z"⟩
abbrev cX3_wrong : ByteArray := prog_5_method_5_code
def yX3_wrong : MethodName := ⟨RX3, "wrong", "(I)I"⟩
abbrev cX3_readLine : ByteArray := prog_5_method_6_code
def yX3_readLine : MethodName := ⟨RX3, "readLine", "()I"⟩
abbrev cX3_stuffLine : ByteArray := prog_5_method_7_code
def yX3_stuffLine : MethodName := ⟨RX3, "stuffLine", "()I"⟩
abbrev cX3_dayLine : ByteArray := prog_5_method_8_code
def yX3_dayLine : MethodName := ⟨RX3, "dayLine", "()I"⟩
abbrev cX3_mixLine : ByteArray := prog_5_method_9_code
def yX3_mixLine : MethodName := ⟨RX3, "mixLine", "()I"⟩
abbrev cX3_roomLine : ByteArray := prog_5_method_10_code
def yX3_roomLine : MethodName := ⟨RX3, "roomLine", "()I"⟩
abbrev cX3_monkLine : ByteArray := prog_5_method_11_code
def yX3_monkLine : MethodName := ⟨RX3, "monkLine", "()I"⟩
abbrev cX3_lingerLine : ByteArray := prog_5_method_12_code
def yX3_lingerLine : MethodName := ⟨RX3, "lingerLine", "()I"⟩
abbrev cX3_seedLine : ByteArray := prog_5_method_13_code
def yX3_seedLine : MethodName := ⟨RX3, "seedLine", "()I"⟩
abbrev cX3_lawLine : ByteArray := prog_5_method_14_code
def yX3_lawLine : MethodName := ⟨RX3, "lawLine", "()I"⟩
abbrev cX3_newName : ByteArray := prog_5_method_15_code
def yX3_newName : MethodName := ⟨RX3, "newName", "(I)I"⟩
abbrev cX3_toldName : ByteArray := prog_5_method_16_code
def yX3_toldName : MethodName := ⟨RX3, "toldName", "(I)I"⟩
abbrev cX3_readNumber : ByteArray := prog_5_method_17_code
def yX3_readNumber : MethodName := ⟨RX3, "readNumber", "(II)I"⟩
abbrev cX3_readStop : ByteArray := prog_5_method_18_code
def yX3_readStop : MethodName := ⟨RX3, "readStop", "()I"⟩
abbrev cX3_readFormula : ByteArray := prog_5_method_19_code
def yX3_readFormula : MethodName := ⟨RX3, "readFormula", "()I"⟩
abbrev cX3_readValue : ByteArray := prog_5_method_20_code
def yX3_readValue : MethodName := ⟨RX3, "readValue", "()I"⟩
abbrev cX3_readSign : ByteArray := prog_5_method_21_code
def yX3_readSign : MethodName := ⟨RX3, "readSign", "()I"⟩
abbrev cX3_putOff : ByteArray := prog_5_method_22_code
def yX3_putOff : MethodName := ⟨RX3, "putOff", "(I)I"⟩
abbrev cX3_topStrength : ByteArray := prog_5_method_23_code
def yX3_topStrength : MethodName := ⟨RX3, "topStrength", "()I"⟩
abbrev cX3_settle : ByteArray := prog_5_method_24_code
def yX3_settle : MethodName := ⟨RX3, "settle", "(I)V"⟩
def RX4 : String := "SmellAbbey$Scanner"
def TX4 : u_T := fun k => match k with
  | 0 => ("SmellAbbey$Scanner", "words", "[I", true)
  | 1 => ("SmellAbbey$Scanner", "bytes", "[B", false)
  | 2 => ("SmellAbbey$Scanner", "length", "I", false)
  | 3 => ("SmellAbbey$Scanner", "at", "I", false)
  | 4 => ("SmellAbbey$Scanner", "token", "I", false)
  | 5 => ("SmellAbbey$Scanner", "start", "I", false)
  | 6 => ("SmellAbbey$Scanner", "letters", "I", false)
  | _ => ("SmellAbbey$Scanner", "number", "I", false)
def tyX4 : Nat → FieldType := fun k => match k with
  | 0 => .array .int
  | 1 => .array .byte
  | 2 => .int
  | 3 => .int
  | 4 => .int
  | 5 => .int
  | 6 => .int
  | _ => .int
abbrev wsX40 : List Cond := u_ws RX4 TX4 8
theorem nmX4 : ∀ a, a < 8 → ∀ b, b < 8 → a ≠ b → (TX4 a).2.1 ≠ (TX4 b).2.1 := by decide +kernel
theorem tyX4_ok : ∀ k, k < 8 → parseFieldDescriptor (TX4 k).2.2.1 = some (tyX4 k) := by decide +kernel
abbrev cX4_init : ByteArray := prog_6_method_1_code
def yX4_init : MethodName := ⟨RX4, "<init>", "()V"⟩
abbrev cX4_open : ByteArray := prog_6_method_2_code
def yX4_open : MethodName := ⟨RX4, "open", "([BI)V"⟩
abbrev cX4_advance : ByteArray := prog_6_method_3_code
def yX4_advance : MethodName := ⟨RX4, "advance", "()V"⟩
abbrev cX4_isLetter : ByteArray := prog_6_method_4_code
def yX4_isLetter : MethodName := ⟨RX4, "isLetter", "(I)Z"⟩
abbrev cX4_isDigit : ByteArray := prog_6_method_5_code
def yX4_isDigit : MethodName := ⟨RX4, "isDigit", "(I)Z"⟩
abbrev cX4_readWord : ByteArray := prog_6_method_6_code
def yX4_readWord : MethodName := ⟨RX4, "readWord", "()V"⟩
abbrev cX4_readNumber : ByteArray := prog_6_method_7_code
def yX4_readNumber : MethodName := ⟨RX4, "readNumber", "()V"⟩
abbrev cX4_signOf : ByteArray := prog_6_method_8_code
def yX4_signOf : MethodName := ⟨RX4, "signOf", "(I)I"⟩
abbrev cX4_takes : ByteArray := prog_6_method_9_code
def yX4_takes : MethodName := ⟨RX4, "takes", "(I)Z"⟩
def RX5 : String := "SmellAbbey$State"
def TX5 : u_T := fun k => match k with
  | 0 => ("SmellAbbey$State", "store", "[I", true)
  | 1 => ("SmellAbbey$State", "wind", "[I", true)
  | 2 => ("SmellAbbey$State", "part", "[I", true)
  | 3 => ("SmellAbbey$State", "air", "[[I", true)
  | 4 => ("SmellAbbey$State", "room", "[I", true)
  | 5 => ("SmellAbbey$State", "colds", "[I", true)
  | 6 => ("SmellAbbey$State", "smelled", "[I", true)
  | 7 => ("SmellAbbey$State", "thought", "[I", true)
  | 8 => ("SmellAbbey$State", "much", "[I", true)
  | 9 => ("SmellAbbey$State", "votes", "[I", true)
  | 10 => ("SmellAbbey$State", "date", "I", false)
  | 11 => ("SmellAbbey$State", "kept", "I", false)
  | 12 => ("SmellAbbey$State", "right", "I", false)
  | 13 => ("SmellAbbey$State", "wrong", "I", false)
  | _ => ("SmellAbbey$State", "absent", "I", false)
def tyX5 : Nat → FieldType := fun k => match k with
  | 0 => .array .int
  | 1 => .array .int
  | 2 => .array .int
  | 3 => .array (.array .int)
  | 4 => .array .int
  | 5 => .array .int
  | 6 => .array .int
  | 7 => .array .int
  | 8 => .array .int
  | 9 => .array .int
  | 10 => .int
  | 11 => .int
  | 12 => .int
  | 13 => .int
  | _ => .int
abbrev wsX50 : List Cond := u_ws RX5 TX5 15
theorem nmX5 : ∀ a, a < 15 → ∀ b, b < 15 → a ≠ b → (TX5 a).2.1 ≠ (TX5 b).2.1 := by decide +kernel
theorem tyX5_ok : ∀ k, k < 15 → parseFieldDescriptor (TX5 k).2.2.1 = some (tyX5 k) := by decide +kernel
abbrev cX5_init : ByteArray := prog_7_method_1_code
def yX5_init : MethodName := ⟨RX5, "<init>", "()V"⟩
abbrev cX5_begin : ByteArray := prog_7_method_2_code
def yX5_begin : MethodName := ⟨RX5, "begin", "(LSmellAbbey$Told;)V"⟩
abbrev cX5_copy : ByteArray := prog_7_method_3_code
def yX5_copy : MethodName := ⟨RX5, "copy", "(LSmellAbbey$State;)V"⟩
abbrev cX5_clearAir : ByteArray := prog_7_method_4_code
def yX5_clearAir : MethodName := ⟨RX5, "clearAir", "()V"⟩
abbrev cX5_goThroughMorning : ByteArray := prog_7_method_5_code
def yX5_goThroughMorning : MethodName := ⟨RX5, "goThroughMorning", "(LSmellAbbey$Told;)V"⟩
abbrev cX5_firstShort : ByteArray := prog_7_method_6_code
def yX5_firstShort : MethodName := ⟨RX5, "firstShort", "(LSmellAbbey$Told;)I"⟩
abbrev cX5_takeOut : ByteArray := prog_7_method_7_code
def yX5_takeOut : MethodName := ⟨RX5, "takeOut", "(LSmellAbbey$Told;)V"⟩
abbrev cX5_drift : ByteArray := prog_7_method_8_code
def yX5_drift : MethodName := ⟨RX5, "drift", "(LSmellAbbey$Told;)V"⟩
abbrev cX5_smellAndThink : ByteArray := prog_7_method_9_code
def yX5_smellAndThink : MethodName := ⟨RX5, "smellAndThink", "(LSmellAbbey$Told;II)V"⟩
abbrev cX5_vote : ByteArray := prog_7_method_10_code
def yX5_vote : MethodName := ⟨RX5, "vote", "(LSmellAbbey$Told;)V"⟩
abbrev cX5_mostThought : ByteArray := prog_7_method_11_code
def yX5_mostThought : MethodName := ⟨RX5, "mostThought", "(LSmellAbbey$Told;I)I"⟩
abbrev cX5_feastThinkers : ByteArray := prog_7_method_12_code
def yX5_feastThinkers : MethodName := ⟨RX5, "feastThinkers", "(LSmellAbbey$Told;)I"⟩
abbrev cX5_markOf : ByteArray := prog_7_method_13_code
def yX5_markOf : MethodName := ⟨RX5, "markOf", "(LSmellAbbey$Told;III)I"⟩
abbrev cX5_airLaw : ByteArray := prog_7_method_14_code
def yX5_airLaw : MethodName := ⟨RX5, "airLaw", "(LSmellAbbey$Told;III)J"⟩
abbrev cX5_keenLaw : ByteArray := prog_7_method_15_code
def yX5_keenLaw : MethodName := ⟨RX5, "keenLaw", "(LSmellAbbey$Told;II)J"⟩
abbrev cX5_worthLaw : ByteArray := prog_7_method_16_code
def yX5_worthLaw : MethodName := ⟨RX5, "worthLaw", "(LSmellAbbey$Told;I)J"⟩
abbrev cX5_keenOf : ByteArray := prog_7_method_17_code
def yX5_keenOf : MethodName := ⟨RX5, "keenOf", "(LSmellAbbey$Told;II)I"⟩
abbrev cX5_worthOf : ByteArray := prog_7_method_18_code
def yX5_worthOf : MethodName := ⟨RX5, "worthOf", "(LSmellAbbey$Told;I)I"⟩
abbrev cX5_within : ByteArray := prog_7_method_19_code
def yX5_within : MethodName := ⟨RX5, "within", "(JII)I"⟩
def RX6 : String := "SmellAbbey$Token"
def TX6 : u_T := fun k => match k with
  | _ => ("", "", "", false)
def tyX6 : Nat → FieldType := fun k => match k with
  | _ => .int
abbrev wsX60 : List Cond := u_ws RX6 TX6 0
theorem nmX6 : ∀ a, a < 0 → ∀ b, b < 0 → a ≠ b → (TX6 a).2.1 ≠ (TX6 b).2.1 := by decide +kernel
theorem tyX6_ok : ∀ k, k < 0 → parseFieldDescriptor (TX6 k).2.2.1 = some (tyX6 k) := by decide +kernel
abbrev cX6_strength : ByteArray := prog_8_method_2_code
def yX6_strength : MethodName := ⟨RX6, "strength", "(I)I"⟩
def RX7 : String := "SmellAbbey$Told"
def TX7 : u_T := fun k => match k with
  | 0 => ("SmellAbbey$Told", "many", "[I", true)
  | 1 => ("SmellAbbey$Told", "names", "[[I", true)
  | 2 => ("SmellAbbey$Told", "store", "[I", true)
  | 3 => ("SmellAbbey$Told", "feast", "[Z", true)
  | 4 => ("SmellAbbey$Told", "mix", "[[I", true)
  | 5 => ("SmellAbbey$Told", "part", "[I", true)
  | 6 => ("SmellAbbey$Told", "room", "[I", true)
  | 7 => ("SmellAbbey$Told", "nose", "[I", true)
  | 8 => ("SmellAbbey$Told", "laws", "LSmellAbbey$Laws;", true)
  | 9 => ("SmellAbbey$Told", "mixes", "I", false)
  | 10 => ("SmellAbbey$Told", "linger", "I", false)
  | 11 => ("SmellAbbey$Told", "lingerTold", "Z", false)
  | _ => ("SmellAbbey$Told", "seedTold", "Z", false)
def tyX7 : Nat → FieldType := fun k => match k with
  | 0 => .array .int
  | 1 => .array (.array .int)
  | 2 => .array .int
  | 3 => .array .boolean
  | 4 => .array (.array .int)
  | 5 => .array .int
  | 6 => .array .int
  | 7 => .array .int
  | 8 => .object "SmellAbbey$Laws"
  | 9 => .int
  | 10 => .int
  | 11 => .boolean
  | _ => .boolean
abbrev wsX70 : List Cond := u_ws RX7 TX7 13
theorem nmX7 : ∀ a, a < 13 → ∀ b, b < 13 → a ≠ b → (TX7 a).2.1 ≠ (TX7 b).2.1 := by decide +kernel
theorem tyX7_ok : ∀ k, k < 13 → parseFieldDescriptor (TX7 k).2.2.1 = some (tyX7 k) := by decide +kernel
abbrev cX7_init : ByteArray := prog_9_method_1_code
def yX7_init : MethodName := ⟨RX7, "<init>", "()V"⟩
abbrev cX7_clear : ByteArray := prog_9_method_2_code
def yX7_clear : MethodName := ⟨RX7, "clear", "()V"⟩
abbrev cX7_numberOf : ByteArray := prog_9_method_3_code
def yX7_numberOf : MethodName := ⟨RX7, "numberOf", "(II)I"⟩
abbrev cX7_mixedOn : ByteArray := prog_9_method_4_code
def yX7_mixedOn : MethodName := ⟨RX7, "mixedOn", "(II)I"⟩
abbrev cX7_smelt : ByteArray := prog_9_method_5_code
def yX7_smelt : MethodName := ⟨RX7, "smelt", "([IIII)I"⟩
def RX8 : String := "SmellAbbey$Undoing"
def TX8 : u_T := fun k => match k with
  | 0 => ("SmellAbbey$Undoing", "call", "[I", true)
  | 1 => ("SmellAbbey$Undoing", "whose", "[I", true)
  | 2 => ("SmellAbbey$Undoing", "before", "[I", true)
  | _ => ("SmellAbbey$Undoing", "size", "I", false)
def tyX8 : Nat → FieldType := fun k => match k with
  | 0 => .array .int
  | 1 => .array .int
  | 2 => .array .int
  | _ => .int
abbrev wsX80 : List Cond := u_ws RX8 TX8 4
theorem nmX8 : ∀ a, a < 4 → ∀ b, b < 4 → a ≠ b → (TX8 a).2.1 ≠ (TX8 b).2.1 := by decide +kernel
theorem tyX8_ok : ∀ k, k < 4 → parseFieldDescriptor (TX8 k).2.2.1 = some (tyX8 k) := by decide +kernel
abbrev cX8_init : ByteArray := prog_10_method_1_code
def yX8_init : MethodName := ⟨RX8, "<init>", "()V"⟩
abbrev cX8_clear : ByteArray := prog_10_method_2_code
def yX8_clear : MethodName := ⟨RX8, "clear", "()V"⟩
abbrev cX8_add : ByteArray := prog_10_method_3_code
def yX8_add : MethodName := ⟨RX8, "add", "(III)V"⟩
abbrev cX8_forgetOldest : ByteArray := prog_10_method_4_code
def yX8_forgetOldest : MethodName := ⟨RX8, "forgetOldest", "()V"⟩
abbrev cX8_takeBack : ByteArray := prog_10_method_5_code
def yX8_takeBack : MethodName := ⟨RX8, "takeBack", "(LSmellAbbey$State;)I"⟩
def RX9 : String := "SmellAbbey"
def TX9 : u_T := fun k => match k with
  | 0 => ("SmellAbbey", "tape", "[B", true)
  | 1 => ("SmellAbbey", "reader", "LSmellAbbey$Reader;", true)
  | 2 => ("SmellAbbey", "notes", "LSmellAbbey$Notes;", true)
  | 3 => ("SmellAbbey", "undoing", "LSmellAbbey$Undoing;", true)
  | 4 => ("SmellAbbey", "now", "LSmellAbbey$State;", true)
  | 5 => ("SmellAbbey", "image", "LSmellAbbey$State;", true)
  | 6 => ("SmellAbbey", "trial", "LSmellAbbey$State;", true)
  | 7 => ("SmellAbbey", "numbers", "LSmellAbbey$Numbers;", true)
  | 8 => ("SmellAbbey", "feastThinkers", "[I", true)
  | 9 => ("SmellAbbey", "otherMix", "[I", true)
  | 10 => ("SmellAbbey", "marks", "[I", true)
  | 11 => ("SmellAbbey", "told", "LSmellAbbey$Told;", false)
  | 12 => ("SmellAbbey", "taped", "I", false)
  | _ => ("SmellAbbey", "imaged", "Z", false)
def tyX9 : Nat → FieldType := fun k => match k with
  | 0 => .array .byte
  | 1 => .object "SmellAbbey$Reader"
  | 2 => .object "SmellAbbey$Notes"
  | 3 => .object "SmellAbbey$Undoing"
  | 4 => .object "SmellAbbey$State"
  | 5 => .object "SmellAbbey$State"
  | 6 => .object "SmellAbbey$State"
  | 7 => .object "SmellAbbey$Numbers"
  | 8 => .array .int
  | 9 => .array .int
  | 10 => .array .int
  | 11 => .object "SmellAbbey$Told"
  | 12 => .int
  | _ => .boolean
abbrev wsX90 : List Cond := u_ws RX9 TX9 14
theorem nmX9 : ∀ a, a < 14 → ∀ b, b < 14 → a ≠ b → (TX9 a).2.1 ≠ (TX9 b).2.1 := by decide +kernel
theorem tyX9_ok : ∀ k, k < 14 → parseFieldDescriptor (TX9 k).2.2.1 = some (tyX9 k) := by decide +kernel
abbrev cX9_init : ByteArray := prog_1_method_1_code
def yX9_init : MethodName := ⟨RX9, "<init>", "()V"⟩
abbrev cX9_feed : ByteArray := prog_1_method_2_code
def yX9_feed : MethodName := ⟨RX9, "feed", "(IIIII)I"⟩
abbrev cX9_tapeNumber : ByteArray := prog_1_method_3_code
def yX9_tapeNumber : MethodName := ⟨RX9, "tapeNumber", "(I)V"⟩
abbrev cX9_text : ByteArray := prog_1_method_4_code
def yX9_text : MethodName := ⟨RX9, "text", "(I)I"⟩
abbrev cX9_fault : ByteArray := prog_1_method_5_code
def yX9_fault : MethodName := ⟨RX9, "fault", "(I)I"⟩
abbrev cX9_named : ByteArray := prog_1_method_6_code
def yX9_named : MethodName := ⟨RX9, "named", "(II)I"⟩
abbrev cX9_monk : ByteArray := prog_1_method_7_code
def yX9_monk : MethodName := ⟨RX9, "monk", "(II)I"⟩
abbrev cX9_stuff : ByteArray := prog_1_method_8_code
def yX9_stuff : MethodName := ⟨RX9, "stuff", "(II)I"⟩
abbrev cX9_mix : ByteArray := prog_1_method_9_code
def yX9_mix : MethodName := ⟨RX9, "mix", "(II)I"⟩
abbrev cX9_feast : ByteArray := prog_1_method_10_code
def yX9_feast : MethodName := ⟨RX9, "feast", "(I)I"⟩
abbrev cX9_air : ByteArray := prog_1_method_11_code
def yX9_air : MethodName := ⟨RX9, "air", "(II)I"⟩
abbrev cX9_mark : ByteArray := prog_1_method_12_code
def yX9_mark : MethodName := ⟨RX9, "mark", "(II)I"⟩
abbrev cX9_law : ByteArray := prog_1_method_13_code
def yX9_law : MethodName := ⟨RX9, "law", "(III)J"⟩
abbrev cX9_cold : ByteArray := prog_1_method_14_code
def yX9_cold : MethodName := ⟨RX9, "cold", "(IIZ)Z"⟩
abbrev cX9_wind : ByteArray := prog_1_method_15_code
def yX9_wind : MethodName := ⟨RX9, "wind", "(II)Z"⟩
abbrev cX9_buy : ByteArray := prog_1_method_16_code
def yX9_buy : MethodName := ⟨RX9, "buy", "(II)I"⟩
abbrev cX9_goes : ByteArray := prog_1_method_17_code
def yX9_goes : MethodName := ⟨RX9, "goes", "(II)Z"⟩
abbrev cX9_go : ByteArray := prog_1_method_18_code
def yX9_go : MethodName := ⟨RX9, "go", "(I)I"⟩
abbrev cX9_mixedUp : ByteArray := prog_1_method_19_code
def yX9_mixedUp : MethodName := ⟨RX9, "mixedUp", "(I)I"⟩
abbrev cX9_pair : ByteArray := prog_1_method_20_code
def yX9_pair : MethodName := ⟨RX9, "pair", "(II)I"⟩
abbrev cX9_mending : ByteArray := prog_1_method_21_code
def yX9_mending : MethodName := ⟨RX9, "mending", "(IIII)I"⟩
abbrev cX9_moreThatIsSmelled : ByteArray := prog_1_method_22_code
def yX9_moreThatIsSmelled : MethodName := ⟨RX9, "moreThatIsSmelled", "(IIII)I"⟩
abbrev cX9_placeTo : ByteArray := prog_1_method_23_code
def yX9_placeTo : MethodName := ⟨RX9, "placeTo", "(II)I"⟩
abbrev cX9_lasts : ByteArray := prog_1_method_24_code
def yX9_lasts : MethodName := ⟨RX9, "lasts", "(I)I"⟩
abbrev cX9_needs : ByteArray := prog_1_method_25_code
def yX9_needs : MethodName := ⟨RX9, "needs", "(II)I"⟩
abbrev cX9_dearest : ByteArray := prog_1_method_26_code
def yX9_dearest : MethodName := ⟨RX9, "dearest", "(I)I"⟩
abbrev cX9_inPlace : ByteArray := prog_1_method_27_code
def yX9_inPlace : MethodName := ⟨RX9, "inPlace", "(II)I"⟩
abbrev cX9_markDaysInPlace : ByteArray := prog_1_method_28_code
def yX9_markDaysInPlace : MethodName := ⟨RX9, "markDaysInPlace", "(III)V"⟩
abbrev cX9_letter : ByteArray := prog_1_method_29_code
def yX9_letter : MethodName := ⟨RX9, "letter", "(III)I"⟩
abbrev cX9_firstWrong : ByteArray := prog_1_method_30_code
def yX9_firstWrong : MethodName := ⟨RX9, "firstWrong", "(I)I"⟩
abbrev cX9_rests : ByteArray := prog_1_method_31_code
def yX9_rests : MethodName := ⟨RX9, "rests", "(I)I"⟩
abbrev cX9_rest : ByteArray := prog_1_method_32_code
def yX9_rest : MethodName := ⟨RX9, "rest", "(II)I"⟩
abbrev cX9_canBurn : ByteArray := prog_1_method_33_code
def yX9_canBurn : MethodName := ⟨RX9, "canBurn", "(I)Z"⟩
abbrev cX9_countFeastThinkers : ByteArray := prog_1_method_34_code
def yX9_countFeastThinkers : MethodName := ⟨RX9, "countFeastThinkers", "(I)V"⟩
abbrev cX9_isRest : ByteArray := prog_1_method_35_code
def yX9_isRest : MethodName := ⟨RX9, "isRest", "(II)Z"⟩
abbrev cX9_note : ByteArray := prog_1_method_36_code
def yX9_note : MethodName := ⟨RX9, "note", "(IIIZ)I"⟩
abbrev cX9_out : ByteArray := prog_1_method_37_code
def yX9_out : MethodName := ⟨RX9, "out", "(I)I"⟩
abbrev cX9_known : ByteArray := prog_1_method_38_code
def yX9_known : MethodName := ⟨RX9, "known", "(I)Z"⟩
abbrev cX9_colds : ByteArray := prog_1_method_39_code
def yX9_colds : MethodName := ⟨RX9, "colds", "(I)I"⟩
abbrev cX9_agreesWithNotes : ByteArray := prog_1_method_40_code
def yX9_agreesWithNotes : MethodName := ⟨RX9, "agreesWithNotes", "()Z"⟩
abbrev cX9_chance : ByteArray := prog_1_method_41_code
def yX9_chance : MethodName := ⟨RX9, "chance", "(III)I"⟩
abbrev cX9_blowByChance : ByteArray := prog_1_method_42_code
def yX9_blowByChance : MethodName := ⟨RX9, "blowByChance", "()V"⟩
abbrev cX9_tried : ByteArray := prog_1_method_43_code
def yX9_tried : MethodName := ⟨RX9, "tried", "(III)I"⟩
abbrev cX9_changeTrial : ByteArray := prog_1_method_44_code
def yX9_changeTrial : MethodName := ⟨RX9, "changeTrial", "(II)V"⟩
abbrev cX9_undo : ByteArray := prog_1_method_45_code
def yX9_undo : MethodName := ⟨RX9, "undo", "()I"⟩
abbrev cX9_keep : ByteArray := prog_1_method_46_code
def yX9_keep : MethodName := ⟨RX9, "keep", "()I"⟩
abbrev cX9_back : ByteArray := prog_1_method_47_code
def yX9_back : MethodName := ⟨RX9, "back", "()I"⟩
abbrev cX9_count : ByteArray := prog_1_method_48_code
def yX9_count : MethodName := ⟨RX9, "count", "(I)I"⟩
abbrev cX9_allStores : ByteArray := prog_1_method_49_code
def yX9_allStores : MethodName := ⟨RX9, "allStores", "()I"⟩
abbrev cX9_has : ByteArray := prog_1_method_50_code
def yX9_has : MethodName := ⟨RX9, "has", "(II)Z"⟩
abbrev cX9_keenNow : ByteArray := prog_1_method_51_code
def yX9_keenNow : MethodName := ⟨RX9, "keenNow", "(I)I"⟩
abbrev cX9_markDays : ByteArray := prog_1_method_52_code
def yX9_markDays : MethodName := ⟨RX9, "markDays", "(II)V"⟩
abbrev cX9_alikePairs : ByteArray := prog_1_method_53_code
def yX9_alikePairs : MethodName := ⟨RX9, "alikePairs", "()I"⟩
abbrev cX9_unlikeMarks : ByteArray := prog_1_method_54_code
def yX9_unlikeMarks : MethodName := ⟨RX9, "unlikeMarks", "()I"⟩
def RX10 : String := "SmellAbbeyModel"
def TX10 : u_T := fun k => match k with
  | 0 => ("SmellAbbeyModel", "thrown", "I", false)
  | 1 => ("SmellAbbeyModel", "tape", "[I", true)
  | 2 => ("SmellAbbeyModel", "taped", "I", false)
  | 3 => ("SmellAbbeyModel", "number", "[I", true)
  | 4 => ("SmellAbbeyModel", "stuffName", "[I", true)
  | 5 => ("SmellAbbeyModel", "storeAs", "[I", true)
  | 6 => ("SmellAbbeyModel", "dayName", "[I", true)
  | 7 => ("SmellAbbeyModel", "feast", "[I", true)
  | 8 => ("SmellAbbeyModel", "mixed", "[I", true)
  | 9 => ("SmellAbbeyModel", "roomName", "[I", true)
  | 10 => ("SmellAbbeyModel", "partOf", "[I", true)
  | 11 => ("SmellAbbeyModel", "monkName", "[I", true)
  | 12 => ("SmellAbbeyModel", "roomAs", "[I", true)
  | 13 => ("SmellAbbeyModel", "noseOf", "[I", true)
  | 14 => ("SmellAbbeyModel", "sumFrom", "[I", true)
  | 15 => ("SmellAbbeyModel", "sumTo", "[I", true)
  | 16 => ("SmellAbbeyModel", "knotSort", "[I", true)
  | 17 => ("SmellAbbeyModel", "knotValue", "[I", true)
  | 18 => ("SmellAbbeyModel", "told", "I", false)
  | 19 => ("SmellAbbeyModel", "lines", "I", false)
  | 20 => ("SmellAbbeyModel", "size", "I", false)
  | 21 => ("SmellAbbeyModel", "at", "I", false)
  | 22 => ("SmellAbbeyModel", "place", "I", false)
  | 23 => ("SmellAbbeyModel", "sort", "I", false)
  | 24 => ("SmellAbbeyModel", "value", "I", false)
  | 25 => ("SmellAbbeyModel", "fault", "I", false)
  | 26 => ("SmellAbbeyModel", "faultPlace", "I", false)
  | 27 => ("SmellAbbeyModel", "lastFault", "I", false)
  | 28 => ("SmellAbbeyModel", "lastPlace", "I", false)
  | 29 => ("SmellAbbeyModel", "open", "I", false)
  | 30 => ("SmellAbbeyModel", "counted", "I", false)
  | 31 => ("SmellAbbeyModel", "names", "[J", true)
  | 32 => ("SmellAbbeyModel", "worked", "[J", true)
  | 33 => ("SmellAbbeyModel", "workedMany", "I", false)
  | 34 => ("SmellAbbeyModel", "date", "[I", true)
  | 35 => ("SmellAbbeyModel", "house", "[I", true)
  | 36 => ("SmellAbbeyModel", "right", "[I", true)
  | 37 => ("SmellAbbeyModel", "amiss", "[I", true)
  | 38 => ("SmellAbbeyModel", "drawn", "[I", true)
  | 39 => ("SmellAbbeyModel", "store", "[I", true)
  | 40 => ("SmellAbbeyModel", "wind", "[I", true)
  | 41 => ("SmellAbbeyModel", "airs", "[I", true)
  | 42 => ("SmellAbbeyModel", "room", "[I", true)
  | 43 => ("SmellAbbeyModel", "colds", "[I", true)
  | 44 => ("SmellAbbeyModel", "smelled", "[I", true)
  | 45 => ("SmellAbbeyModel", "thought", "[I", true)
  | 46 => ("SmellAbbeyModel", "hasImage", "Z", false)
  | 47 => ("SmellAbbeyModel", "undoMany", "I", false)
  | 48 => ("SmellAbbeyModel", "tryWhat", "I", false)
  | 49 => ("SmellAbbeyModel", "tryMonk", "I", false)
  | 50 => ("SmellAbbeyModel", "placeFrom", "I", false)
  | 51 => ("SmellAbbeyModel", "placeTo", "I", false)
  | 52 => ("SmellAbbeyModel", "moreDay", "I", false)
  | 53 => ("SmellAbbeyModel", "moreStuff", "I", false)
  | 54 => ("SmellAbbeyModel", "more", "I", false)
  | 55 => ("SmellAbbeyModel", "votes", "[I", true)
  | 56 => ("SmellAbbeyModel", "taken", "[I", true)
  | 57 => ("SmellAbbeyModel", "marks", "[I", true)
  | 58 => ("SmellAbbeyModel", "hasOne", "[I", true)
  | 59 => ("SmellAbbeyModel", "hasTwo", "[I", true)
  | 60 => ("SmellAbbeyModel", "notes", "I", false)
  | 61 => ("SmellAbbeyModel", "knownBy", "I", false)
  | 62 => ("SmellAbbeyModel", "noteMornings", "[I", true)
  | 63 => ("SmellAbbeyModel", "noteMonk", "[I", true)
  | 64 => ("SmellAbbeyModel", "noteDay", "[I", true)
  | 65 => ("SmellAbbeyModel", "noteIs", "[Z", true)
  | 66 => ("SmellAbbeyModel", "outs", "[I", true)
  | _ => ("SmellAbbeyModel", "isOut", "[Z", true)
def tyX10 : Nat → FieldType := fun k => match k with
  | 0 => .int
  | 1 => .array .int
  | 2 => .int
  | 3 => .array .int
  | 4 => .array .int
  | 5 => .array .int
  | 6 => .array .int
  | 7 => .array .int
  | 8 => .array .int
  | 9 => .array .int
  | 10 => .array .int
  | 11 => .array .int
  | 12 => .array .int
  | 13 => .array .int
  | 14 => .array .int
  | 15 => .array .int
  | 16 => .array .int
  | 17 => .array .int
  | 18 => .int
  | 19 => .int
  | 20 => .int
  | 21 => .int
  | 22 => .int
  | 23 => .int
  | 24 => .int
  | 25 => .int
  | 26 => .int
  | 27 => .int
  | 28 => .int
  | 29 => .int
  | 30 => .int
  | 31 => .array .long
  | 32 => .array .long
  | 33 => .int
  | 34 => .array .int
  | 35 => .array .int
  | 36 => .array .int
  | 37 => .array .int
  | 38 => .array .int
  | 39 => .array .int
  | 40 => .array .int
  | 41 => .array .int
  | 42 => .array .int
  | 43 => .array .int
  | 44 => .array .int
  | 45 => .array .int
  | 46 => .boolean
  | 47 => .int
  | 48 => .int
  | 49 => .int
  | 50 => .int
  | 51 => .int
  | 52 => .int
  | 53 => .int
  | 54 => .int
  | 55 => .array .int
  | 56 => .array .int
  | 57 => .array .int
  | 58 => .array .int
  | 59 => .array .int
  | 60 => .int
  | 61 => .int
  | 62 => .array .int
  | 63 => .array .int
  | 64 => .array .int
  | 65 => .array .boolean
  | 66 => .array .int
  | _ => .array .boolean
abbrev wsX100 : List Cond := u_ws RX10 TX10 68
theorem nmX10 : ∀ a, a < 68 → ∀ b, b < 68 → a ≠ b → (TX10 a).2.1 ≠ (TX10 b).2.1 := by decide +kernel
theorem tyX10_ok : ∀ k, k < 68 → parseFieldDescriptor (TX10 k).2.2.1 = some (tyX10 k) := by decide +kernel
abbrev cX10_init : ByteArray := prog_12_method_1_code
def yX10_init : MethodName := ⟨RX10, "<init>", "()V"⟩
abbrev cX10_thrown : ByteArray := prog_12_method_2_code
def yX10_thrown : MethodName := ⟨RX10, "thrown", "()I"⟩
abbrev cX10_feed : ByteArray := prog_12_method_3_code
def yX10_feed : MethodName := ⟨RX10, "feed", "(IIIII)I"⟩
abbrev cX10_here : ByteArray := prog_12_method_4_code
def yX10_here : MethodName := ⟨RX10, "here", "()I"⟩
abbrev cX10_isSmall : ByteArray := prog_12_method_5_code
def yX10_isSmall : MethodName := ⟨RX10, "isSmall", "(I)Z"⟩
abbrev cX10_isDigit : ByteArray := prog_12_method_6_code
def yX10_isDigit : MethodName := ⟨RX10, "isDigit", "(I)Z"⟩
abbrev cX10_token : ByteArray := prog_12_method_7_code
def yX10_token : MethodName := ⟨RX10, "token", "()V"⟩
abbrev cX10_sign : ByteArray := prog_12_method_8_code
def yX10_sign : MethodName := ⟨RX10, "sign", "(I)V"⟩
abbrev cX10_word : ByteArray := prog_12_method_9_code
def yX10_word : MethodName := ⟨RX10, "word", "()I"⟩
abbrev cX10_name : ByteArray := prog_12_method_10_code
def yX10_name : MethodName := ⟨RX10, "name", "()V"⟩
abbrev cX10_wrong : ByteArray := prog_12_method_11_code
def yX10_wrong : MethodName := ⟨RX10, "wrong", "(I)V"⟩
abbrev cX10_isWord : ByteArray := prog_12_method_12_code
def yX10_isWord : MethodName := ⟨RX10, "isWord", "(I)Z"⟩
abbrev cX10_isSign : ByteArray := prog_12_method_13_code
def yX10_isSign : MethodName := ⟨RX10, "isSign", "(I)Z"⟩
abbrev cX10_goOn : ByteArray := prog_12_method_14_code
def yX10_goOn : MethodName := ⟨RX10, "goOn", "()V"⟩
abbrev cX10_numeral : ByteArray := prog_12_method_15_code
def yX10_numeral : MethodName := ⟨RX10, "numeral", "(II)I"⟩
abbrev cX10_found : ByteArray := prog_12_method_16_code
def yX10_found : MethodName := ⟨RX10, "found", "([IIII)I"⟩
abbrev cX10_fresh : ByteArray := prog_12_method_17_code
def yX10_fresh : MethodName := ⟨RX10, "fresh", "([III)I"⟩
abbrev cX10_fresher : ByteArray := prog_12_method_18_code
def yX10_fresher : MethodName := ⟨RX10, "fresher", "(I)I"⟩
abbrev cX10_reads : ByteArray := prog_12_method_19_code
def yX10_reads : MethodName := ⟨RX10, "reads", "(II)V"⟩
abbrev cX10_isFull : ByteArray := prog_12_method_20_code
def yX10_isFull : MethodName := ⟨RX10, "isFull", "(I)Z"⟩
abbrev cX10_line : ByteArray := prog_12_method_21_code
def yX10_line : MethodName := ⟨RX10, "line", "()V"⟩
abbrev cX10_toldAhead : ByteArray := prog_12_method_22_code
def yX10_toldAhead : MethodName := ⟨RX10, "toldAhead", "([III)I"⟩
abbrev cX10_dayLine : ByteArray := prog_12_method_23_code
def yX10_dayLine : MethodName := ⟨RX10, "dayLine", "(I)V"⟩
abbrev cX10_mixLine : ByteArray := prog_12_method_24_code
def yX10_mixLine : MethodName := ⟨RX10, "mixLine", "()V"⟩
abbrev cX10_lawLine : ByteArray := prog_12_method_25_code
def yX10_lawLine : MethodName := ⟨RX10, "lawLine", "()V"⟩
abbrev cX10_puts : ByteArray := prog_12_method_26_code
def yX10_puts : MethodName := ⟨RX10, "puts", "(II)V"⟩
abbrev cX10_knot : ByteArray := prog_12_method_27_code
def yX10_knot : MethodName := ⟨RX10, "knot", "()V"⟩
abbrev cX10_expression : ByteArray := prog_12_method_28_code
def yX10_expression : MethodName := ⟨RX10, "expression", "()V"⟩
abbrev cX10_conjunction : ByteArray := prog_12_method_29_code
def yX10_conjunction : MethodName := ⟨RX10, "conjunction", "()V"⟩
abbrev cX10_negation : ByteArray := prog_12_method_30_code
def yX10_negation : MethodName := ⟨RX10, "negation", "()V"⟩
abbrev cX10_sum : ByteArray := prog_12_method_31_code
def yX10_sum : MethodName := ⟨RX10, "sum", "()V"⟩
abbrev cX10_product : ByteArray := prog_12_method_32_code
def yX10_product : MethodName := ⟨RX10, "product", "()V"⟩
abbrev cX10_primary : ByteArray := prog_12_method_33_code
def yX10_primary : MethodName := ⟨RX10, "primary", "()V"⟩
abbrev cX10_half : ByteArray := prog_12_method_34_code
def yX10_half : MethodName := ⟨RX10, "half", "([I)V"⟩
abbrev cX10_text : ByteArray := prog_12_method_35_code
def yX10_text : MethodName := ⟨RX10, "text", "(I)I"⟩
abbrev cX10_fault : ByteArray := prog_12_method_36_code
def yX10_fault : MethodName := ⟨RX10, "fault", "(I)I"⟩
abbrev cX10_named : ByteArray := prog_12_method_37_code
def yX10_named : MethodName := ⟨RX10, "named", "(II)I"⟩
abbrev cX10_is : ByteArray := prog_12_method_38_code
def yX10_is : MethodName := ⟨RX10, "is", "(Z)J"⟩
abbrev cX10_works : ByteArray := prog_12_method_39_code
def yX10_works : MethodName := ⟨RX10, "works", "(I)Z"⟩
abbrev cX10_comesOut : ByteArray := prog_12_method_40_code
def yX10_comesOut : MethodName := ⟨RX10, "comesOut", "(I)Z"⟩
abbrev cX10_hasLaw : ByteArray := prog_12_method_41_code
def yX10_hasLaw : MethodName := ⟨RX10, "hasLaw", "(I)Z"⟩
abbrev cX10_starts : ByteArray := prog_12_method_42_code
def yX10_starts : MethodName := ⟨RX10, "starts", "(I)V"⟩
abbrev cX10_begins : ByteArray := prog_12_method_43_code
def yX10_begins : MethodName := ⟨RX10, "begins", "()V"⟩
abbrev cX10_copies : ByteArray := prog_12_method_44_code
def yX10_copies : MethodName := ⟨RX10, "copies", "(II)V"⟩
abbrev cX10_isStuff : ByteArray := prog_12_method_45_code
def yX10_isStuff : MethodName := ⟨RX10, "isStuff", "(I)Z"⟩
abbrev cX10_isDay : ByteArray := prog_12_method_46_code
def yX10_isDay : MethodName := ⟨RX10, "isDay", "(I)Z"⟩
abbrev cX10_isRoom : ByteArray := prog_12_method_47_code
def yX10_isRoom : MethodName := ⟨RX10, "isRoom", "(I)Z"⟩
abbrev cX10_isMonk : ByteArray := prog_12_method_48_code
def yX10_isMonk : MethodName := ⟨RX10, "isMonk", "(I)Z"⟩
abbrev cX10_partIn : ByteArray := prog_12_method_49_code
def yX10_partIn : MethodName := ⟨RX10, "partIn", "(I)I"⟩
abbrev cX10_mixOf : ByteArray := prog_12_method_50_code
def yX10_mixOf : MethodName := ⟨RX10, "mixOf", "(II)I"⟩
abbrev cX10_calls : ByteArray := prog_12_method_51_code
def yX10_calls : MethodName := ⟨RX10, "calls", "(IIIIIII)V"⟩
abbrev cX10_within : ByteArray := prog_12_method_52_code
def yX10_within : MethodName := ⟨RX10, "within", "(IIII)I"⟩
abbrev cX10_keenIn : ByteArray := prog_12_method_53_code
def yX10_keenIn : MethodName := ⟨RX10, "keenIn", "(III)I"⟩
abbrev cX10_keenOf : ByteArray := prog_12_method_54_code
def yX10_keenOf : MethodName := ⟨RX10, "keenOf", "(II)I"⟩
abbrev cX10_coldsOf : ByteArray := prog_12_method_55_code
def yX10_coldsOf : MethodName := ⟨RX10, "coldsOf", "(II)I"⟩
abbrev cX10_worthOf : ByteArray := prog_12_method_56_code
def yX10_worthOf : MethodName := ⟨RX10, "worthOf", "(II)I"⟩
abbrev cX10_markBy : ByteArray := prog_12_method_57_code
def yX10_markBy : MethodName := ⟨RX10, "markBy", "(IIII)I"⟩
abbrev cX10_markOf : ByteArray := prog_12_method_58_code
def yX10_markOf : MethodName := ⟨RX10, "markOf", "(III)I"⟩
abbrev cX10_mixes : ByteArray := prog_12_method_59_code
def yX10_mixes : MethodName := ⟨RX10, "mixes", "(I)V"⟩
abbrev cX10_drifts : ByteArray := prog_12_method_60_code
def yX10_drifts : MethodName := ⟨RX10, "drifts", "(I)V"⟩
abbrev cX10_smells : ByteArray := prog_12_method_61_code
def yX10_smells : MethodName := ⟨RX10, "smells", "(II)I"⟩
abbrev cX10_thinks : ByteArray := prog_12_method_62_code
def yX10_thinks : MethodName := ⟨RX10, "thinks", "(II)I"⟩
abbrev cX10_keepsHouse : ByteArray := prog_12_method_63_code
def yX10_keepsHouse : MethodName := ⟨RX10, "keepsHouse", "(I)V"⟩
abbrev cX10_passes : ByteArray := prog_12_method_64_code
def yX10_passes : MethodName := ⟨RX10, "passes", "(I)V"⟩
abbrev cX10_monk : ByteArray := prog_12_method_65_code
def yX10_monk : MethodName := ⟨RX10, "monk", "(II)I"⟩
abbrev cX10_stuff : ByteArray := prog_12_method_66_code
def yX10_stuff : MethodName := ⟨RX10, "stuff", "(II)I"⟩
abbrev cX10_mix : ByteArray := prog_12_method_67_code
def yX10_mix : MethodName := ⟨RX10, "mix", "(II)I"⟩
abbrev cX10_feast : ByteArray := prog_12_method_68_code
def yX10_feast : MethodName := ⟨RX10, "feast", "(I)I"⟩
abbrev cX10_air : ByteArray := prog_12_method_69_code
def yX10_air : MethodName := ⟨RX10, "air", "(II)I"⟩
abbrev cX10_mark : ByteArray := prog_12_method_70_code
def yX10_mark : MethodName := ⟨RX10, "mark", "(II)I"⟩
abbrev cX10_law : ByteArray := prog_12_method_71_code
def yX10_law : MethodName := ⟨RX10, "law", "(III)J"⟩
abbrev cX10_keepNow : ByteArray := prog_12_method_72_code
def yX10_keepNow : MethodName := ⟨RX10, "keepNow", "()V"⟩
abbrev cX10_cold : ByteArray := prog_12_method_73_code
def yX10_cold : MethodName := ⟨RX10, "cold", "(IIZ)Z"⟩
abbrev cX10_wind : ByteArray := prog_12_method_74_code
def yX10_wind : MethodName := ⟨RX10, "wind", "(II)Z"⟩
abbrev cX10_buy : ByteArray := prog_12_method_75_code
def yX10_buy : MethodName := ⟨RX10, "buy", "(II)I"⟩
abbrev cX10_goes : ByteArray := prog_12_method_76_code
def yX10_goes : MethodName := ⟨RX10, "goes", "(II)Z"⟩
abbrev cX10_go : ByteArray := prog_12_method_77_code
def yX10_go : MethodName := ⟨RX10, "go", "(I)I"⟩
abbrev cX10_layMarks : ByteArray := prog_12_method_78_code
def yX10_layMarks : MethodName := ⟨RX10, "layMarks", "(I)V"⟩
abbrev cX10_pairOf : ByteArray := prog_12_method_79_code
def yX10_pairOf : MethodName := ⟨RX10, "pairOf", "(II)I"⟩
abbrev cX10_mixedUp : ByteArray := prog_12_method_80_code
def yX10_mixedUp : MethodName := ⟨RX10, "mixedUp", "(I)I"⟩
abbrev cX10_pair : ByteArray := prog_12_method_81_code
def yX10_pair : MethodName := ⟨RX10, "pair", "(II)I"⟩
abbrev cX10_mending : ByteArray := prog_12_method_82_code
def yX10_mending : MethodName := ⟨RX10, "mending", "(IIII)I"⟩
abbrev cX10_placeTo : ByteArray := prog_12_method_83_code
def yX10_placeTo : MethodName := ⟨RX10, "placeTo", "(II)I"⟩
abbrev cX10_lasts : ByteArray := prog_12_method_84_code
def yX10_lasts : MethodName := ⟨RX10, "lasts", "(I)I"⟩
abbrev cX10_needs : ByteArray := prog_12_method_85_code
def yX10_needs : MethodName := ⟨RX10, "needs", "(II)I"⟩
abbrev cX10_dearest : ByteArray := prog_12_method_86_code
def yX10_dearest : MethodName := ⟨RX10, "dearest", "(I)I"⟩
abbrev cX10_inPlace : ByteArray := prog_12_method_87_code
def yX10_inPlace : MethodName := ⟨RX10, "inPlace", "(II)I"⟩
abbrev cX10_letter : ByteArray := prog_12_method_88_code
def yX10_letter : MethodName := ⟨RX10, "letter", "(III)I"⟩
abbrev cX10_firstWrong : ByteArray := prog_12_method_89_code
def yX10_firstWrong : MethodName := ⟨RX10, "firstWrong", "(I)I"⟩
abbrev cX10_laySextons : ByteArray := prog_12_method_90_code
def yX10_laySextons : MethodName := ⟨RX10, "laySextons", "(I)V"⟩
abbrev cX10_isRest : ByteArray := prog_12_method_91_code
def yX10_isRest : MethodName := ⟨RX10, "isRest", "(II)Z"⟩
abbrev cX10_restOf : ByteArray := prog_12_method_92_code
def yX10_restOf : MethodName := ⟨RX10, "restOf", "(II)I"⟩
abbrev cX10_areSextons : ByteArray := prog_12_method_93_code
def yX10_areSextons : MethodName := ⟨RX10, "areSextons", "(I)Z"⟩
abbrev cX10_rests : ByteArray := prog_12_method_94_code
def yX10_rests : MethodName := ⟨RX10, "rests", "(I)I"⟩
abbrev cX10_rest : ByteArray := prog_12_method_95_code
def yX10_rest : MethodName := ⟨RX10, "rest", "(II)I"⟩
abbrev cX10_note : ByteArray := prog_12_method_96_code
def yX10_note : MethodName := ⟨RX10, "note", "(IIIZ)I"⟩
abbrev cX10_out : ByteArray := prog_12_method_97_code
def yX10_out : MethodName := ⟨RX10, "out", "(I)I"⟩
abbrev cX10_known : ByteArray := prog_12_method_98_code
def yX10_known : MethodName := ⟨RX10, "known", "(I)Z"⟩
abbrev cX10_knownMany : ByteArray := prog_12_method_99_code
def yX10_knownMany : MethodName := ⟨RX10, "knownMany", "()I"⟩
abbrev cX10_isSo : ByteArray := prog_12_method_100_code
def yX10_isSo : MethodName := ⟨RX10, "isSo", "(I)Z"⟩
abbrev cX10_fitsCold : ByteArray := prog_12_method_101_code
def yX10_fitsCold : MethodName := ⟨RX10, "fitsCold", "(III)Z"⟩
abbrev cX10_colds : ByteArray := prog_12_method_102_code
def yX10_colds : MethodName := ⟨RX10, "colds", "(I)I"⟩
abbrev cX10_draw : ByteArray := prog_12_method_103_code
def yX10_draw : MethodName := ⟨RX10, "draw", "(I)I"⟩
abbrev cX10_chance : ByteArray := prog_12_method_104_code
def yX10_chance : MethodName := ⟨RX10, "chance", "(III)I"⟩
abbrev cX10_tried : ByteArray := prog_12_method_105_code
def yX10_tried : MethodName := ⟨RX10, "tried", "(III)I"⟩
abbrev cX10_undo : ByteArray := prog_12_method_106_code
def yX10_undo : MethodName := ⟨RX10, "undo", "()I"⟩
abbrev cX10_keep : ByteArray := prog_12_method_107_code
def yX10_keep : MethodName := ⟨RX10, "keep", "()I"⟩
abbrev cX10_back : ByteArray := prog_12_method_108_code
def yX10_back : MethodName := ⟨RX10, "back", "()I"⟩
abbrev cX10_count : ByteArray := prog_12_method_109_code
def yX10_count : MethodName := ⟨RX10, "count", "(I)I"⟩
def RJ9 : String := "java/lang/Math"
abbrev cJ9_abs_067f4 : ByteArray := prog_18_method_61_code
def yJ9_abs_067f4 : MethodName := ⟨RJ9, "abs", "(J)J"⟩
abbrev cJ9_max_7cf53 : ByteArray := prog_18_method_65_code
def yJ9_max_7cf53 : MethodName := ⟨RJ9, "max", "(II)I"⟩
abbrev cJ9_max_f86c9 : ByteArray := prog_18_method_66_code
def yJ9_max_f86c9 : MethodName := ⟨RJ9, "max", "(JJ)J"⟩
abbrev cJ9_min_7cf53 : ByteArray := prog_18_method_69_code
def yJ9_min_7cf53 : MethodName := ⟨RJ9, "min", "(II)I"⟩
abbrev cJ9_min_f86c9 : ByteArray := prog_18_method_70_code
def yJ9_min_f86c9 : MethodName := ⟨RJ9, "min", "(JJ)J"⟩
def RJ0 : String := "java/lang/String"
abbrev cJ0_length_8abf5 : ByteArray := prog_20_method_54_code
def yJ0_length_8abf5 : MethodName := ⟨RJ0, "length", "()I"⟩
abbrev cJ0_charAt_5068e : ByteArray := prog_20_method_56_code
def yJ0_charAt_5068e : MethodName := ⟨RJ0, "charAt", "(I)C"⟩
abbrev cJ0_coder_7d493 : ByteArray := prog_20_method_152_code
def yJ0_coder_7d493 : MethodName := ⟨RJ0, "coder", "()B"⟩
abbrev cJ0_isLatin1_aae02 : ByteArray := prog_20_method_154_code
def yJ0_isLatin1_aae02 : MethodName := ⟨RJ0, "isLatin1", "()Z"⟩
abbrev cJ0_checkIndex_df160 : ByteArray := prog_20_method_155_code
def yJ0_checkIndex_df160 : MethodName := ⟨RJ0, "checkIndex", "(II)V"⟩
def RJ1 : String := "java/lang/StringLatin1"
abbrev cJ1_charAt_3b067 : ByteArray := prog_21_method_2_code
def yJ1_charAt_3b067 : MethodName := ⟨RJ1, "charAt", "([BI)C"⟩
def RJ2 : String := "java/lang/StringUTF16"
abbrev cJ2_getChar_3b067 : ByteArray := prog_22_method_5_code
def yJ2_getChar_3b067 : MethodName := ⟨RJ2, "getChar", "([BI)C"⟩
abbrev cJ2_length_9d52b : ByteArray := prog_22_method_6_code
def yJ2_length_9d52b : MethodName := ⟨RJ2, "length", "([B)I"⟩
abbrev cJ2_charAt_3b067 : ByteArray := prog_22_method_83_code
def yJ2_charAt_3b067 : MethodName := ⟨RJ2, "charAt", "([BI)C"⟩
abbrev cJ2_checkIndex_2214a : ByteArray := prog_22_method_91_code
def yJ2_checkIndex_2214a : MethodName := ⟨RJ2, "checkIndex", "(I[B)V"⟩
def RJ10 : String := "java/lang/System"
def RJ3 : String := "jdk/internal/util/Preconditions"
abbrev cJ3_checkIndex_8e157 : ByteArray := prog_28_method_11_code
def yJ3_checkIndex_8e157 : MethodName := ⟨RJ3, "checkIndex", "(IILjava/util/function/BiFunction;)I"⟩
def RL : String := "SmellAbbeyLaw"
abbrev cL_monk : ByteArray := method_3_code
def yL_monk : MethodName := ⟨RL, "monk", "(LSmellAbbey;II[J)I"⟩
abbrev cL_law : ByteArray := code
def yL_law : MethodName := ⟨RL, "law", "([I)Z"⟩
abbrev vwCl : List vw_C := [(RX0, TX0, 9), (RX1, TX1, 8), (RX2, TX2, 1), (RX3, TX3, 9), (RX4, TX4, 8), (RX5, TX5, 15), (RX7, TX7, 13), (RX8, TX8, 4), (RX9, TX9, 14), (RX10, TX10, 68)]
end
section
/-! THE BASE: a typed memory (kinds, lengths, references, ints, longs) in place of the machine's heap, and zGo, the machine at a place of a method over such a memory. Rows z_.. : a row an instruction. -/
def zU : Value := .retAddr 0
abbrev zMem : Type := (Nat × Nat × Nat) × ((Nat → Nat) × (Nat → Nat) × (Nat → Nat → Option Nat)) × ((Nat → Nat → Int32) × (Nat → Nat → Int64))
def zn (h : zMem) : Nat := h.1.1
def zx (h : zMem) : Nat := h.1.2.1
def zs (h : zMem) : Nat := h.1.2.2
def zK (h : zMem) : Nat → Nat := h.2.1.1
def zLen (h : zMem) : Nat → Nat := h.2.1.2.1
def zR (h : zMem) : Nat → Nat → Option Nat := h.2.1.2.2
def zI (h : zMem) : Nat → Nat → Int32 := h.2.2.1
def zL (h : zMem) : Nat → Nat → Int64 := h.2.2.2
def zup {α : Type} (f : Nat → Nat → α) (a i : Nat) (v : α) : Nat → Nat → α := fun b j => if b = a then (if j = i then v else f b j) else f b j
def zsI (h : zMem) (a i : Nat) (v : Int32) : zMem := (h.1, h.2.1, (zup (zI h) a i v, zL h))
def zsL (h : zMem) (a i : Nat) (v : Int64) : zMem := (h.1, h.2.1, (zI h, zup (zL h) a i v))
def zsR (h : zMem) (a i : Nat) (v : Option Nat) : zMem := (h.1, (zK h, zLen h, zup (zR h) a i v), h.2.2)
/-- a new cell: kind, length, what its ints, longs and references are at first -/
def zup1 {α : Type} (f : Nat → α) (a : Nat) (v : α) : Nat → α := fun b => if b = a then v else f b
def znew (h : zMem) (kd len sl : Nat) : zMem := ((zn h + 1, zx h, zs h + sl), (zup1 (zK h) (zn h) kd, zup1 (zLen h) (zn h) len, zup1 (zR h) (zn h) (fun _ => none)), (zup1 (zI h) (zn h) (fun _ => 0), zup1 (zL h) (zn h) (fun _ => 0)))
theorem zn_sI (h : zMem) (a i : Nat) (v : Int32) : zn (zsI h a i v) = zn h := rfl
theorem zx_sI (h : zMem) (a i : Nat) (v : Int32) : zx (zsI h a i v) = zx h := rfl
theorem zs_sI (h : zMem) (a i : Nat) (v : Int32) : zs (zsI h a i v) = zs h := rfl
theorem zK_sI (h : zMem) (a i : Nat) (v : Int32) : zK (zsI h a i v) = zK h := rfl
theorem zLen_sI (h : zMem) (a i : Nat) (v : Int32) : zLen (zsI h a i v) = zLen h := rfl
theorem zR_sI (h : zMem) (a i : Nat) (v : Int32) : zR (zsI h a i v) = zR h := rfl
theorem zL_sI (h : zMem) (a i : Nat) (v : Int32) : zL (zsI h a i v) = zL h := rfl
theorem zI_sI (h : zMem) (a i : Nat) (v : Int32) : zI (zsI h a i v) = zup (zI h) a i v := rfl
theorem zn_sL (h : zMem) (a i : Nat) (v : Int64) : zn (zsL h a i v) = zn h := rfl
theorem zx_sL (h : zMem) (a i : Nat) (v : Int64) : zx (zsL h a i v) = zx h := rfl
theorem zs_sL (h : zMem) (a i : Nat) (v : Int64) : zs (zsL h a i v) = zs h := rfl
theorem zK_sL (h : zMem) (a i : Nat) (v : Int64) : zK (zsL h a i v) = zK h := rfl
theorem zLen_sL (h : zMem) (a i : Nat) (v : Int64) : zLen (zsL h a i v) = zLen h := rfl
theorem zR_sL (h : zMem) (a i : Nat) (v : Int64) : zR (zsL h a i v) = zR h := rfl
theorem zI_sL (h : zMem) (a i : Nat) (v : Int64) : zI (zsL h a i v) = zI h := rfl
theorem zL_sL (h : zMem) (a i : Nat) (v : Int64) : zL (zsL h a i v) = zup (zL h) a i v := rfl
theorem zn_sR (h : zMem) (a i : Nat) (v : Option Nat) : zn (zsR h a i v) = zn h := rfl
theorem zx_sR (h : zMem) (a i : Nat) (v : Option Nat) : zx (zsR h a i v) = zx h := rfl
theorem zs_sR (h : zMem) (a i : Nat) (v : Option Nat) : zs (zsR h a i v) = zs h := rfl
theorem zK_sR (h : zMem) (a i : Nat) (v : Option Nat) : zK (zsR h a i v) = zK h := rfl
theorem zLen_sR (h : zMem) (a i : Nat) (v : Option Nat) : zLen (zsR h a i v) = zLen h := rfl
theorem zR_sR (h : zMem) (a i : Nat) (v : Option Nat) : zR (zsR h a i v) = zup (zR h) a i v := rfl
theorem zI_sR (h : zMem) (a i : Nat) (v : Option Nat) : zI (zsR h a i v) = zI h := rfl
theorem zL_sR (h : zMem) (a i : Nat) (v : Option Nat) : zL (zsR h a i v) = zL h := rfl
theorem zup_s {α : Type} (f : Nat → Nat → α) (a i : Nat) (v : α) : zup f a i v a i = v := by simp [zup]
theorem zup_a {α : Type} (f : Nat → Nat → α) {a i : Nat} (v : α) {b : Nat} (j : Nat) (h : b ≠ a) : zup f a i v b j = f b j := by simp [zup, h]
theorem zup_i {α : Type} (f : Nat → Nat → α) {a i : Nat} (v : α) (b : Nat) {j : Nat} (h : j ≠ i) : zup f a i v b j = f b j := by simp [zup, h]
/-- the world that all is about: slots of the classes, array classes, addresses of what was there ahead, the heap at the start, what else is known of a state -/
abbrev zG : Type := va_G × (Nat → ClassId) × (Nat → Nat) × Heap × (State → Prop)
def gD (G : zG) : va_G := G.1
def gA (G : zG) : Nat → ClassId := G.2.1
def gX (G : zG) : Nat → Nat := G.2.2.1
def gH (G : zG) : Heap := G.2.2.2.1
def gE (G : zG) : State → Prop := G.2.2.2.2
def zad (G : zG) (k : Nat) : Nat := if k < 1000000 then (gH G).size + k else gX G (k - 1000000)
def zrv (G : zG) : Value → Value
  | .ref k => .ref (zad G k)
  | v => v
def zcl : List vw_C := vwCl
def zty : Nat → Nat → FieldType
  | 0 => tyX0
  | 1 => tyX1
  | 2 => tyX2
  | 3 => tyX3
  | 4 => tyX4
  | 5 => tyX5
  | 6 => tyX7
  | 7 => tyX8
  | 8 => tyX9
  | _ => tyX10
def zfn (ci : Nat) : Nat := match zcl[ci]? with
  | some q => q.2.2
  | none => 0
def zfv (G : zG) (h : zMem) (k ci j : Nat) : Value := match zty ci j with
  | .long => .long (zL h k j)
  | .object _ => va_rf ((zR h k j).map (zad G))
  | .array _ => va_rf ((zR h k j).map (zad G))
  | _ => .int (zI h k j)
def zfs (G : zG) (h : zMem) (k ci : Nat) : List Value := (List.range (zfn ci)).map (zfv G h k ci)
def zcell (G : zG) (h : zMem) (k : Nat) : va_E :=
  if zK h k = 100 then .inl (gA G 0, zLen h k, .inl (zI h k))
  else if zK h k = 101 then .inl (gA G 1, zLen h k, .inr (.inl (zL h k)))
  else if zK h k = 102 then .inl (gA G 2, zLen h k, .inl (zI h k))
  else if zK h k = 103 then .inl (gA G 3, zLen h k, .inl (zI h k))
  else if zK h k = 104 then .inl (gA G 4, zLen h k, .inr (.inr (.inr (.inr (fun j => (zR h k j).map (zad G))))))
  else .inr (zK h k, zfs G h k (zK h k))
def zw (G : zG) (h : zMem) : va_W := (List.range (zn h)).map (fun k => (zad G k, zcell G h k))
def zA (G : zG) : Nat → Prop := fun q => (gH G).size ≤ q
theorem zw_at {G : zG} {h : zMem} {k : Nat} (hk : k < zn h) : (zw G h)[k]? = some (zad G k, zcell G h k) := by simp [zw, hk]
theorem zw_some {G : zG} {h : zMem} {k : Nat} {q : Nat × va_E} (hq : (zw G h)[k]? = some q) : k < zn h ∧ q = (zad G k, zcell G h k) := by
  have hk : k < zn h := by
    have := (List.getElem?_eq_some_iff.mp hq).1
    simpa [zw] using this
  rw [zw_at hk] at hq
  exact ⟨hk, (Option.some.inj hq).symm⟩
theorem zad_lt {G : zG} {k : Nat} (h : k < 1000000) : zad G k = (gH G).size + k := if_pos h
theorem zw_D {G : zG} {h : zMem} (hn : zn h ≤ 1000000) : va_D (zA G) (zw G h) := by
  refine ⟨fun i j p q hi hj hpq => ?_, fun k q hk => ?_⟩
  · obtain ⟨h1, rfl⟩ := zw_some hi
    obtain ⟨h2, rfl⟩ := zw_some hj
    dsimp only at hpq
    rw [zad_lt (by omega), zad_lt (by omega)] at hpq
    omega
  · obtain ⟨h1, rfl⟩ := zw_some hk
    show (gH G).size ≤ zad G k
    rw [zad_lt (by omega)]
    omega
theorem zw_set {G : zG} {h h' : zMem} {k : Nat} {e : va_E} (hk : k < zn h) (hn : zn h' = zn h) (he : e = zcell G h' k) (ho : ∀ j, j ≠ k → zcell G h' j = zcell G h j) : (zw G h).set k (zad G k, e) = zw G h' := by
  subst he
  apply List.ext_getElem?
  intro j
  by_cases hj : j = k
  · subst hj
    rw [List.getElem?_set_self (by simp [zw]; exact hk), zw_at (by omega)]
  · rw [List.getElem?_set_ne (Ne.symm hj)]
    by_cases hl : j < zn h
    · rw [zw_at hl, zw_at (by omega), ho j hj]
    · rw [List.getElem?_eq_none (by simp [zw]; omega), List.getElem?_eq_none (by simp [zw]; omega)]
def zRep (G : zG) (h : zMem) (H : Heap) (locs : List Loc) : Prop := va_P (gD G) zcl (zw G h) H ∧ va_S (zA G) (gH G) H locs ∧ H.size = (gH G).size + zn h + zx h ∧ zn h ≤ 1000000
def zTy (G : zG) : List (ClassId × FieldType) := [(gA G 0, .int), (gA G 1, .long), (gA G 2, .byte), (gA G 3, .boolean), (gA G 4, .array .int)]
def zKK (G : zG) (U : State) : Prop := va_K (gD G) zcl (zTy G) U ∧ (gE G U ∧ ∀ s V : State, (s.WarmedH V.vm ∨ s.vm = V.vm) → gE G s → gE G V)
/-- the words that every method is given -/
def ztb : List Cond := lw_tbl.filter goodWord
theorem ztb_in {w : Cond} (h : w ∈ lw_tbl) (hg : goodWord w = true) : w ∈ ztb := List.mem_filter.mpr ⟨h, hg⟩
theorem ztb_t {w : Cond} (h : w ∈ tables_1) (hg : goodWord w = true) : w ∈ ztb := ztb_in (List.mem_append_right _ h) hg
theorem ztb_good : ∀ w ∈ ztb, goodWord w = true := fun w h => (List.mem_filter.mp h).2
/-- a method: name, bytes, locals, return type, instructions -/
abbrev zM : Type := MethodName × ByteArray × Nat × Option FieldType × List (Nat × Instr × Nat)
def zroom (d bc bs : Nat) : Room := { frames := d, cells := bc, slots := bs, locals := 64 * d }
/-- cells and slots at the method's entry; how many it makes -/
abbrev zB : Type := Nat × Nat × Nat × Nat
def zdec (μ : zM) : Prop := ∀ q ∈ μ.2.2.2.2, decode μ.2.1 q.1 = .ok q.2
def zCtx (G : zG) (μ : zM) (d : Nat) (b : zB) (p : Program) (R : Room) (s : State) (m : MethodId) (args : Array Value) (meth : Method) (c : Code) : Prop :=
  p.tables.exec = Jvm.exec ∧ c.code = μ.2.1 ∧ c.maxLocals = μ.2.2.1 ∧ meth.sig.returnType = μ.2.2.2.1 ∧ meth.locks = false ∧ s.vm.findClass μ.1.cls = some m.cls ∧ (∀ w ∈ ztb, w.before args s = true) ∧ zKK G s ∧ (μ.1.name = "<init>" → meth.name = "<init>") ∧ zdec μ ∧ R = zroom d b.2.2.1 b.2.2.2
def zQ (G : zG) (b : zB) (Post : Option Value → zMem → Prop) : Array Value → State → Outcome → State → Prop := fun _ _ o t => ∃ (r : Option Value) (h' : zMem), o = .returned (r.map (zrv G)) ∧ Post r h' ∧ zRep G h' t.heap [] ∧ zn h' + zx h' = b.1 + b.2.2.1 ∧ zs h' = b.2.1 + b.2.2.2
def zisU (v : Value) : Bool := match v with
  | .retAddr _ => true
  | _ => false
def zLv (G : zG) (ls : Array Slot) (nL : Nat) (lv : List Value) : Prop := ls.size = nL ∧ lv_wf ls ∧ ∀ (i : Nat) (v : Value), lv[i]? = some v → zisU v = false → ls[i]? = some (.val (zrv G v))
/-- THE MACHINE at a place of a method: it comes to the method's end, with Post -/
def zGo (G : zG) (μ : zM) (d : Nat) (b : zB) (pc : Nat) (lv st : List Value) (h : zMem) (Post : Option Value → zMem → Prop) : Prop :=
  ∀ (p : Program) (l : Launch) (e : Env) (R : Room) (s : State) (m : MethodId) (args : Array Value) (below : List Frame) (meth : Method) (c : Code), zCtx G μ d b p R s m args meth c →
    ∀ (H : Heap) (locs : List Loc) (ls : Array Slot), zRep G h H locs → zLv G ls μ.2.2.1 lv → b.1 ≤ zn h + zx h → b.2.1 ≤ zs h →
      W p l e R s m args below meth c H locs (zn h + zx h - b.1) (zs h - b.2.1) (MQ below (zQ G b Post) args s b.2.2.1 b.2.2.2 (zA G)) (F0 m pc ls (st.map (zrv G)))
/-- A METHOD'S CONTRACT: from these arguments and this memory it comes to its end with Post -/
def zCon (G : zG) (μ : zM) (d bc bs : Nat) (as : List Value) (h : zMem) (Post : Option Value → zMem → Prop) : Prop :=
  ∀ l : Launch, Met l μ.1 (Cond.code μ.1 μ.2.1 μ.2.2.1 μ.2.2.2.1 :: ztb) (zroom d bc bs) (fun a U => a = (as.map (zrv G)).toArray ∧ zRep G h U.heap [] ∧ zKK G U) (zQ G (zn h + zx h, zs h, bc, bs) Post) bc bs (zA G)
section ZB
variable {G : zG} {μ : zM} {d : Nat} {b : zB} {pc : Nat} {lv st : List Value} {h : zMem} {P : Option Value → zMem → Prop}
theorem zdg {G : zG} {μ : zM} {d : Nat} {b : zB} {p : Program} {R : Room} {s : State} {m : MethodId} {args : Array Value} {meth : Method} {c : Code} (C : zCtx G μ d b p R s m args meth c) {i pc n : Nat} {x : Instr} (hi : μ.2.2.2.2[i]? = some (pc, x, n)) : decode μ.2.1 pc = .ok (x, n) := C.2.2.2.2.2.2.2.2.2.1 (pc, x, n) (List.mem_of_getElem? hi)
theorem zgo_eq {pc2 : Nat} {lv2 st2 : List Value} (h1 : pc = pc2) (h2 : lv = lv2) (h3 : st = st2) (k : zGo G μ d b pc2 lv2 st2 h P) : zGo G μ d b pc lv st h P := by subst h1; subst h2; subst h3; exact k
theorem zgo_mem {h2 : zMem} (h1 : h = h2) (k : zGo G μ d b pc lv st h2 P) : zGo G μ d b pc lv st h P := by subst h1; exact k
theorem zgo_post {P2 : Option Value → zMem → Prop} (k : zGo G μ d b pc lv st h P2) (hp : ∀ r h', P2 r h' → P r h') : zGo G μ d b pc lv st h P := by
  intro p l e R s m args below meth c C H locs ls hR hl h1 h2 T hT X
  obtain ⟨t, a1, o, b1, b2, ⟨r, h', q1, q2, q3⟩, b4⟩ := k p l e R s m args below meth c C H locs ls hR hl h1 h2 T hT X
  exact ⟨t, a1, o, b1, b2, ⟨r, h', q1, hp r h' q2, q3⟩, b4⟩
theorem z_iconst (i : Nat) {n : Int} {v : Int32} (hi : μ.2.2.2.2[i]? = some (pc, .iconst n, 1)) (hv : Int32.ofInt n = v) (k : zGo G μ d b (pc + 1) lv (.int v :: st) h P) : zGo G μ d b pc lv (st) h P := by
  intro p l e R s m args below meth c C H locs ls hR hl h1 h2
  exact lv_iconst C.1 C.2.1 (zdg C hi) hv (k p l e R s m args below meth c C H locs ls hR hl h1 h2)
theorem z_bipush (i : Nat) {n : Int} {v : Int32} (hi : μ.2.2.2.2[i]? = some (pc, .bipush n, 2)) (hv : (Int8.ofInt n).toInt32 = v) (k : zGo G μ d b (pc + 2) lv (.int v :: st) h P) : zGo G μ d b pc lv (st) h P := by
  intro p l e R s m args below meth c C H locs ls hR hl h1 h2
  exact lv_bipush C.1 C.2.1 (zdg C hi) hv (k p l e R s m args below meth c C H locs ls hR hl h1 h2)
theorem z_sipush (i : Nat) {n : Int} {v : Int32} (hi : μ.2.2.2.2[i]? = some (pc, .sipush n, 3)) (hv : (Int16.ofInt n).toInt32 = v) (k : zGo G μ d b (pc + 3) lv (.int v :: st) h P) : zGo G μ d b pc lv (st) h P := by
  intro p l e R s m args below meth c C H locs ls hR hl h1 h2
  exact lv_sipush C.1 C.2.1 (zdg C hi) hv (k p l e R s m args below meth c C H locs ls hR hl h1 h2)
theorem z_lconst (i : Nat) {n : Fin 2} {v : Int64} (hi : μ.2.2.2.2[i]? = some (pc, .lconst n, 1)) (hv : Int64.ofNat (n : Nat) = v) (k : zGo G μ d b (pc + 1) lv (.long v :: st) h P) : zGo G μ d b pc lv (st) h P := by
  intro p l e R s m args below meth c C H locs ls hR hl h1 h2
  exact lv_lconst C.1 C.2.1 (zdg C hi) hv (k p l e R s m args below meth c C H locs ls hR hl h1 h2)
theorem z_ldc (i : Nat) {index : Nat} {v : Int32} (hi : μ.2.2.2.2[i]? = some (pc, .ldc index, 2)) (hc : Cond.constant μ.1.cls index v ∈ ztb) (k : zGo G μ d b (pc + 2) lv (.int v :: st) h P) : zGo G μ d b pc lv (st) h P := by
  intro p l e R s m args below meth c C H locs ls hR hl h1 h2
  exact lv_ldc C.1 C.2.1 C.2.2.2.2.2.1 (C.2.2.2.2.2.2.1 _ hc) (zdg C hi) (k p l e R s m args below meth c C H locs ls hR hl h1 h2)
theorem z_ldcw (i : Nat) {index : Nat} {v : Int32} (hi : μ.2.2.2.2[i]? = some (pc, .ldc_w index, 3)) (hc : Cond.constant μ.1.cls index v ∈ ztb) (k : zGo G μ d b (pc + 3) lv (.int v :: st) h P) : zGo G μ d b pc lv (st) h P := by
  intro p l e R s m args below meth c C H locs ls hR hl h1 h2
  exact lv_ldcw C.1 C.2.1 C.2.2.2.2.2.1 (C.2.2.2.2.2.2.1 _ hc) (zdg C hi) (k p l e R s m args below meth c C H locs ls hR hl h1 h2)
theorem z_ldc2 (i : Nat) {index : Nat} {v : Int64} (hi : μ.2.2.2.2[i]? = some (pc, .ldc2_w index, 3)) (hc : Cond.constantLong μ.1.cls index v ∈ ztb) (k : zGo G μ d b (pc + 3) lv (.long v :: st) h P) : zGo G μ d b pc lv (st) h P := by
  intro p l e R s m args below meth c C H locs ls hR hl h1 h2
  exact lv_ldc2 C.1 C.2.1 C.2.2.2.2.2.1 (C.2.2.2.2.2.2.1 _ hc) (zdg C hi) (k p l e R s m args below meth c C H locs ls hR hl h1 h2)
theorem z_iload_n (i : Nat) {n : Fin 4} {x : Int32} (hi : μ.2.2.2.2[i]? = some (pc, .iload_n n, 1)) (hx : lv[(n : Nat)]? = some (.int x)) (k : zGo G μ d b (pc + 1) lv (.int x :: st) h P) : zGo G μ d b pc lv (st) h P := by
  intro p l e R s m args below meth c C H locs ls hR hl h1 h2
  exact lv_iload_n C.1 C.2.1 (zdg C hi) rfl (hl.2.2 _ _ hx rfl) (k p l e R s m args below meth c C H locs ls hR hl h1 h2)
theorem z_iload (i : Nat) {n : Nat} {x : Int32} (hi : μ.2.2.2.2[i]? = some (pc, .iload n, 2)) (hx : lv[n]? = some (.int x)) (k : zGo G μ d b (pc + 2) lv (.int x :: st) h P) : zGo G μ d b pc lv (st) h P := by
  intro p l e R s m args below meth c C H locs ls hR hl h1 h2
  exact lv_iload C.1 C.2.1 (zdg C hi) (hl.2.2 _ _ hx rfl) (k p l e R s m args below meth c C H locs ls hR hl h1 h2)
theorem z_lload_n (i : Nat) {n : Fin 4} {x : Int64} (hi : μ.2.2.2.2[i]? = some (pc, .lload_n n, 1)) (hx : lv[(n : Nat)]? = some (.long x)) (k : zGo G μ d b (pc + 1) lv (.long x :: st) h P) : zGo G μ d b pc lv (st) h P := by
  intro p l e R s m args below meth c C H locs ls hR hl h1 h2
  exact lv_lload_n C.1 C.2.1 (zdg C hi) rfl (hl.2.2 _ _ hx rfl) (k p l e R s m args below meth c C H locs ls hR hl h1 h2)
theorem z_lload (i : Nat) {n : Nat} {x : Int64} (hi : μ.2.2.2.2[i]? = some (pc, .lload n, 2)) (hx : lv[n]? = some (.long x)) (k : zGo G μ d b (pc + 2) lv (.long x :: st) h P) : zGo G μ d b pc lv (st) h P := by
  intro p l e R s m args below meth c C H locs ls hR hl h1 h2
  exact lv_lload C.1 C.2.1 (zdg C hi) (hl.2.2 _ _ hx rfl) (k p l e R s m args below meth c C H locs ls hR hl h1 h2)
theorem z_aload_n (i : Nat) {n : Fin 4} {x : Nat} (hi : μ.2.2.2.2[i]? = some (pc, .aload_n n, 1)) (hx : lv[(n : Nat)]? = some (.ref x)) (k : zGo G μ d b (pc + 1) lv (.ref x :: st) h P) : zGo G μ d b pc lv (st) h P := by
  intro p l e R s m args below meth c C H locs ls hR hl h1 h2
  exact lv_aload_n C.1 C.2.1 (zdg C hi) rfl (hl.2.2 _ _ hx rfl) (k p l e R s m args below meth c C H locs ls hR hl h1 h2)
theorem z_aload (i : Nat) {n : Nat} {x : Nat} (hi : μ.2.2.2.2[i]? = some (pc, .aload n, 2)) (hx : lv[n]? = some (.ref x)) (k : zGo G μ d b (pc + 2) lv (.ref x :: st) h P) : zGo G μ d b pc lv (st) h P := by
  intro p l e R s m args below meth c C H locs ls hR hl h1 h2
  exact lv_aload C.1 C.2.1 (zdg C hi) (hl.2.2 _ _ hx rfl) (k p l e R s m args below meth c C H locs ls hR hl h1 h2)
theorem z_iadd (i : Nat) {x y : Int32} (hi : μ.2.2.2.2[i]? = some (pc, .iadd, 1))  (k : zGo G μ d b (pc + 1) lv (.int (x + y) :: st) h P) : zGo G μ d b pc lv (.int y :: .int x :: st) h P := by
  intro p l e R s m args below meth c C H locs ls hR hl h1 h2
  exact lv_iadd C.1 C.2.1 (zdg C hi) (k p l e R s m args below meth c C H locs ls hR hl h1 h2)
theorem z_isub (i : Nat) {x y : Int32} (hi : μ.2.2.2.2[i]? = some (pc, .isub, 1))  (k : zGo G μ d b (pc + 1) lv (.int (x - y) :: st) h P) : zGo G μ d b pc lv (.int y :: .int x :: st) h P := by
  intro p l e R s m args below meth c C H locs ls hR hl h1 h2
  exact lv_isub C.1 C.2.1 (zdg C hi) (k p l e R s m args below meth c C H locs ls hR hl h1 h2)
theorem z_imul (i : Nat) {x y : Int32} (hi : μ.2.2.2.2[i]? = some (pc, .imul, 1))  (k : zGo G μ d b (pc + 1) lv (.int (x * y) :: st) h P) : zGo G μ d b pc lv (.int y :: .int x :: st) h P := by
  intro p l e R s m args below meth c C H locs ls hR hl h1 h2
  exact lv_imul C.1 C.2.1 (zdg C hi) (k p l e R s m args below meth c C H locs ls hR hl h1 h2)
theorem z_iand (i : Nat) {x y : Int32} (hi : μ.2.2.2.2[i]? = some (pc, .iand, 1))  (k : zGo G μ d b (pc + 1) lv (.int (x &&& y) :: st) h P) : zGo G μ d b pc lv (.int y :: .int x :: st) h P := by
  intro p l e R s m args below meth c C H locs ls hR hl h1 h2
  exact lv_iand C.1 C.2.1 (zdg C hi) (k p l e R s m args below meth c C H locs ls hR hl h1 h2)
theorem z_ior (i : Nat) {x y : Int32} (hi : μ.2.2.2.2[i]? = some (pc, .ior, 1))  (k : zGo G μ d b (pc + 1) lv (.int (x ||| y) :: st) h P) : zGo G μ d b pc lv (.int y :: .int x :: st) h P := by
  intro p l e R s m args below meth c C H locs ls hR hl h1 h2
  exact lv_ior C.1 C.2.1 (zdg C hi) (k p l e R s m args below meth c C H locs ls hR hl h1 h2)
theorem z_ixor (i : Nat) {x y : Int32} (hi : μ.2.2.2.2[i]? = some (pc, .ixor, 1))  (k : zGo G μ d b (pc + 1) lv (.int (x ^^^ y) :: st) h P) : zGo G μ d b pc lv (.int y :: .int x :: st) h P := by
  intro p l e R s m args below meth c C H locs ls hR hl h1 h2
  exact lv_ixor C.1 C.2.1 (zdg C hi) (k p l e R s m args below meth c C H locs ls hR hl h1 h2)
theorem z_ishl (i : Nat) {x y : Int32} (hi : μ.2.2.2.2[i]? = some (pc, .ishl, 1))  (k : zGo G μ d b (pc + 1) lv (.int (x <<< (y &&& 31)) :: st) h P) : zGo G μ d b pc lv (.int y :: .int x :: st) h P := by
  intro p l e R s m args below meth c C H locs ls hR hl h1 h2
  exact lv_ishl C.1 C.2.1 (zdg C hi) (k p l e R s m args below meth c C H locs ls hR hl h1 h2)
theorem z_ishr (i : Nat) {x y : Int32} (hi : μ.2.2.2.2[i]? = some (pc, .ishr, 1))  (k : zGo G μ d b (pc + 1) lv (.int (x >>> (y &&& 31)) :: st) h P) : zGo G μ d b pc lv (.int y :: .int x :: st) h P := by
  intro p l e R s m args below meth c C H locs ls hR hl h1 h2
  exact lv_ishr C.1 C.2.1 (zdg C hi) (k p l e R s m args below meth c C H locs ls hR hl h1 h2)
theorem z_idiv (i : Nat) {x y : Int32} (hi : μ.2.2.2.2[i]? = some (pc, .idiv, 1)) (hne : ¬ y = 0) (k : zGo G μ d b (pc + 1) lv (.int (x / y) :: st) h P) : zGo G μ d b pc lv (.int y :: .int x :: st) h P := by
  intro p l e R s m args below meth c C H locs ls hR hl h1 h2
  exact lv_idiv C.1 C.2.1 (zdg C hi) hne (k p l e R s m args below meth c C H locs ls hR hl h1 h2)
theorem z_irem (i : Nat) {x y : Int32} (hi : μ.2.2.2.2[i]? = some (pc, .irem, 1)) (hne : ¬ y = 0) (k : zGo G μ d b (pc + 1) lv (.int (x - x / y * y) :: st) h P) : zGo G μ d b pc lv (.int y :: .int x :: st) h P := by
  intro p l e R s m args below meth c C H locs ls hR hl h1 h2
  exact lv_irem C.1 C.2.1 (zdg C hi) hne (k p l e R s m args below meth c C H locs ls hR hl h1 h2)
theorem z_ladd (i : Nat) {x y : Int64} (hi : μ.2.2.2.2[i]? = some (pc, .ladd, 1))  (k : zGo G μ d b (pc + 1) lv (.long (x + y) :: st) h P) : zGo G μ d b pc lv (.long y :: .long x :: st) h P := by
  intro p l e R s m args below meth c C H locs ls hR hl h1 h2
  exact lv_ladd C.1 C.2.1 (zdg C hi) (k p l e R s m args below meth c C H locs ls hR hl h1 h2)
theorem z_lsub (i : Nat) {x y : Int64} (hi : μ.2.2.2.2[i]? = some (pc, .lsub, 1))  (k : zGo G μ d b (pc + 1) lv (.long (x - y) :: st) h P) : zGo G μ d b pc lv (.long y :: .long x :: st) h P := by
  intro p l e R s m args below meth c C H locs ls hR hl h1 h2
  exact lv_lsub C.1 C.2.1 (zdg C hi) (k p l e R s m args below meth c C H locs ls hR hl h1 h2)
theorem z_lmul (i : Nat) {x y : Int64} (hi : μ.2.2.2.2[i]? = some (pc, .lmul, 1))  (k : zGo G μ d b (pc + 1) lv (.long (x * y) :: st) h P) : zGo G μ d b pc lv (.long y :: .long x :: st) h P := by
  intro p l e R s m args below meth c C H locs ls hR hl h1 h2
  exact lv_lmul C.1 C.2.1 (zdg C hi) (k p l e R s m args below meth c C H locs ls hR hl h1 h2)
theorem z_land (i : Nat) {x y : Int64} (hi : μ.2.2.2.2[i]? = some (pc, .land, 1))  (k : zGo G μ d b (pc + 1) lv (.long (x &&& y) :: st) h P) : zGo G μ d b pc lv (.long y :: .long x :: st) h P := by
  intro p l e R s m args below meth c C H locs ls hR hl h1 h2
  exact lv_land C.1 C.2.1 (zdg C hi) (k p l e R s m args below meth c C H locs ls hR hl h1 h2)
theorem z_ldiv (i : Nat) {x y : Int64} (hi : μ.2.2.2.2[i]? = some (pc, .ldiv, 1)) (hne : ¬ y = 0) (k : zGo G μ d b (pc + 1) lv (.long (x / y) :: st) h P) : zGo G μ d b pc lv (.long y :: .long x :: st) h P := by
  intro p l e R s m args below meth c C H locs ls hR hl h1 h2
  exact lv_ldiv C.1 C.2.1 (zdg C hi) hne (k p l e R s m args below meth c C H locs ls hR hl h1 h2)
theorem z_lneg (i : Nat) {x : Int64} (hi : μ.2.2.2.2[i]? = some (pc, .lneg, 1))  (k : zGo G μ d b (pc + 1) lv (.long (-x) :: st) h P) : zGo G μ d b pc lv (.long x :: st) h P := by
  intro p l e R s m args below meth c C H locs ls hR hl h1 h2
  exact lv_lneg C.1 C.2.1 (zdg C hi) (k p l e R s m args below meth c C H locs ls hR hl h1 h2)
theorem z_ineg (i : Nat) {x : Int32} (hi : μ.2.2.2.2[i]? = some (pc, .ineg, 1))  (k : zGo G μ d b (pc + 1) lv (.int (-x) :: st) h P) : zGo G μ d b pc lv (.int x :: st) h P := by
  intro p l e R s m args below meth c C H locs ls hR hl h1 h2
  exact lv_ineg C.1 C.2.1 (zdg C hi) (k p l e R s m args below meth c C H locs ls hR hl h1 h2)
theorem z_i2l (i : Nat) {x : Int32} (hi : μ.2.2.2.2[i]? = some (pc, .i2l, 1))  (k : zGo G μ d b (pc + 1) lv (.long x.toInt64 :: st) h P) : zGo G μ d b pc lv (.int x :: st) h P := by
  intro p l e R s m args below meth c C H locs ls hR hl h1 h2
  exact lv_i2l C.1 C.2.1 (zdg C hi) rfl (k p l e R s m args below meth c C H locs ls hR hl h1 h2)
theorem z_l2i (i : Nat) {x : Int64} (hi : μ.2.2.2.2[i]? = some (pc, .l2i, 1))  (k : zGo G μ d b (pc + 1) lv (.int x.toInt32 :: st) h P) : zGo G μ d b pc lv (.long x :: st) h P := by
  intro p l e R s m args below meth c C H locs ls hR hl h1 h2
  exact lv_l2i C.1 C.2.1 (zdg C hi) rfl (k p l e R s m args below meth c C H locs ls hR hl h1 h2)
theorem z_i2b (i : Nat) {x : Int32} (hi : μ.2.2.2.2[i]? = some (pc, .i2b, 1))  (k : zGo G μ d b (pc + 1) lv (.int x.toInt8.toInt32 :: st) h P) : zGo G μ d b pc lv (.int x :: st) h P := by
  intro p l e R s m args below meth c C H locs ls hR hl h1 h2
  exact lv_i2b C.1 C.2.1 (zdg C hi) rfl (k p l e R s m args below meth c C H locs ls hR hl h1 h2)
theorem z_i2c (i : Nat) {x v : Int32} (hi : μ.2.2.2.2[i]? = some (pc, .i2c, 1)) (hv : (x.toUInt32 % 65536).toInt32 = v) (k : zGo G μ d b (pc + 1) lv (.int v :: st) h P) : zGo G μ d b pc lv (.int x :: st) h P := by
  intro p l e R s m args below meth c C H locs ls hR hl h1 h2
  exact lv_i2c C.1 C.2.1 (zdg C hi) hv (k p l e R s m args below meth c C H locs ls hR hl h1 h2)
theorem z_lcmp (i : Nat) {x y : Int64} (hi : μ.2.2.2.2[i]? = some (pc, .lcmp, 1))  (k : zGo G μ d b (pc + 1) lv (.int (lg_cmp x y) :: st) h P) : zGo G μ d b pc lv (.long y :: .long x :: st) h P := by
  intro p l e R s m args below meth c C H locs ls hR hl h1 h2
  exact W.lcmp C.1 C.2.1 (zdg C hi) (k p l e R s m args below meth c C H locs ls hR hl h1 h2)
theorem zrv_cat (G : zG) (v : Value) : (zrv G v).category = v.category := by cases v <;> rfl
theorem z_dup (i : Nat) {va : Value} (hi : μ.2.2.2.2[i]? = some (pc, .dup, 1)) (hva : va.category = 1) (k : zGo G μ d b (pc + 1) lv (va :: va :: st) h P) : zGo G μ d b pc lv (va :: st) h P := by
  intro p l e R s m args below meth c C H locs ls hR hl h1 h2
  exact lv_dup C.1 C.2.1 (zdg C hi) ((zrv_cat G _).trans hva) (k p l e R s m args below meth c C H locs ls hR hl h1 h2)
theorem z_dup2 (i : Nat) {va vb : Value} (hi : μ.2.2.2.2[i]? = some (pc, .dup2, 1)) (hva : va.category = 1) (hvb : vb.category = 1) (k : zGo G μ d b (pc + 1) lv (va :: vb :: va :: vb :: st) h P) : zGo G μ d b pc lv (va :: vb :: st) h P := by
  intro p l e R s m args below meth c C H locs ls hR hl h1 h2
  exact lv_dup2_11 C.1 C.2.1 (zdg C hi) ((zrv_cat G _).trans hva) ((zrv_cat G _).trans hvb) (k p l e R s m args below meth c C H locs ls hR hl h1 h2)
theorem z_pop (i : Nat) {va : Value} (hi : μ.2.2.2.2[i]? = some (pc, .pop, 1)) (hva : va.category = 1) (k : zGo G μ d b (pc + 1) lv (st) h P) : zGo G μ d b pc lv (va :: st) h P := by
  intro p l e R s m args below meth c C H locs ls hR hl h1 h2
  exact lv_pop C.1 C.2.1 (zdg C hi) ((zrv_cat G _).trans hva) (k p l e R s m args below meth c C H locs ls hR hl h1 h2)
theorem z_if_eq (i tgt : Nat) {off : Int} {x : Int32} (hi : μ.2.2.2.2[i]? = some (pc, .ifCond .eq off, 3)) (ht : (pc : Int) + off = (tgt : Int)) (k : (x = 0 → zGo G μ d b tgt lv st h P) ∧ (¬ x = 0 → zGo G μ d b (pc + 3) lv st h P)) : zGo G μ d b pc lv (.int x :: st) h P := by
  intro p l e R s m args below meth c C H locs ls hR hl h1 h2
  exact lv_if_eq C.1 C.2.1 (zdg C hi) ht (fun z => k.1 z p l e R s m args below meth c C H locs ls hR hl h1 h2) (fun z => k.2 z p l e R s m args below meth c C H locs ls hR hl h1 h2)
theorem z_if_ne (i tgt : Nat) {off : Int} {x : Int32} (hi : μ.2.2.2.2[i]? = some (pc, .ifCond .ne off, 3)) (ht : (pc : Int) + off = (tgt : Int)) (k : (¬ x = 0 → zGo G μ d b tgt lv st h P) ∧ (x = 0 → zGo G μ d b (pc + 3) lv st h P)) : zGo G μ d b pc lv (.int x :: st) h P := by
  intro p l e R s m args below meth c C H locs ls hR hl h1 h2
  exact lv_if_ne C.1 C.2.1 (zdg C hi) ht (fun z => k.1 z p l e R s m args below meth c C H locs ls hR hl h1 h2) (fun z => k.2 z p l e R s m args below meth c C H locs ls hR hl h1 h2)
theorem z_if_lt (i tgt : Nat) {off : Int} {x : Int32} (hi : μ.2.2.2.2[i]? = some (pc, .ifCond .lt off, 3)) (ht : (pc : Int) + off = (tgt : Int)) (k : (x < 0 → zGo G μ d b tgt lv st h P) ∧ (¬ x < 0 → zGo G μ d b (pc + 3) lv st h P)) : zGo G μ d b pc lv (.int x :: st) h P := by
  intro p l e R s m args below meth c C H locs ls hR hl h1 h2
  exact lv_if_lt C.1 C.2.1 (zdg C hi) ht (fun z => k.1 z p l e R s m args below meth c C H locs ls hR hl h1 h2) (fun z => k.2 z p l e R s m args below meth c C H locs ls hR hl h1 h2)
theorem z_if_ge (i tgt : Nat) {off : Int} {x : Int32} (hi : μ.2.2.2.2[i]? = some (pc, .ifCond .ge off, 3)) (ht : (pc : Int) + off = (tgt : Int)) (k : (0 ≤ x → zGo G μ d b tgt lv st h P) ∧ (¬ 0 ≤ x → zGo G μ d b (pc + 3) lv st h P)) : zGo G μ d b pc lv (.int x :: st) h P := by
  intro p l e R s m args below meth c C H locs ls hR hl h1 h2
  exact lv_if_ge C.1 C.2.1 (zdg C hi) ht (fun z => k.1 z p l e R s m args below meth c C H locs ls hR hl h1 h2) (fun z => k.2 z p l e R s m args below meth c C H locs ls hR hl h1 h2)
theorem z_if_gt (i tgt : Nat) {off : Int} {x : Int32} (hi : μ.2.2.2.2[i]? = some (pc, .ifCond .gt off, 3)) (ht : (pc : Int) + off = (tgt : Int)) (k : (0 < x → zGo G μ d b tgt lv st h P) ∧ (¬ 0 < x → zGo G μ d b (pc + 3) lv st h P)) : zGo G μ d b pc lv (.int x :: st) h P := by
  intro p l e R s m args below meth c C H locs ls hR hl h1 h2
  exact lv_if_gt C.1 C.2.1 (zdg C hi) ht (fun z => k.1 z p l e R s m args below meth c C H locs ls hR hl h1 h2) (fun z => k.2 z p l e R s m args below meth c C H locs ls hR hl h1 h2)
theorem z_if_le (i tgt : Nat) {off : Int} {x : Int32} (hi : μ.2.2.2.2[i]? = some (pc, .ifCond .le off, 3)) (ht : (pc : Int) + off = (tgt : Int)) (k : (x ≤ 0 → zGo G μ d b tgt lv st h P) ∧ (¬ x ≤ 0 → zGo G μ d b (pc + 3) lv st h P)) : zGo G μ d b pc lv (.int x :: st) h P := by
  intro p l e R s m args below meth c C H locs ls hR hl h1 h2
  exact lv_if_le C.1 C.2.1 (zdg C hi) ht (fun z => k.1 z p l e R s m args below meth c C H locs ls hR hl h1 h2) (fun z => k.2 z p l e R s m args below meth c C H locs ls hR hl h1 h2)
theorem z_icmp_eq (i tgt : Nat) {off : Int} {x y : Int32} (hi : μ.2.2.2.2[i]? = some (pc, .if_icmp .eq off, 3)) (ht : (pc : Int) + off = (tgt : Int)) (k : (x = y → zGo G μ d b tgt lv st h P) ∧ (¬ x = y → zGo G μ d b (pc + 3) lv st h P)) : zGo G μ d b pc lv (.int y :: .int x :: st) h P := by
  intro p l e R s m args below meth c C H locs ls hR hl h1 h2
  exact lv_icmp_eq C.1 C.2.1 (zdg C hi) ht (fun z => k.1 z p l e R s m args below meth c C H locs ls hR hl h1 h2) (fun z => k.2 z p l e R s m args below meth c C H locs ls hR hl h1 h2)
theorem z_icmp_ne (i tgt : Nat) {off : Int} {x y : Int32} (hi : μ.2.2.2.2[i]? = some (pc, .if_icmp .ne off, 3)) (ht : (pc : Int) + off = (tgt : Int)) (k : (¬ x = y → zGo G μ d b tgt lv st h P) ∧ (x = y → zGo G μ d b (pc + 3) lv st h P)) : zGo G μ d b pc lv (.int y :: .int x :: st) h P := by
  intro p l e R s m args below meth c C H locs ls hR hl h1 h2
  exact lv_icmp_ne C.1 C.2.1 (zdg C hi) ht (fun z => k.1 z p l e R s m args below meth c C H locs ls hR hl h1 h2) (fun z => k.2 z p l e R s m args below meth c C H locs ls hR hl h1 h2)
theorem z_icmp_lt (i tgt : Nat) {off : Int} {x y : Int32} (hi : μ.2.2.2.2[i]? = some (pc, .if_icmp .lt off, 3)) (ht : (pc : Int) + off = (tgt : Int)) (k : (x < y → zGo G μ d b tgt lv st h P) ∧ (¬ x < y → zGo G μ d b (pc + 3) lv st h P)) : zGo G μ d b pc lv (.int y :: .int x :: st) h P := by
  intro p l e R s m args below meth c C H locs ls hR hl h1 h2
  exact lv_icmp_lt C.1 C.2.1 (zdg C hi) ht (fun z => k.1 z p l e R s m args below meth c C H locs ls hR hl h1 h2) (fun z => k.2 z p l e R s m args below meth c C H locs ls hR hl h1 h2)
theorem z_icmp_ge (i tgt : Nat) {off : Int} {x y : Int32} (hi : μ.2.2.2.2[i]? = some (pc, .if_icmp .ge off, 3)) (ht : (pc : Int) + off = (tgt : Int)) (k : (y ≤ x → zGo G μ d b tgt lv st h P) ∧ (¬ y ≤ x → zGo G μ d b (pc + 3) lv st h P)) : zGo G μ d b pc lv (.int y :: .int x :: st) h P := by
  intro p l e R s m args below meth c C H locs ls hR hl h1 h2
  exact lv_icmp_ge C.1 C.2.1 (zdg C hi) ht (fun z => k.1 z p l e R s m args below meth c C H locs ls hR hl h1 h2) (fun z => k.2 z p l e R s m args below meth c C H locs ls hR hl h1 h2)
theorem z_icmp_gt (i tgt : Nat) {off : Int} {x y : Int32} (hi : μ.2.2.2.2[i]? = some (pc, .if_icmp .gt off, 3)) (ht : (pc : Int) + off = (tgt : Int)) (k : (y < x → zGo G μ d b tgt lv st h P) ∧ (¬ y < x → zGo G μ d b (pc + 3) lv st h P)) : zGo G μ d b pc lv (.int y :: .int x :: st) h P := by
  intro p l e R s m args below meth c C H locs ls hR hl h1 h2
  exact lv_icmp_gt C.1 C.2.1 (zdg C hi) ht (fun z => k.1 z p l e R s m args below meth c C H locs ls hR hl h1 h2) (fun z => k.2 z p l e R s m args below meth c C H locs ls hR hl h1 h2)
theorem z_icmp_le (i tgt : Nat) {off : Int} {x y : Int32} (hi : μ.2.2.2.2[i]? = some (pc, .if_icmp .le off, 3)) (ht : (pc : Int) + off = (tgt : Int)) (k : (x ≤ y → zGo G μ d b tgt lv st h P) ∧ (¬ x ≤ y → zGo G μ d b (pc + 3) lv st h P)) : zGo G μ d b pc lv (.int y :: .int x :: st) h P := by
  intro p l e R s m args below meth c C H locs ls hR hl h1 h2
  exact lv_icmp_le C.1 C.2.1 (zdg C hi) ht (fun z => k.1 z p l e R s m args below meth c C H locs ls hR hl h1 h2) (fun z => k.2 z p l e R s m args below meth c C H locs ls hR hl h1 h2)
theorem z_goto (i tgt : Nat) {off : Int} (hi : μ.2.2.2.2[i]? = some (pc, .goto off, 3)) (ht : (pc : Int) + off = (tgt : Int)) (k : zGo G μ d b tgt lv st h P) : zGo G μ d b pc lv st h P := by
  intro p l e R s m args below meth c C H locs ls hR hl h1 h2
  exact lv_goto C.1 C.2.1 (zdg C hi) ht (k p l e R s m args below meth c C H locs ls hR hl h1 h2)
theorem z_tableOut (i tgt : Nat) {dflt lo hi9 : Int} {offs : Array Int} {len : Nat} {x : Int32} (hi : μ.2.2.2.2[i]? = some (pc, .tableswitch dflt lo hi9 offs, len)) (ht : (pc : Int) + dflt = (tgt : Int)) (hx : x.toInt < lo ∨ hi9 < x.toInt) (k : zGo G μ d b tgt lv st h P) : zGo G μ d b pc lv (.int x :: st) h P := by
  intro p l e R s m args below meth c C H locs ls hR hl h1 h2
  exact lv_tableOut C.1 C.2.1 (zdg C hi) hx ht (k p l e R s m args below meth c C H locs ls hR hl h1 h2)
theorem z_tableIn (i tgt : Nat) {dflt lo hi9 off : Int} {offs : Array Int} {len : Nat} {x : Int32} (hi : μ.2.2.2.2[i]? = some (pc, .tableswitch dflt lo hi9 offs, len)) (v : Int) (hx : x.toInt = v) (hv1 : ¬ v < lo) (hv2 : ¬ hi9 < v) (ho : offs[(v - lo).toNat]? = some off) (ht : (pc : Int) + off = (tgt : Int)) (k : zGo G μ d b tgt lv st h P) : zGo G μ d b pc lv (.int x :: st) h P := by
  subst hx
  intro p l e R s m args below meth c C H locs ls hR hl h1 h2
  exact lv_tableIn C.1 C.2.1 (zdg C hi) hv1 hv2 ho ht (k p l e R s m args below meth c C H locs ls hR hl h1 h2)
theorem z_lookup (i tgt : Nat) {dflt off : Int} {ps : Array (Int × Int)} {len : Nat} {x : Int32} (hi : μ.2.2.2.2[i]? = some (pc, .lookupswitch dflt ps, len)) (hp : (ps.toList.zip (ps.toList.drop 1)).all (fun (a, next) => a.1 < next.1) = true) (ho : Op.lookupswitch.offset ps.toList dflt x.toInt = off) (ht : (pc : Int) + off = (tgt : Int)) (k : zGo G μ d b tgt lv st h P) : zGo G μ d b pc lv (.int x :: st) h P := by
  intro p l e R s m args below meth c C H locs ls hR hl h1 h2
  exact lv_lookup C.1 C.2.1 (zdg C hi) hp ho ht (k p l e R s m args below meth c C H locs ls hR hl h1 h2)
end ZB
theorem zRep.nil {G : zG} {h : zMem} {H : Heap} {locs : List Loc} (hR : zRep G h H locs) : zRep G h H [] := ⟨hR.1, ⟨hR.2.1.1, hR.2.1.2.1, fun _ h => nomatch h⟩, hR.2.2⟩
theorem zKK.calling {G : zG} {U : State} {g : JFrame} {mk : MethodId} {a : Array Value} (h : zKK G U) : zKK G (U.calling g mk a) := ⟨va_K.moved (u := U) (U := U.calling g mk a) (Vm.Alike.refl U.vm) h.1, h.2.2 U _ (Or.inr rfl) h.2.1, h.2.2⟩
theorem zKK.warm {G : zG} {s U : State} (hW : s.WarmedH U.vm) (h : zKK G s) : zKK G U := ⟨va_K.moved hW.alike h.1, h.2.2 s U (Or.inl hW) h.2.1, h.2.2⟩
/-- the locals as the kit lists them -/
def zas (G : zG) (lv : List Value) : List (Nat × Value) := (List.range lv.length).filterMap (fun j => match lv[j]? with
  | some v => if zisU v then none else some (j, zrv G v)
  | none => none)
theorem zas_mem {G : zG} {lv : List Value} {q : Nat × Value} : q ∈ zas G lv ↔ ∃ v, lv[q.1]? = some v ∧ zisU v = false ∧ q.2 = zrv G v := by
  unfold zas
  rw [List.mem_filterMap]
  constructor
  · rintro ⟨j, hj, hq⟩
    cases hv : lv[j]? with
    | none => rw [hv] at hq; cases hq
    | some v =>
      rw [hv] at hq
      dsimp only at hq
      cases hu : zisU v with
      | true => rw [hu] at hq; cases hq
      | false =>
        rw [hu] at hq
        simp only [Bool.false_eq_true, if_false, Option.some.injEq] at hq
        subst hq
        exact ⟨v, hv, hu, rfl⟩
  · rintro ⟨v, h1, h2, h3⟩
    refine ⟨q.1, List.mem_range.mpr (List.getElem?_eq_some_iff.mp h1).1, ?_⟩
    rw [h1]
    dsimp only
    rw [h2, if_neg (by decide), ← h3]
theorem zLv.has {G : zG} {ls : Array Slot} {nL : Nat} {lv : List Value} (h : zLv G ls nL lv) : lv_has ls nL (zas G lv) := ⟨h.1, h.2.1, fun q hq => by
  obtain ⟨v, h1, h2, h3⟩ := zas_mem.mp hq
  rw [h3]
  exact h.2.2 _ v h1 h2⟩
/-- no long stands right ahead of place i -/
def zfree (lv : List Value) (i : Nat) : Bool := match i with
  | 0 => true
  | k + 1 => match lv[k]? with
    | some (.long _) => false
    | some (.double _) => false
    | _ => true
theorem zfree_ne {lv : List Value} {i j : Nat} {w : Value} (hf : zfree lv i = true) (hj : j + 1 = i) (hw : lv[j]? = some w) : w.category ≠ 2 := by
  subst hj
  simp only [zfree, hw] at hf
  cases w <;> simp_all [Value.category]
theorem zLv.set1 {G : zG} {ls' : Array Slot} {nL i : Nat} {lv : List Value} {v : Value} (hf : zfree lv i = true) (h' : lv_has ls' nL ((i, zrv G v) :: (zas G lv).filter (fun q => !(q.1 == i) && !(q.1 + 1 == i && q.2.category == 2)))) : zLv G ls' nL (lv.set i v) := by
  refine ⟨h'.1, h'.2.1, fun j w hj hu => ?_⟩
  by_cases e : j = i
  · subst e
    have hl : j < lv.length := by
      have := (List.getElem?_eq_some_iff.mp hj).1
      simpa using this
    rw [List.getElem?_set_self hl] at hj
    cases hj
    exact h'.2.2 (j, zrv G v) List.mem_cons_self
  · rw [List.getElem?_set_ne (Ne.symm e)] at hj
    refine h'.2.2 (j, zrv G w) (List.mem_cons_of_mem _ (List.mem_filter.mpr ⟨zas_mem.mpr ⟨w, hj, hu, rfl⟩, ?_⟩))
    simp only [Bool.and_eq_true, Bool.not_eq_true', beq_eq_false_iff_ne, ne_eq, Bool.and_eq_false_iff, zrv_cat]
    refine ⟨e, ?_⟩
    by_cases e2 : j + 1 = i
    · exact Or.inr (zfree_ne hf e2 hj)
    · exact Or.inl e2
theorem zLv.set2 {G : zG} {ls' : Array Slot} {nL i : Nat} {lv : List Value} {v : Value} (hf : zfree lv i = true) (h' : lv_has ls' nL ((i, zrv G v) :: (zas G lv).filter (fun q => !(q.1 == i) && (!(q.1 == i + 1) && !(q.1 + 1 == i && q.2.category == 2))))) : zLv G ls' nL ((lv.set i v).set (i + 1) zU) := by
  refine ⟨h'.1, h'.2.1, fun j w hj hu => ?_⟩
  by_cases e1 : j = i + 1
  · subst e1
    have hl : i + 1 < (lv.set i v).length := by
      have := (List.getElem?_eq_some_iff.mp hj).1
      simpa using this
    rw [List.getElem?_set_self hl] at hj
    cases hj
    cases hu
  · rw [List.getElem?_set_ne (Ne.symm e1)] at hj
    by_cases e : j = i
    · subst e
      have hl : j < lv.length := by
        have := (List.getElem?_eq_some_iff.mp hj).1
        simpa using this
      rw [List.getElem?_set_self hl] at hj
      cases hj
      exact h'.2.2 (j, zrv G v) List.mem_cons_self
    · rw [List.getElem?_set_ne (Ne.symm e)] at hj
      refine h'.2.2 (j, zrv G w) (List.mem_cons_of_mem _ (List.mem_filter.mpr ⟨zas_mem.mpr ⟨w, hj, hu, rfl⟩, ?_⟩))
      simp only [Bool.and_eq_true, Bool.not_eq_true', beq_eq_false_iff_ne, ne_eq, Bool.and_eq_false_iff, zrv_cat]
      refine ⟨e, e1, ?_⟩
      by_cases e2 : j + 1 = i
      · exact Or.inr (zfree_ne hf e2 hj)
      · exact Or.inl e2
/-- fewer locals are known -/
theorem zLv.sub {G : zG} {ls : Array Slot} {nL : Nat} {lv lv2 : List Value} (h : zLv G ls nL lv) (hs : ∀ (i : Nat) (v : Value), lv2[i]? = some v → zisU v = false → lv[i]? = some v) : zLv G ls nL lv2 := ⟨h.1, h.2.1, fun i v hi hu => h.2.2 i v (hs i v hi hu) hu⟩
section ZB2
variable {G : zG} {μ : zM} {d : Nat} {b : zB} {pc : Nat} {lv st : List Value} {h : zMem} {P : Option Value → zMem → Prop}
theorem z_locals {lv2 : List Value} (hs : ∀ (i : Nat) (v : Value), lv2[i]? = some v → zisU v = false → lv[i]? = some v) (k : zGo G μ d b pc lv2 st h P) : zGo G μ d b pc lv st h P := by
  intro p l e R s m args below meth c C H locs ls hR hl h1 h2
  exact k p l e R s m args below meth c C H locs ls hR (hl.sub hs) h1 h2
theorem z_istore_n (i : Nat) {n : Fin 4} {x : Int32} (hi : μ.2.2.2.2[i]? = some (pc, .istore_n n, 1)) (hn : (n : Nat) < μ.2.2.1) (hf : zfree lv n = true) (k : zGo G μ d b (pc + 1) (lv.set n (.int x)) st h P) : zGo G μ d b pc lv (.int x :: st) h P := by
  intro p l e R s m args below meth c C H locs ls hR hl h1 h2
  exact lv_istore_n C.1 C.2.1 (zdg C hi) rfl hl.has hn rfl (fun ls' hl' => k p l e R s m args below meth c C H locs ls' hR (zLv.set1 hf hl') h1 h2)
theorem z_istore (i : Nat) {n : Nat} {x : Int32} (hi : μ.2.2.2.2[i]? = some (pc, .istore n, 2)) (hn : n < μ.2.2.1) (hf : zfree lv n = true) (k : zGo G μ d b (pc + 2) (lv.set n (.int x)) st h P) : zGo G μ d b pc lv (.int x :: st) h P := by
  intro p l e R s m args below meth c C H locs ls hR hl h1 h2
  exact lv_istore C.1 C.2.1 (zdg C hi) hl.has hn rfl (fun ls' hl' => k p l e R s m args below meth c C H locs ls' hR (zLv.set1 hf hl') h1 h2)
theorem z_astore_n (i : Nat) {n : Fin 4} {x : Nat} (hi : μ.2.2.2.2[i]? = some (pc, .astore_n n, 1)) (hn : (n : Nat) < μ.2.2.1) (hf : zfree lv n = true) (k : zGo G μ d b (pc + 1) (lv.set n (.ref x)) st h P) : zGo G μ d b pc lv (.ref x :: st) h P := by
  intro p l e R s m args below meth c C H locs ls hR hl h1 h2
  exact lv_astore_n C.1 C.2.1 (zdg C hi) rfl hl.has hn rfl (fun ls' hl' => k p l e R s m args below meth c C H locs ls' hR (zLv.set1 (v := .ref x) hf hl') h1 h2)
theorem z_astore (i : Nat) {n : Nat} {x : Nat} (hi : μ.2.2.2.2[i]? = some (pc, .astore n, 2)) (hn : n < μ.2.2.1) (hf : zfree lv n = true) (k : zGo G μ d b (pc + 2) (lv.set n (.ref x)) st h P) : zGo G μ d b pc lv (.ref x :: st) h P := by
  intro p l e R s m args below meth c C H locs ls hR hl h1 h2
  exact lv_astore C.1 C.2.1 (zdg C hi) hl.has hn rfl (fun ls' hl' => k p l e R s m args below meth c C H locs ls' hR (zLv.set1 (v := .ref x) hf hl') h1 h2)
theorem z_lstore_n (i : Nat) {n : Fin 4} {x : Int64} (hi : μ.2.2.2.2[i]? = some (pc, .lstore_n n, 1)) (hn : (n : Nat) + 1 < μ.2.2.1) (hf : zfree lv n = true) (k : zGo G μ d b (pc + 1) ((lv.set n (.long x)).set (n + 1) zU) st h P) : zGo G μ d b pc lv (.long x :: st) h P := by
  intro p l e R s m args below meth c C H locs ls hR hl h1 h2
  exact lv_lstore_n C.1 C.2.1 (zdg C hi) rfl hl.has hn rfl (fun ls' hl' => k p l e R s m args below meth c C H locs ls' hR (zLv.set2 hf hl') h1 h2)
theorem z_lstore (i : Nat) {n : Nat} {x : Int64} (hi : μ.2.2.2.2[i]? = some (pc, .lstore n, 2)) (hn : n + 1 < μ.2.2.1) (hf : zfree lv n = true) (k : zGo G μ d b (pc + 2) ((lv.set n (.long x)).set (n + 1) zU) st h P) : zGo G μ d b pc lv (.long x :: st) h P := by
  intro p l e R s m args below meth c C H locs ls hR hl h1 h2
  exact lv_lstore C.1 C.2.1 (zdg C hi) hl.has hn rfl (fun ls' hl' => k p l e R s m args below meth c C H locs ls' hR (zLv.set2 hf hl') h1 h2)
theorem z_iinc (i : Nat) {n : Nat} {cn : Int} {x v : Int32} (hi : μ.2.2.2.2[i]? = some (pc, .iinc n cn, 3)) (hx : lv[n]? = some (.int x)) (hv : Int32.ofInt cn = v) (hn : n < μ.2.2.1) (hf : zfree lv n = true) (k : zGo G μ d b (pc + 3) (lv.set n (.int (x + v))) st h P) : zGo G μ d b pc lv st h P := by
  intro p l e R s m args below meth c C H locs ls hR hl h1 h2
  obtain ⟨j, hj⟩ := List.getElem?_of_mem (zas_mem (G := G) (q := (n, .int x)).mpr ⟨.int x, hx, rfl, rfl⟩)
  exact lv_iinc C.1 C.2.1 (zdg C hi) hl.has hj (by rw [hv]) hn rfl (fun ls' hl' => k p l e R s m args below meth c C H locs ls' hR (zLv.set1 (v := .int (x + v)) hf hl') h1 h2)
end ZB2
/-! cells under a write -/
def zO (h : zMem) (a ci : Nat) : Prop := a < zn h ∧ zK h a = ci
theorem zO_sI (h : zMem) (a i : Nat) (v : Int32) (x c : Nat) : zO (zsI h a i v) x c = zO h x c := rfl
theorem zO_sL (h : zMem) (a i : Nat) (v : Int64) (x c : Nat) : zO (zsL h a i v) x c = zO h x c := rfl
theorem zO_sR (h : zMem) (a i : Nat) (v : Option Nat) (x c : Nat) : zO (zsR h a i v) x c = zO h x c := rfl
theorem zup_row {α : Type} (f : Nat → Nat → α) {a i : Nat} (v : α) {k : Nat} (h : k ≠ a) : zup f a i v k = f k := funext fun j => zup_a f v j h
theorem zcell_i {G : zG} {h : zMem} {a : Nat} (hk : zK h a = 100) : zcell G h a = .inl (gA G 0, zLen h a, .inl (zI h a)) := by unfold zcell; rw [if_pos hk]
theorem zcell_l {G : zG} {h : zMem} {a : Nat} (hk : zK h a = 101) : zcell G h a = .inl (gA G 1, zLen h a, .inr (.inl (zL h a))) := by unfold zcell; rw [if_neg (by omega), if_pos hk]
theorem zcell_b {G : zG} {h : zMem} {a : Nat} (hk : zK h a = 102) : zcell G h a = .inl (gA G 2, zLen h a, .inl (zI h a)) := by unfold zcell; rw [if_neg (by omega), if_neg (by omega), if_pos hk]
theorem zcell_z {G : zG} {h : zMem} {a : Nat} (hk : zK h a = 103) : zcell G h a = .inl (gA G 3, zLen h a, .inl (zI h a)) := by unfold zcell; rw [if_neg (by omega), if_neg (by omega), if_neg (by omega), if_pos hk]
theorem zcell_q {G : zG} {h : zMem} {a : Nat} (hk : zK h a = 104) : zcell G h a = .inl (gA G 4, zLen h a, .inr (.inr (.inr (.inr (fun j => (zR h a j).map (zad G)))))) := by unfold zcell; rw [if_neg (by omega), if_neg (by omega), if_neg (by omega), if_neg (by omega), if_pos hk]
theorem zcell_o {G : zG} {h : zMem} {a ci : Nat} (hk : zK h a = ci) (hc : ci < 100) : zcell G h a = .inr (ci, zfs G h a ci) := by unfold zcell; rw [if_neg (by omega), if_neg (by omega), if_neg (by omega), if_neg (by omega), if_neg (by omega), hk]
theorem zcell_sI_ne {G : zG} {h : zMem} {a i : Nat} {v : Int32} {k : Nat} (hk : k ≠ a) : zcell G (zsI h a i v) k = zcell G h k := by
  have e : zI (zsI h a i v) k = zI h k := zup_row _ _ hk
  simp only [zcell, zfs, zK_sI, zLen_sI, zL_sI, zR_sI, e]
  have e2 : zfv G (zsI h a i v) k (zK h k) = zfv G h k (zK h k) := by
    funext j
    simp only [zfv, zL_sI, zR_sI, e]
  rw [e2]
  try rfl
theorem zcell_sL_ne {G : zG} {h : zMem} {a i : Nat} {v : Int64} {k : Nat} (hk : k ≠ a) : zcell G (zsL h a i v) k = zcell G h k := by
  have e : zL (zsL h a i v) k = zL h k := zup_row _ _ hk
  simp only [zcell, zfs, zK_sL, zLen_sL, zI_sL, zR_sL, e]
  have e2 : zfv G (zsL h a i v) k (zK h k) = zfv G h k (zK h k) := by
    funext j
    simp only [zfv, zI_sL, zR_sL, e]
  rw [e2]
  try rfl
theorem zcell_sR_ne {G : zG} {h : zMem} {a i : Nat} {v : Option Nat} {k : Nat} (hk : k ≠ a) : zcell G (zsR h a i v) k = zcell G h k := by
  have e : zR (zsR h a i v) k = zR h k := zup_row _ _ hk
  simp only [zcell, zfs, zK_sR, zLen_sR, zI_sR, zL_sR, e]
  have e2 : zfv G (zsR h a i v) k (zK h k) = zfv G h k (zK h k) := by
    funext j
    simp only [zfv, zI_sR, zL_sR, e]
  rw [e2]
  try rfl
def zint (t : FieldType) : Bool := match t with
  | .long => false
  | .object _ => false
  | .array _ => false
  | _ => true
def zrefT (t : FieldType) : Bool := match t with
  | .object _ => true
  | .array _ => true
  | _ => false
theorem zfv_int {G : zG} {h : zMem} {k ci j : Nat} (ht : zint (zty ci j) = true) : zfv G h k ci j = .int (zI h k j) := by
  unfold zfv; revert ht; cases zty ci j <;> simp [zint]
theorem zfv_ref {G : zG} {h : zMem} {k ci j : Nat} (ht : zrefT (zty ci j) = true) : zfv G h k ci j = va_rf ((zR h k j).map (zad G)) := by
  unfold zfv; revert ht; cases zty ci j <;> simp [zrefT]
theorem zfv_long {G : zG} {h : zMem} {k ci j : Nat} (ht : zty ci j = .long) : zfv G h k ci j = .long (zL h k j) := by
  unfold zfv; rw [ht]
theorem zfs_at {G : zG} {h : zMem} {k ci j : Nat} (hj : j < zfn ci) : (zfs G h k ci)[j]? = some (zfv G h k ci j) := by simp [zfs, hj]
theorem zfs_len {G : zG} {h : zMem} {k ci : Nat} : (zfs G h k ci).length = zfn ci := by simp [zfs]
theorem zfs_set {G : zG} {h h' : zMem} {k ci j : Nat} {v : Value} (hj : j < zfn ci) (hv : zfv G h' k ci j = v) (ho : ∀ i, i ≠ j → zfv G h' k ci i = zfv G h k ci i) : (zfs G h k ci).set j v = zfs G h' k ci := by
  apply List.ext_getElem?
  intro i
  by_cases e : i = j
  · subst e
    rw [List.getElem?_set_self (by rw [zfs_len]; exact hj), zfs_at hj, hv]
  · rw [List.getElem?_set_ne (Ne.symm e)]
    by_cases hl : i < zfn ci
    · rw [zfs_at hl, zfs_at hl, ho i e]
    · rw [List.getElem?_eq_none (by rw [zfs_len]; omega), List.getElem?_eq_none (by rw [zfs_len]; omega)]
/-- a class of the list: its number of fields, words, types, names -/
def zCF (ci : Nat) (C : String) (T : u_T) (N : Nat) : Prop := zcl[ci]? = some (C, T, N) ∧ (∀ w ∈ u_ws C T N, w ∈ ztb) ∧ (∀ k, k < N → parseFieldDescriptor (T k).2.2.1 = some (zty ci k)) ∧ (∀ a, a < N → ∀ b, b < N → a ≠ b → (T a).2.1 ≠ (T b).2.1) ∧ ci < 100
theorem zCF.n {ci : Nat} {C : String} {T : u_T} {N : Nat} (h : zCF ci C T N) : zfn ci = N := by unfold zfn; rw [h.1]
/-- a field's link: of class ci the field j, by entry 'index' of the class 'own' -/
def zFL (own : String) (index ci j : Nat) : Prop := ∃ (C : String) (T : u_T) (N : Nat), zCF ci C T N ∧ j < N ∧ Cond.fieldLink own index (T j).1 (T j).2.1 (T j).2.2.1 ∈ ztb
/-- it isn't final -/
def zNF (ci j : Nat) : Prop := ∃ (C : String) (T : u_T) (N : Nat), zcl[ci]? = some (C, T, N) ∧ (T j).2.2.2 = false
section ZB3
variable {G : zG} {μ : zM} {d : Nat} {b : zB} {pc : Nat} {lv st : List Value} {h : zMem} {P : Option Value → zMem → Prop}
theorem z_get (i : Nat) {index ci j a : Nat} {v : Value} (hi : μ.2.2.2.2[i]? = some (pc, .getfield index, 3)) (hf : zFL μ.1.cls index ci j) (ho : zO h a ci) (hv : zfv G h a ci j = zrv G v) (k : zGo G μ d b (pc + 3) lv (v :: st) h P) : zGo G μ d b pc lv (.ref a :: st) h P := by
  intro p l e R s m args below meth c C H locs ls hR hl h1 h2
  obtain ⟨Cn, T, N, hC, hj, hlk⟩ := hf
  exact va_get (v := zrv G v) C.1 C.2.1 C.2.2.2.2.2.2.1 hC.2.1 C.2.2.2.2.2.1 C.2.2.2.2.2.2.2.1.1 hR.1 a (by rw [zw_at ho.1, zcell_o ho.2 hC.2.2.2.2]) hC.1 j hj (C.2.2.2.2.2.2.1 _ hlk) (fun _ h9 => h9) (by rw [zfs_at (by rw [hC.n]; exact hj), hv]) (zdg C hi) (k p l e R s m args below meth c C H locs ls hR hl h1 h2)
theorem z_getI (i : Nat) {index ci j a : Nat} (hi : μ.2.2.2.2[i]? = some (pc, .getfield index, 3)) (hf : zFL μ.1.cls index ci j) (ht : zint (zty ci j) = true) (ho : zO h a ci) (k : zGo G μ d b (pc + 3) lv (.int (zI h a j) :: st) h P) : zGo G μ d b pc lv (.ref a :: st) h P := z_get i hi hf ho (zfv_int ht) k
theorem z_getL (i : Nat) {index ci j a : Nat} (hi : μ.2.2.2.2[i]? = some (pc, .getfield index, 3)) (hf : zFL μ.1.cls index ci j) (ht : zty ci j = .long) (ho : zO h a ci) (k : zGo G μ d b (pc + 3) lv (.long (zL h a j) :: st) h P) : zGo G μ d b pc lv (.ref a :: st) h P := z_get i hi hf ho (zfv_long ht) k
theorem z_getR (i : Nat) {index ci j a : Nat} {r : Nat} (hi : μ.2.2.2.2[i]? = some (pc, .getfield index, 3)) (hf : zFL μ.1.cls index ci j) (ht : zrefT (zty ci j) = true) (ho : zO h a ci) (hr : zR h a j = some r) (k : zGo G μ d b (pc + 3) lv (.ref r :: st) h P) : zGo G μ d b pc lv (.ref a :: st) h P := z_get i hi hf ho (by rw [zfv_ref ht, hr]; rfl) k
theorem zRep.set {G : zG} {h h' : zMem} {H H1 : Heap} {locs locs1 : List Loc} {a : Nat} {e : va_E} (hR : zRep G h H locs) (ha : a < zn h) (hn : zn h' = zn h) (hx : zx h' = zx h) (he : e = zcell G h' a) (ho : ∀ j, j ≠ a → zcell G h' j = zcell G h j) (hsz : H1.size = H.size) (hP : va_P (gD G) zcl ((zw G h).set a (zad G a, e)) H1) (hS : va_S (zA G) (gH G) H1 locs1) : zRep G h' H1 locs1 := by
  rw [zw_set ha hn he ho] at hP
  exact ⟨hP, hS, by rw [hsz, hn, hx]; exact hR.2.2.1, by rw [hn]; exact hR.2.2.2⟩
end ZB3
end
section
section ZB4
variable {G : zG} {μ : zM} {d : Nat} {b : zB} {pc : Nat} {lv st : List Value} {h : zMem} {P : Option Value → zMem → Prop}
theorem z_put (i : Nat) {index ci j a : Nat} {v : Value} {h' : zMem} (hi : μ.2.2.2.2[i]? = some (pc, .putfield index, 3)) (hf : zFL μ.1.cls index ci j) (hnf : zNF ci j) (ho : zO h a ci) (hn : narrow (zty ci j) (zrv G v) = zrv G v) (hfit : fits (zty ci j) (zrv G v) = true) (hn' : zn h' = zn h) (hx' : zx h' = zx h) (hs' : zs h' = zs h) (hK' : zK h' = zK h) (hv : zfv G h' a ci j = zrv G v) (hoj : ∀ i, i ≠ j → zfv G h' a ci i = zfv G h a ci i) (hok : ∀ k, k ≠ a → zcell G h' k = zcell G h k) (k : zGo G μ d b (pc + 3) lv st h' P) : zGo G μ d b pc lv (v :: .ref a :: st) h P := by
  intro p l e R s m args below meth c C H locs ls hR hl h1 h2
  obtain ⟨Cn, T, N, hC, hj, hlk⟩ := hf
  obtain ⟨_, _, _, hq, hfin⟩ := hnf
  cases hq.symm.trans hC.1
  have hsz : ∀ H1 : Heap, H1.size = H1.size := fun _ => rfl
  refine W.eq (g2 := F0 m pc ls (zrv G v :: .ref (zad G a) :: st.map (zrv G))) rfl ?_
  have hC2 := C.2.2.2.2.2.2.2.1.1
  obtain ⟨hap⟩ : True := trivial
  have hap := va_apart (own := μ.1.cls) C.2.2.2.2.2.2.1 hC.2.1 (zty ci) hC.2.2.1 hC.2.2.2.1 hC2 hC.1
  have he : (zw G h)[a]? = some (zad G a, .inr (ci, zfs G h a ci)) := by rw [zw_at ho.1, zcell_o ho.2 hC.2.2.2.2]
  obtain ⟨r, g1, cell, q1, q2, q3, q4⟩ := hR.1 a _ he
  have hr : r = (Cn, T, N) := Option.some.inj (g1.symm.trans hC.1)
  subst hr
  obtain ⟨hS, hfc, kC, hkC, hkind⟩ := hC2.1 ci _ hC.1
  obtain ⟨cf, kf, fi, f, hif, hsl⟩ := hS j hj
  have hlay := C.2.2.2.2.2.2.1 _ (hC.2.1 _ (u_in_lay hj))
  unfold u_lay at hlay
  rw [if_neg (by rw [hfin]; decide)] at hlay
  have hst := (u_facts hfc hkC (u_lays C.2.2.2.2.2.2.1 hC.2.1 hj) hif).1
  have h6 := u_store hfc hkC hkind hlay hif (hC.2.2.1 j hj) hn hfit
  have hD := zw_D (G := G) (h := h) hR.2.2.2
  refine W.putK C.1 C.2.1 (f := f) ⟨C.2.2.2.2.2.1, C.2.2.2.2.2.2.1 _ hlk, ⟨_, _, _, hif⟩, hst⟩ (by rw [q2]; exact h6) q1 q3 (by rw [hsl]; exact k2_hasslot (q4 j hj)) rfl rfl (zdg C hi) fun H' e1 e2 e3 => ?_
  rw [hsl] at e1 ⊢
  have hl2 : j < (zfs G h a ci).length := by rw [zfs_len, hC.n]; exact hj
  have hP1 : va_P (gD G) zcl ((zw G h).set a (zad G a, .inr (ci, (zfs G h a ci).set j (zrv G v)))) H' := hR.1.set hD he ⟨_, hC.1, t_OB.to (V := updV (vp_V (zfs G h a ci)) j (zrv G v)) ⟨_, e1, q2, q3, t_set q4 hap hj (zrv G v)⟩ (fun j' _ => vp_updV_set hl2 (zrv G v) j')⟩ e3
  have hR' : zRep G h' H' (locs ++ [⟨zad G a, gD G |>.2 ci j⟩]) := by
    refine hR.set ho.1 hn' hx' ?_ hok e2 hP1 (hR.2.1.put e2 e3 (hD.2 a _ he))
    rw [zcell_o (by rw [hK']; exact ho.2) hC.2.2.2.2, zfs_set (by rw [hC.n]; exact hj) hv hoj]
  have := k p l e R s m args below meth c C H' _ ls hR' hl (by omega) (by omega)
  rw [hn', hx', hs'] at this
  exact this
theorem z_putI (i : Nat) {index ci j a : Nat} {x : Int32} (hi : μ.2.2.2.2[i]? = some (pc, .putfield index, 3)) (hf : zFL μ.1.cls index ci j) (hnf : zNF ci j) (ht : zint (zty ci j) = true) (hn : narrow (zty ci j) (.int x) = .int x) (hfit : fits (zty ci j) (.int x) = true) (ho : zO h a ci) (k : zGo G μ d b (pc + 3) lv st (zsI h a j x) P) : zGo G μ d b pc lv (.int x :: .ref a :: st) h P := by
  refine z_put i hi hf hnf ho hn hfit (zn_sI ..) (zx_sI ..) (zs_sI ..) (zK_sI ..) (by rw [zfv_int ht, zI_sI, zup_s]; rfl) (fun j' hj' => ?_) (fun k' hk' => zcell_sI_ne hk') k
  simp only [zfv, zL_sI, zR_sI, zI_sI, zup_i _ _ _ hj']
theorem z_putL (i : Nat) {index ci j a : Nat} {x : Int64} (hi : μ.2.2.2.2[i]? = some (pc, .putfield index, 3)) (hf : zFL μ.1.cls index ci j) (hnf : zNF ci j) (ht : zty ci j = .long) (ho : zO h a ci) (k : zGo G μ d b (pc + 3) lv st (zsL h a j x) P) : zGo G μ d b pc lv (.long x :: .ref a :: st) h P := by
  refine z_put i hi hf hnf ho (by rw [ht]; rfl) (by rw [ht]; rfl) (zn_sL ..) (zx_sL ..) (zs_sL ..) (zK_sL ..) (by rw [zfv_long ht, zL_sL, zup_s]; rfl) (fun j' hj' => ?_) (fun k' hk' => zcell_sL_ne hk') k
  simp only [zfv, zI_sL, zR_sL, zL_sL, zup_i _ _ _ hj']
theorem z_putR (i : Nat) {index ci j a r : Nat} (hi : μ.2.2.2.2[i]? = some (pc, .putfield index, 3)) (hf : zFL μ.1.cls index ci j) (hnf : zNF ci j) (ht : zrefT (zty ci j) = true) (ho : zO h a ci) (k : zGo G μ d b (pc + 3) lv st (zsR h a j (some r)) P) : zGo G μ d b pc lv (.ref r :: .ref a :: st) h P := by
  refine z_put i hi hf hnf ho (by revert ht; cases zty ci j <;> simp [zrefT] <;> rfl) (by revert ht; cases zty ci j <;> simp [zrefT] <;> rfl) (zn_sR ..) (zx_sR ..) (zs_sR ..) (zK_sR ..) (by rw [zfv_ref ht, zR_sR, zup_s]; rfl) (fun j' hj' => ?_) (fun k' hk' => zcell_sR_ne hk') k
  simp only [zfv, zI_sR, zL_sR, zR_sR, zup_i _ _ _ hj']
-- arrays: reads
theorem z_iald (i : Nat) {a : Nat} {x : Int32} (hi : μ.2.2.2.2[i]? = some (pc, .iaload, 1)) (ho : zO h a 100) (hx : vp_in x (zLen h a)) (k : zGo G μ d b (pc + 1) lv (.int (zI h a x.toNatClampNeg) :: st) h P) : zGo G μ d b pc lv (.int x :: .ref a :: st) h P := by
  intro p l e R s m args below meth c C H locs ls hR hl h1 h2
  exact va_iald C.1 C.2.1 C.2.2.2.2.2.2.2.1.1 hR.1 a 0 (by rw [zw_at ho.1, zcell_i ho.2]) rfl hx (zdg C hi) (k p l e R s m args below meth c C H locs ls hR hl h1 h2)
theorem z_bald (i : Nat) {a : Nat} {x : Int32} (hi : μ.2.2.2.2[i]? = some (pc, .baload, 1)) (ho : zO h a 102) (hx : vp_in x (zLen h a)) (k : zGo G μ d b (pc + 1) lv (.int (zI h a x.toNatClampNeg) :: st) h P) : zGo G μ d b pc lv (.int x :: .ref a :: st) h P := by
  intro p l e R s m args below meth c C H locs ls hR hl h1 h2
  exact va_bald C.1 C.2.1 C.2.2.2.2.2.2.2.1.1 hR.1 a 2 (by rw [zw_at ho.1, zcell_b ho.2]) rfl hx (zdg C hi) (k p l e R s m args below meth c C H locs ls hR hl h1 h2)
theorem z_zald (i : Nat) {a : Nat} {x : Int32} (hi : μ.2.2.2.2[i]? = some (pc, .baload, 1)) (ho : zO h a 103) (hx : vp_in x (zLen h a)) (k : zGo G μ d b (pc + 1) lv (.int (zI h a x.toNatClampNeg) :: st) h P) : zGo G μ d b pc lv (.int x :: .ref a :: st) h P := by
  intro p l e R s m args below meth c C H locs ls hR hl h1 h2
  exact va_zald C.1 C.2.1 C.2.2.2.2.2.2.2.1.1 hR.1 a 3 (by rw [zw_at ho.1, zcell_z ho.2]) rfl hx (zdg C hi) (k p l e R s m args below meth c C H locs ls hR hl h1 h2)
theorem z_lald (i : Nat) {a : Nat} {x : Int32} (hi : μ.2.2.2.2[i]? = some (pc, .laload, 1)) (ho : zO h a 101) (hx : vp_in x (zLen h a)) (k : zGo G μ d b (pc + 1) lv (.long (zL h a x.toNatClampNeg) :: st) h P) : zGo G μ d b pc lv (.int x :: .ref a :: st) h P := by
  intro p l e R s m args below meth c C H locs ls hR hl h1 h2
  exact va_lald C.1 C.2.1 C.2.2.2.2.2.2.2.1.1 hR.1 a 1 (by rw [zw_at ho.1, zcell_l ho.2]) rfl hx (zdg C hi) (k p l e R s m args below meth c C H locs ls hR hl h1 h2)
theorem z_aald (i : Nat) {a r : Nat} {x : Int32} (hi : μ.2.2.2.2[i]? = some (pc, .aaload, 1)) (ho : zO h a 104) (hx : vp_in x (zLen h a)) (hr : zR h a x.toNatClampNeg = some r) (k : zGo G μ d b (pc + 1) lv (.ref r :: st) h P) : zGo G μ d b pc lv (.int x :: .ref a :: st) h P := by
  intro p l e R s m args below meth c C H locs ls hR hl h1 h2
  have hc := hR.1 a _ (zw_at ho.1)
  rw [zcell_q ho.2] at hc
  have hc : H[zad G a]? = some (arrV (gA G 4) (zLen h a) (fun j => va_rf ((zR h a j).map (zad G)))) := hc
  have hlt : x.toNatClampNeg < zLen h a := Nat.not_le.mp fun q => hx (Or.inr q)
  exact W.aald (v := .ref (zad G r)) (ty := .array .int) C.1 C.2.1 hc ((C.2.2.2.2.2.2.2.1.1.2 4 _ rfl).1 _ _) rfl (fun q => by cases q) (by rw [arrV_size]; exact hx) (by rw [arrV_read _ _ hlt, hr]; rfl) rfl rfl (zdg C hi) (k p l e R s m args below meth c C H locs ls hR hl h1 h2)
theorem z_alen (i : Nat) {a ka : Nat} (hi : μ.2.2.2.2[i]? = some (pc, .arraylength, 1)) (ho : zO h a ka) (hk : ka = 100 ∨ ka = 101 ∨ ka = 102 ∨ ka = 103 ∨ ka = 104) (k : zGo G μ d b (pc + 1) lv (.int (nI (zLen h a)) :: st) h P) : zGo G μ d b pc lv (.ref a :: st) h P := by
  intro p l e R s m args below meth c C H locs ls hR hl h1 h2
  rcases hk with rfl | rfl | rfl | rfl | rfl
  · exact va_alen (x := (zLen h a, .inl (zI h a))) C.1 C.2.1 C.2.2.2.2.2.2.2.1.1 hR.1 a 0 (by rw [zw_at ho.1, zcell_i ho.2]) rfl rfl (zdg C hi) (k p l e R s m args below meth c C H locs ls hR hl h1 h2)
  · exact va_alen (x := (zLen h a, .inr (.inl (zL h a)))) C.1 C.2.1 C.2.2.2.2.2.2.2.1.1 hR.1 a 1 (by rw [zw_at ho.1, zcell_l ho.2]) rfl rfl (zdg C hi) (k p l e R s m args below meth c C H locs ls hR hl h1 h2)
  · exact va_alen (x := (zLen h a, .inl (zI h a))) C.1 C.2.1 C.2.2.2.2.2.2.2.1.1 hR.1 a 2 (by rw [zw_at ho.1, zcell_b ho.2]) rfl rfl (zdg C hi) (k p l e R s m args below meth c C H locs ls hR hl h1 h2)
  · exact va_alen (x := (zLen h a, .inl (zI h a))) C.1 C.2.1 C.2.2.2.2.2.2.2.1.1 hR.1 a 3 (by rw [zw_at ho.1, zcell_z ho.2]) rfl rfl (zdg C hi) (k p l e R s m args below meth c C H locs ls hR hl h1 h2)
  · exact va_alen (x := (zLen h a, .inr (.inr (.inr (.inr (fun j => (zR h a j).map (zad G))))))) C.1 C.2.1 C.2.2.2.2.2.2.2.1.1 hR.1 a 4 (by rw [zw_at ho.1, zcell_q ho.2]) rfl rfl (zdg C hi) (k p l e R s m args below meth c C H locs ls hR hl h1 h2)
end ZB4
theorem zup_upd (f : Nat → Nat → Int32) (a i : Nat) (v : Int32) : zup f a i v a = upd (f a) i v := funext fun j => by simp [zup, upd]
theorem zup_updL (f : Nat → Nat → Int64) (a i : Nat) (v : Int64) : zup f a i v a = vp_updL (f a) i v := funext fun j => by simp [zup, vp_updL]
section ZB5
variable {G : zG} {μ : zM} {d : Nat} {b : zB} {pc : Nat} {lv st : List Value} {h : zMem} {P : Option Value → zMem → Prop}
theorem z_iast (i : Nat) {a : Nat} {x : Int32} {v : Int32} (hi : μ.2.2.2.2[i]? = some (pc, .iastore, 1)) (ho : zO h a 100) (hx : vp_in x (zLen h a)) (k : zGo G μ d b (pc + 1) lv st (zsI h a x.toNatClampNeg v) P) : zGo G μ d b pc lv (.int v :: .int x :: .ref a :: st) h P := by
  intro p l e R s m args below meth c C H locs ls hR hl h1 h2
  have he : (zw G h)[a]? = some (zad G a, .inl (gA G 0, zLen h a, .inl (zI h a))) := by rw [zw_at ho.1, zcell_i ho.2]
  have hD := zw_D (G := G) (h := h) hR.2.2.2
  refine W.iast C.1 C.2.1 (hR.1 a _ he) ((C.2.2.2.2.2.2.2.1.1.2 0 _ rfl).1 (zLen h a) (fun j => .int (zI h a j))) (fun q => by cases q) (by show ¬ (x < 0 ∨ (arrV _ _ _).slots.size ≤ _); rw [arrV_size]; exact hx) rfl rfl (zdg C hi) fun H1 e1 z oq => ?_
  have hP1 := hR.1.set hD he (e := zcell G (zsI h a x.toNatClampNeg v) a) (by
    rw [zcell_i (by exact ho.2)]
    show H1[zad G a]? = some (vp_cell _ _)
    rw [e1]
    dsimp only
    rw [vp_cell_i, vp_cell_i, arrV_store]
    congr 2
    funext q
    by_cases hq : q = x.toNatClampNeg
    · subst hq
      simp [updV, zI_sI, zup]
      try rfl
    · simp [updV, zI_sI, zup, hq]) oq
  exact k p l e R s m args below meth c C H1 _ ls (hR.set ho.1 rfl rfl rfl (fun j hj => zcell_sI_ne hj) z hP1 (hR.2.1.put z oq (hD.2 a _ he))) hl h1 h2
theorem z_bast (i : Nat) {a : Nat} {x : Int32} {v : Int32} (hi : μ.2.2.2.2[i]? = some (pc, .bastore, 1)) (ho : zO h a 102) (hx : vp_in x (zLen h a)) (k : zGo G μ d b (pc + 1) lv st (zsI h a x.toNatClampNeg (vp_nar .byte v)) P) : zGo G μ d b pc lv (.int v :: .int x :: .ref a :: st) h P := by
  intro p l e R s m args below meth c C H locs ls hR hl h1 h2
  have he : (zw G h)[a]? = some (zad G a, .inl (gA G 2, zLen h a, .inl (zI h a))) := by rw [zw_at ho.1, zcell_b ho.2]
  have hD := zw_D (G := G) (h := h) hR.2.2.2
  refine W.bast C.1 C.2.1 (hR.1 a _ he) ((C.2.2.2.2.2.2.2.1.1.2 2 _ rfl).1 (zLen h a) (fun j => .int (zI h a j))) (fun q => by cases q) (by show ¬ (x < 0 ∨ (arrV _ _ _).slots.size ≤ _); rw [arrV_size]; exact hx) rfl rfl (zdg C hi) fun H1 e1 z oq => ?_
  have hP1 := hR.1.set hD he (e := zcell G (zsI h a x.toNatClampNeg (vp_nar .byte v)) a) (by
    rw [zcell_b (by exact ho.2)]
    show H1[zad G a]? = some (vp_cell _ _)
    rw [e1]
    dsimp only
    rw [vp_cell_i, vp_cell_i, arrV_store]
    congr 2
    funext q
    by_cases hq : q = x.toNatClampNeg
    · subst hq
      simp [updV, zI_sI, zup, vp_nar]
      try rfl
    · simp [updV, zI_sI, zup, hq]) oq
  exact k p l e R s m args below meth c C H1 _ ls (hR.set ho.1 rfl rfl rfl (fun j hj => zcell_sI_ne hj) z hP1 (hR.2.1.put z oq (hD.2 a _ he))) hl h1 h2
theorem z_zast (i : Nat) {a : Nat} {x : Int32} {v : Int32} (hi : μ.2.2.2.2[i]? = some (pc, .bastore, 1)) (ho : zO h a 103) (hx : vp_in x (zLen h a)) (k : zGo G μ d b (pc + 1) lv st (zsI h a x.toNatClampNeg (vp_nar .boolean v)) P) : zGo G μ d b pc lv (.int v :: .int x :: .ref a :: st) h P := by
  intro p l e R s m args below meth c C H locs ls hR hl h1 h2
  have he : (zw G h)[a]? = some (zad G a, .inl (gA G 3, zLen h a, .inl (zI h a))) := by rw [zw_at ho.1, zcell_z ho.2]
  have hD := zw_D (G := G) (h := h) hR.2.2.2
  refine W.zast C.1 C.2.1 (hR.1 a _ he) ((C.2.2.2.2.2.2.2.1.1.2 3 _ rfl).1 (zLen h a) (fun j => .int (zI h a j))) (fun q => by cases q) (by show ¬ (x < 0 ∨ (arrV _ _ _).slots.size ≤ _); rw [arrV_size]; exact hx) rfl rfl (zdg C hi) fun H1 e1 z oq => ?_
  have hP1 := hR.1.set hD he (e := zcell G (zsI h a x.toNatClampNeg (vp_nar .boolean v)) a) (by
    rw [zcell_z (by exact ho.2)]
    show H1[zad G a]? = some (vp_cell _ _)
    rw [e1]
    dsimp only
    rw [vp_cell_i, vp_cell_i, arrV_store]
    congr 2
    funext q
    by_cases hq : q = x.toNatClampNeg
    · subst hq
      simp [updV, zI_sI, zup, vp_nar]
      try rfl
    · simp [updV, zI_sI, zup, hq]) oq
  exact k p l e R s m args below meth c C H1 _ ls (hR.set ho.1 rfl rfl rfl (fun j hj => zcell_sI_ne hj) z hP1 (hR.2.1.put z oq (hD.2 a _ he))) hl h1 h2
theorem z_last (i : Nat) {a : Nat} {x : Int32} {v : Int64} (hi : μ.2.2.2.2[i]? = some (pc, .lastore, 1)) (ho : zO h a 101) (hx : vp_in x (zLen h a)) (k : zGo G μ d b (pc + 1) lv st (zsL h a x.toNatClampNeg v) P) : zGo G μ d b pc lv (.long v :: .int x :: .ref a :: st) h P := by
  intro p l e R s m args below meth c C H locs ls hR hl h1 h2
  have he : (zw G h)[a]? = some (zad G a, .inl (gA G 1, zLen h a, .inr (.inl (zL h a)))) := by rw [zw_at ho.1, zcell_l ho.2]
  have hD := zw_D (G := G) (h := h) hR.2.2.2
  refine W.last C.1 C.2.1 (hR.1 a _ he) ((C.2.2.2.2.2.2.2.1.1.2 1 _ rfl).1 (zLen h a) (fun j => .long (zL h a j))) (fun q => by cases q) (by show ¬ (x < 0 ∨ (arrV _ _ _).slots.size ≤ _); rw [arrV_size]; exact hx) rfl rfl (zdg C hi) fun H1 e1 z oq => ?_
  have hP1 := hR.1.set hD he (e := zcell G (zsL h a x.toNatClampNeg v) a) (by
    rw [zcell_l (by exact ho.2)]
    show H1[zad G a]? = some (vp_cell _ _)
    rw [e1]
    dsimp only
    rw [vp_cell_l, vp_cell_l, arrV_store]
    congr 2
    funext q
    by_cases hq : q = x.toNatClampNeg
    · subst hq
      simp [updV, zL_sL, zup]
      try rfl
    · simp [updV, zL_sL, zup, hq]) oq
  exact k p l e R s m args below meth c C H1 _ ls (hR.set ho.1 rfl rfl rfl (fun j hj => zcell_sL_ne hj) z hP1 (hR.2.1.put z oq (hD.2 a _ he))) hl h1 h2
/-- how many cells and slots a method has made at its end -/
def zcnt (b : zB) (h : zMem) : Prop := zn h + zx h = b.1 + b.2.2.1 ∧ zs h = b.2.1 + b.2.2.2
theorem z_iret (i : Nat) {ty : FieldType} {v : Int32} (hi : μ.2.2.2.2[i]? = some (pc, .ireturn, 1)) (hr : μ.2.2.2.1 = some ty) (hn : narrow ty (.int v) = .int v) (hc : zcnt b h) (hp : P (some (.int v)) h) : zGo G μ d b pc lv [.int v] h P := by
  intro p l e R s m args below meth c C H locs ls hR hl h1 h2
  rw [show zn h + zx h - b.1 = b.2.2.1 by have := hc.1; omega, show zs h - b.2.1 = b.2.2.2 by have := hc.2; omega]
  exact W.zret C.1 C.2.1 (C.2.2.2.1.trans hr) hn (fun t ht _ => ⟨some (.int v), h, rfl, hp, by rw [ht]; exact hR.nil, hc.1, hc.2⟩) hR.2.1.2.2 (zdg C hi) C.2.2.2.2.1
theorem z_lret (i : Nat) {v : Int64} (hi : μ.2.2.2.2[i]? = some (pc, .lreturn, 1)) (hr : μ.2.2.2.1 = some .long) (hc : zcnt b h) (hp : P (some (.long v)) h) : zGo G μ d b pc lv [.long v] h P := by
  intro p l e R s m args below meth c C H locs ls hR hl h1 h2
  rw [show zn h + zx h - b.1 = b.2.2.1 by have := hc.1; omega, show zs h - b.2.1 = b.2.2.2 by have := hc.2; omega]
  exact W.lret C.1 C.2.1 (C.2.2.2.1.trans hr) (fun t ht _ => ⟨some (.long v), h, rfl, hp, by rw [ht]; exact hR.nil, hc.1, hc.2⟩) hR.2.1.2.2 (zdg C hi) C.2.2.2.2.1
theorem z_vret (i : Nat) (hi : μ.2.2.2.2[i]? = some (pc, .return_, 1)) (hr : μ.2.2.2.1 = none) (hc : zcnt b h) (hp : P none h) : zGo G μ d b pc lv [] h P := by
  intro p l e R s m args below meth c C H locs ls hR hl h1 h2
  rw [show zn h + zx h - b.1 = b.2.2.1 by have := hc.1; omega, show zs h - b.2.1 = b.2.2.2 by have := hc.2; omega]
  exact W.vret C.1 C.2.1 (C.2.2.2.1.trans hr) (fun t ht _ => ⟨none, h, rfl, hp, by rw [ht]; exact hR.nil, hc.1, hc.2⟩) hR.2.1.2.2 (zdg C hi) C.2.2.2.2.1
theorem z_aret (i : Nat) {a : Nat} {ty : FieldType} (hi : μ.2.2.2.2[i]? = some (pc, .areturn, 1)) (hr : μ.2.2.2.1 = some ty) (ht : (∃ n, ty = .object n) ∨ ∃ t, ty = .array t) (hc : zcnt b h) (hp : P (some (.ref a)) h) : zGo G μ d b pc lv [.ref a] h P := by
  intro p l e R s m args below meth c C H locs ls hR hl h1 h2
  rw [show zn h + zx h - b.1 = b.2.2.1 by have := hc.1; omega, show zs h - b.2.1 = b.2.2.2 by have := hc.2; omega]
  exact W.aret C.1 C.2.1 (C.2.2.2.1.trans hr) ht (Or.inr ⟨_, rfl⟩) (fun t ht _ => ⟨some (.ref a), h, rfl, hp, by rw [ht]; exact hR.nil, hc.1, hc.2⟩) hR.2.1.2.2 (zdg C hi) C.2.2.2.2.1
end ZB5
/-! calls -/
/-- what a call needs of the method called -/
def zMF (ν : zM) (n : Nat) : Prop := Cond.code ν.1 ν.2.1 ν.2.2.1 ν.2.2.2.1 ∈ ztb ∧ Cond.initialized ν.1.cls ∈ ztb ∧ (ν.1.cls ≠ "java/lang/invoke/MethodHandle" ∧ ν.1.cls ≠ "java/lang/invoke/VarHandle" ∧ (parseMethodDescriptor ν.1.desc).map (fun d => d.parameters.length) = some n) ∧ ν.2.2.1 ≤ 45
theorem ztb_GoodIn {w : Cond} (hw : w ∈ ztb) : GoodIn ztb (w :: ztb) := fun v hv => by
  have h1 : v ∈ ztb := by
    rcases List.mem_cons.mp hv with h | h
    · rw [h]; exact hw
    · exact h
  exact ⟨h1, good_of_word (ztb_good v h1)⟩
theorem zsum_cat (G : zG) (st : List Value) : ((st.map (zrv G)).map fun v => v.category).sum = (st.map fun v => v.category).sum := by
  rw [List.map_map]
  congr 1
  apply List.map_congr_left
  intro v _
  exact zrv_cat G v
section ZB6
variable {G : zG} {μ : zM} {d : Nat} {b : zB} {pc : Nat} {lv st : List Value} {h : zMem} {P : Option Value → zMem → Prop}
/-- behind a call -/
theorem z_run {ν : zM} {bc bs : Nat} {Q : Option Value → zMem → Prop} {aa : Array Value} {st0 : List Value} {p : Program} {l : Launch} {e : Env} {R : Room} {s : State} {m : MethodId} {args : Array Value} {below : List Frame} {meth : Method} {c : Code} (C : zCtx G μ d b p R s m args meth c) {H : Heap} {locs : List Loc} {ls : Array Slot} (hR : zRep G h H locs) (hl : zLv G ls μ.2.2.1 lv) (h1 : b.1 ≤ zn h + zx h) (h2 : b.2.1 ≤ zs h)
    (hr : va_Run p l e R s m args below meth c H locs (zn h + zx h - b.1) (zs h - b.2.1) bc bs (F0 m pc ls st0) (st.map (zrv G)) (zQ G (zn h + zx h, zs h, bc, bs) Q aa) (zA G))
    (k : ∀ r h', Q r h' → zn h' + zx h' = zn h + zx h + bc → zs h' = zs h + bs → zGo G μ d b (pc + 3) lv (r.toList ++ st) h' P) :
    W p l e R s m args below meth c H locs (zn h + zx h - b.1) (zs h - b.2.1) (MQ below (zQ G b P) args s b.2.2.1 b.2.2.2 (zA G)) (F0 m pc ls st0) := by
  intro T hT X
  obtain ⟨v, st₀, t, T', L, g0, X', hL, e1, e2, ⟨r, h', hv, hq, hRep, c1, c2⟩, st1⟩ := hr T hT X
  cases hv
  have c1 : zn h' + zx h' = zn h + zx h + bc := c1
  have c2 : zs h' = zs h + bs := c2
  have kk := k r h' hq c1 c2 p l e R s m args below meth c C T'.heap (locs ++ L) ls (by
    rw [e1]
    refine ⟨hRep.1, ⟨hRep.2.1.1, hRep.2.1.2.1, fun q hq => ?_⟩, hRep.2.2⟩
    rcases List.mem_append.mp hq with hq | hq
    · exact hR.2.1.2.2 q hq
    · exact hL q hq) hl (by omega) (by omega)
  rw [show zn h' + zx h' - b.1 = zn h + zx h - b.1 + bc by omega, show zs h' - b.2.1 = zs h - b.2.1 + bs by omega] at kk
  obtain ⟨t2, a1, b1⟩ := kk T' rfl X'
  refine ⟨t2, st1 t2 ?_, b1⟩
  have hst : (r.map (zrv G)).toList ++ st.map (zrv G) = (r.toList ++ st).map (zrv G) := by cases r <;> rfl
  show Steps p.tables e below (T'.setTop { F0 m pc ls st0 with pc := pc + 3, stack := (r.map (zrv G)).toList ++ st.map (zrv G) }) t2
  rw [hst]
  exact a1
theorem zPc_blind {as : List Value} : FrameBlind (fun a U => a = (as.map (zrv G)).toArray ∧ zRep G h U.heap [] ∧ zKK G U) := fun a U g mk q => ⟨q.1, q.2.1, q.2.2.calling⟩
theorem z_callV (i n : Nat) (as : List Value) {index : Nat} {ν : zM} {d' bc bs a ci : Nat} {Q : Option Value → zMem → Prop} (hi : μ.2.2.2.2[i]? = some (pc, .invokevirtual index, 3)) (hν : zMF ν n) (hlk : Cond.methodLink μ.1.cls index ν.1 ∈ ztb ∧ Cond.instanceMethod ν.1 ∈ ztb ∧ Cond.selects ν.1.cls ν.1 ν.1 ∈ ztb) (ho : zO h a ci) (hcl : ∃ q, zcl[ci]? = some q ∧ q.1 = ν.1.cls) (hci : ci < 100) (hn : as.length = n) (hw : (st.map fun v => v.category).sum ≤ 8) (hd : d' + 1 ≤ d) (hb : zn h + zx h + bc ≤ b.1 + b.2.2.1 ∧ zs h + bs ≤ b.2.1 + b.2.2.2) (K : zCon G ν d' bc bs (.ref a :: as) h Q)
    (k : ∀ r h', Q r h' → zn h' + zx h' = zn h + zx h + bc → zs h' = zs h + bs → zGo G μ d b (pc + 3) lv (r.toList ++ st) h' P) : zGo G μ d b pc lv (as.reverse ++ .ref a :: st) h P := by
  intro p l e R s m args below meth c C H locs ls hR hl h1 h2
  obtain ⟨q, hq1, hq2⟩ := hcl
  have hrm := C.2.2.2.2.2.2.2.2.2.2
  have hts := C.2.2.2.2.2.2.1
  have he : (zw G h)[a]? = some (zad G a, .inr (ci, zfs G h a ci)) := by rw [zw_at ho.1, zcell_o ho.2 hci]
  refine z_run (ν := ν) C hR hl h1 h2 (va_runV (As := as.map (zrv G)) (b := zad G a) (n := n) ⟨C.1, C.2.1, C.2.2.1, C.2.2.2.2.2.1, hts⟩ (K l) ⟨callB_of n hts (ztb_GoodIn hν.1) rfl rfl rfl (hts _ hν.2.1) (hts _ hlk.1) hν.2.2.1 ?_, hts _ hlk.2.1, hts _ hlk.2.2⟩ ⟨zPc_blind, ?_, fun U hU hW => ⟨rfl, by rw [hU]; exact hR.nil, zKK.warm hW C.2.2.2.2.2.2.2.1⟩⟩ rfl (by rw [List.length_map]; exact hn) hl.1 ?_ (lv_room (by rw [zsum_cat]; exact hw)) (zdg C hi) ?_) k
  · rw [hrm]
    have := hν.2.2.2
    exact ⟨hd, by show 8 + (ν.2.2.1 + 11) + 64 * d' ≤ 64 * d; omega⟩
  · obtain ⟨cell, g1, g2, g3⟩ := va_recv C.2.2.2.2.2.2.2.1.1 hR.1 hq1 he
    exact ⟨cell, g1, g2, by rw [← hq2]; exact g3⟩
  · simp [zrv]
  · rw [hrm]
    show zn h + zx h - b.1 + bc ≤ b.2.2.1 ∧ zs h - b.2.1 + bs ≤ b.2.2.2
    omega
theorem z_callS (i n : Nat) (as : List Value) {index : Nat} {ν : zM} {d' bc bs : Nat} {Q : Option Value → zMem → Prop} (hi : μ.2.2.2.2[i]? = some (pc, .invokestatic index, 3)) (hν : zMF ν n) (hlk : Cond.methodLink μ.1.cls index ν.1 ∈ ztb ∧ Cond.static ν.1 ∈ ztb) (hn : as.length = n) (hw : (st.map fun v => v.category).sum ≤ 8) (hd : d' + 1 ≤ d) (hb : zn h + zx h + bc ≤ b.1 + b.2.2.1 ∧ zs h + bs ≤ b.2.1 + b.2.2.2) (K : zCon G ν d' bc bs as h Q)
    (k : ∀ r h', Q r h' → zn h' + zx h' = zn h + zx h + bc → zs h' = zs h + bs → zGo G μ d b (pc + 3) lv (r.toList ++ st) h' P) : zGo G μ d b pc lv (as.reverse ++ st) h P := by
  intro p l e R s m args below meth c C H locs ls hR hl h1 h2
  have hrm := C.2.2.2.2.2.2.2.2.2.2
  have hts := C.2.2.2.2.2.2.1
  refine z_run (ν := ν) C hR hl h1 h2 (va_runS (As := as.map (zrv G)) (n := n) ⟨C.1, C.2.1, C.2.2.1, C.2.2.2.2.2.1, hts⟩ (K l) ⟨callB_of n hts (ztb_GoodIn hν.1) rfl rfl rfl (hts _ hν.2.1) (hts _ hlk.1) hν.2.2.1 ?_, hts _ hlk.2⟩ ⟨zPc_blind, fun U hU hW => ⟨rfl, by rw [hU]; exact hR.nil, zKK.warm hW C.2.2.2.2.2.2.2.1⟩⟩ rfl (by rw [List.length_map]; exact hn) hl.1 ?_ (lv_room (by rw [zsum_cat]; exact hw)) (zdg C hi) ?_) k
  · rw [hrm]
    have := hν.2.2.2
    exact ⟨hd, by show 8 + (ν.2.2.1 + 11) + 64 * d' ≤ 64 * d; omega⟩
  · simp
  · rw [hrm]
    show zn h + zx h - b.1 + bc ≤ b.2.2.1 ∧ zs h - b.2.1 + bs ≤ b.2.2.2
    omega
end ZB6
/-- the locals at a method's entry -/
def zent : Nat → List Value → List Value
  | n, [] => List.replicate n zU
  | n, .long v :: r => .long v :: zU :: zent (n - 2) r
  | n, v :: r => v :: zent (n - 1) r
def zcat1 (v : Value) : Bool := match v with
  | .long _ => true
  | .double _ => false
  | _ => true
theorem zent_args (G : zG) : ∀ (as : List Value) (n o : Nat) (i : Nat) (v : Value), (∀ a ∈ as, zcat1 a = true) → (zent n as)[i]? = some v → zisU v = false → (o + i, zrv G v) ∈ lv_args o (as.map (zrv G)) := by
  intro as
  induction as with
  | nil =>
    intro n o i v _ hi hu
    simp only [zent] at hi
    have := List.mem_of_getElem? hi
    rw [List.mem_replicate] at this
    rw [this.2] at hu
    cases hu
  | cons a r ih =>
    intro n o i v hc hi hu
    have hr : ∀ a ∈ r, zcat1 a = true := fun x hx => hc x (List.mem_cons_of_mem _ hx)
    have ha := hc a List.mem_cons_self
    have one : a.category = 1 → zent n (a :: r) = a :: zent (n - 1) r → (o + i, zrv G v) ∈ lv_args o ((a :: r).map (zrv G)) := by
      intro h1 h2
      rw [h2] at hi
      show _ ∈ (o, zrv G a) :: lv_args (if (zrv G a).category = 2 then o + 2 else o + 1) (r.map (zrv G))
      rw [zrv_cat, h1, if_neg (by decide)]
      cases i with
      | zero =>
        simp only [List.getElem?_cons_zero, Option.some.injEq] at hi
        subst hi
        exact List.mem_cons_self
      | succ i =>
        rw [List.getElem?_cons_succ] at hi
        have := ih (n - 1) (o + 1) i v hr hi hu
        rw [show o + 1 + i = o + (i + 1) by omega] at this
        exact List.mem_cons_of_mem _ this
    cases a with
    | long x =>
      simp only [zent] at hi
      show _ ∈ (o, zrv G (.long x)) :: lv_args (o + 2) (r.map (zrv G))
      match i, hi with
      | 0, hi =>
        simp only [List.getElem?_cons_zero, Option.some.injEq] at hi
        subst hi
        exact List.mem_cons_self
      | 1, hi =>
        simp only [List.getElem?_cons_succ, List.getElem?_cons_zero, Option.some.injEq] at hi
        subst hi
        cases hu
      | i + 2, hi =>
        simp only [List.getElem?_cons_succ] at hi
        have := ih (n - 2) (o + 2) i v hr hi hu
        rw [show o + 2 + i = o + (i + 2) by omega] at this
        exact List.mem_cons_of_mem _ this
    | double x => cases ha
    | int x => exact one rfl rfl
    | float x => exact one rfl rfl
    | null => exact one rfl rfl
    | ref x => exact one rfl rfl
    | retAddr x => exact one rfl rfl
def zwid (as : List Value) : Nat := (as.map fun v => v.category).sum
theorem zwid_sl (G : zG) (as : List Value) : (lg_sl (as.map (zrv G))).length = zwid as := by
  induction as with
  | nil => rfl
  | cons a r ih =>
    have : lg_sl ((a :: r).map (zrv G)) = (if (zrv G a).category = 2 then [.val (zrv G a), .second] else [.val (zrv G a)]) ++ lg_sl (r.map (zrv G)) := by simp [lg_sl]
    rw [this, List.length_append, ih, zrv_cat]
    show _ = a.category + zwid r
    rcases lv_cat a with e | e
    · rw [e]; simp
    · rw [e]; simp
theorem zcon_intro {G : zG} {μ : zM} {d bc bs : Nat} {as : List Value} {h : zMem} {P : Option Value → zMem → Prop} (hy : plainName μ.1.cls = true) (hdec : zdec μ) (hw : zwid as ≤ μ.2.2.1) (hcat : ∀ a ∈ as, zcat1 a = true) (k : zGo G μ d (zn h + zx h, zs h, bc, bs) 0 (zent μ.2.2.1 as) [] h P) : zCon G μ d bc bs as h P := by
  intro l
  refine Met.ofW (cc := μ.2.1) (maxL := μ.2.2.1) (ret := μ.2.2.2.1) hy rfl ?_
  intro p e s m args below meth c s₁ B hml hv
  obtain ⟨rfl, hR, hKK⟩ := hv
  have hts := atoms_spec (ws := Cond.code μ.1 μ.2.1 μ.2.2.1 μ.2.2.2.1 :: ztb) B.pre
  have C : zCtx G μ d (zn h + zx h, zs h, bc, bs) p (zroom d bc bs) s m (as.map (zrv G)).toArray meth c := ⟨B.exec, B.bytes, hml, B.returns, B.notSynchronized, findClass_of_methodNamed B.named, fun w hw => hts w (List.mem_cons_of_mem _ hw), hKK, fun hi => (name_of_methodNamed B.named B.method).1.trans hi, hdec, rfl⟩
  have hl := lv_entry (as.map (zrv G)) (n := μ.2.2.1) (by rw [zwid_sl]; exact hw)
  rw [lg_entry_eq]
  generalize (lg_sl (as.map (zrv G)) ++ List.replicate (μ.2.2.1 - (lg_sl (as.map (zrv G))).length) Slot.unset).toArray = ls at hl ⊢
  have kk := k p l e (zroom d bc bs) s m (as.map (zrv G)).toArray below meth c C s.heap [] ls hR ⟨hl.1, hl.2.1, fun i v hi hu => by
    have := zent_args G as μ.2.2.1 0 i v hcat hi hu
    rw [Nat.zero_add] at this
    exact hl.2.2 _ this⟩ (Nat.le_refl _) (Nat.le_refl _)
  dsimp only at kk
  rw [Nat.sub_self, Nat.sub_self] at kk
  exact kk
end
section
theorem zt1 : ∀ w ∈ tables_1_1, w ∈ tables_1 := fun w h => List.mem_append_left _ h
theorem zt2 : ∀ w ∈ tables_1_2, w ∈ tables_1 := fun w h => List.mem_append_right _ (List.mem_append_left _ h)
theorem zt3 : ∀ w ∈ tables_1_3, w ∈ tables_1 := fun w h => List.mem_append_right _ (List.mem_append_right _ (List.mem_append_left _ h))
theorem zt4 : ∀ w ∈ tables_1_4, w ∈ tables_1 := fun w h => List.mem_append_right _ (List.mem_append_right _ (List.mem_append_right _ (List.mem_append_left _ h)))
theorem zt5 : ∀ w ∈ tables_1_5, w ∈ tables_1 := fun w h => List.mem_append_right _ (List.mem_append_right _ (List.mem_append_right _ (List.mem_append_right _ (List.mem_append_left _ h))))
theorem zt6 : ∀ w ∈ tables_1_6, w ∈ tables_1 := fun w h => List.mem_append_right _ (List.mem_append_right _ (List.mem_append_right _ (List.mem_append_right _ (List.mem_append_right _ (List.mem_append_left _ h)))))
theorem zt7 : ∀ w ∈ tables_1_7, w ∈ tables_1 := fun w h => List.mem_append_right _ (List.mem_append_right _ (List.mem_append_right _ (List.mem_append_right _ (List.mem_append_right _ (List.mem_append_right _ (List.mem_append_left _ h))))))
theorem zt8 : ∀ w ∈ tables_1_8, w ∈ tables_1 := fun w h => List.mem_append_right _ (List.mem_append_right _ (List.mem_append_right _ (List.mem_append_right _ (List.mem_append_right _ (List.mem_append_right _ (List.mem_append_right _ (h)))))))
set_option maxRecDepth 100000 in
theorem zi0 : ∀ w ∈ u_ws RX0 TX0 9, w ∈ lw_tbl := by decide +kernel
set_option maxRecDepth 100000 in
theorem zj0 : ∀ w ∈ u_ws RX0 TX0 9, goodWord w = true := by decide +kernel
theorem zc0 : zCF 0 RX0 TX0 9 := ⟨rfl, fun w h => ztb_in (zi0 w h) (zj0 w h), tyX0_ok, nmX0, by decide⟩
set_option maxRecDepth 100000 in
theorem zi1 : ∀ w ∈ u_ws RX1 TX1 8, w ∈ lw_tbl := by decide +kernel
set_option maxRecDepth 100000 in
theorem zj1 : ∀ w ∈ u_ws RX1 TX1 8, goodWord w = true := by decide +kernel
theorem zc1 : zCF 1 RX1 TX1 8 := ⟨rfl, fun w h => ztb_in (zi1 w h) (zj1 w h), tyX1_ok, nmX1, by decide⟩
set_option maxRecDepth 100000 in
theorem zi2 : ∀ w ∈ u_ws RX2 TX2 1, w ∈ lw_tbl := by decide +kernel
set_option maxRecDepth 100000 in
theorem zj2 : ∀ w ∈ u_ws RX2 TX2 1, goodWord w = true := by decide +kernel
theorem zc2 : zCF 2 RX2 TX2 1 := ⟨rfl, fun w h => ztb_in (zi2 w h) (zj2 w h), tyX2_ok, nmX2, by decide⟩
set_option maxRecDepth 100000 in
theorem zi3 : ∀ w ∈ u_ws RX3 TX3 9, w ∈ lw_tbl := by decide +kernel
set_option maxRecDepth 100000 in
theorem zj3 : ∀ w ∈ u_ws RX3 TX3 9, goodWord w = true := by decide +kernel
theorem zc3 : zCF 3 RX3 TX3 9 := ⟨rfl, fun w h => ztb_in (zi3 w h) (zj3 w h), tyX3_ok, nmX3, by decide⟩
set_option maxRecDepth 100000 in
theorem zi4 : ∀ w ∈ u_ws RX4 TX4 8, w ∈ lw_tbl := by decide +kernel
set_option maxRecDepth 100000 in
theorem zj4 : ∀ w ∈ u_ws RX4 TX4 8, goodWord w = true := by decide +kernel
theorem zc4 : zCF 4 RX4 TX4 8 := ⟨rfl, fun w h => ztb_in (zi4 w h) (zj4 w h), tyX4_ok, nmX4, by decide⟩
set_option maxRecDepth 100000 in
theorem zi5 : ∀ w ∈ u_ws RX5 TX5 15, w ∈ lw_tbl := by decide +kernel
set_option maxRecDepth 100000 in
theorem zj5 : ∀ w ∈ u_ws RX5 TX5 15, goodWord w = true := by decide +kernel
theorem zc5 : zCF 5 RX5 TX5 15 := ⟨rfl, fun w h => ztb_in (zi5 w h) (zj5 w h), tyX5_ok, nmX5, by decide⟩
set_option maxRecDepth 100000 in
theorem zi6 : ∀ w ∈ u_ws RX7 TX7 13, w ∈ lw_tbl := by decide +kernel
set_option maxRecDepth 100000 in
theorem zj6 : ∀ w ∈ u_ws RX7 TX7 13, goodWord w = true := by decide +kernel
theorem zc6 : zCF 6 RX7 TX7 13 := ⟨rfl, fun w h => ztb_in (zi6 w h) (zj6 w h), tyX7_ok, nmX7, by decide⟩
set_option maxRecDepth 100000 in
theorem zi7 : ∀ w ∈ u_ws RX8 TX8 4, w ∈ lw_tbl := by decide +kernel
set_option maxRecDepth 100000 in
theorem zj7 : ∀ w ∈ u_ws RX8 TX8 4, goodWord w = true := by decide +kernel
theorem zc7 : zCF 7 RX8 TX8 4 := ⟨rfl, fun w h => ztb_in (zi7 w h) (zj7 w h), tyX8_ok, nmX8, by decide⟩
set_option maxRecDepth 100000 in
theorem zi8 : ∀ w ∈ u_ws RX9 TX9 14, w ∈ lw_tbl := by decide +kernel
set_option maxRecDepth 100000 in
theorem zj8 : ∀ w ∈ u_ws RX9 TX9 14, goodWord w = true := by decide +kernel
theorem zc8 : zCF 8 RX9 TX9 14 := ⟨rfl, fun w h => ztb_in (zi8 w h) (zj8 w h), tyX9_ok, nmX9, by decide⟩
set_option maxRecDepth 100000 in
theorem zi9 : ∀ w ∈ u_ws RX10 TX10 68, w ∈ lw_tbl := by decide +kernel
set_option maxRecDepth 100000 in
theorem zj9 : ∀ w ∈ u_ws RX10 TX10 68, goodWord w = true := by decide +kernel
theorem zc9 : zCF 9 RX10 TX10 68 := ⟨rfl, fun w h => ztb_in (zi9 w h) (zj9 w h), tyX10_ok, nmX10, by decide⟩
end
section
def mX0_init : zM := (yX0_init, cX0_init, 1, none, [(0, .aload_n 0, 1), (1, .invokespecial 3, 3), (4, .aload_n 0, 1), (5, .bipush 64, 2), (7, .newarray .int, 2), (9, .putfield 9, 3), (12, .aload_n 0, 1), (13, .bipush 64, 2), (15, .newarray .int, 2), (17, .putfield 15, 3), (20, .aload_n 0, 1), (21, .iconst 3, 1), (22, .newarray .int, 2), (24, .putfield 18, 3), (27, .aload_n 0, 1), (28, .iconst 3, 1), (29, .newarray .int, 2), (31, .putfield 21, 3), (34, .aload_n 0, 1), (35, .iconst 3, 1), (36, .newarray .boolean, 2), (38, .putfield 24, 3), (41, .aload_n 0, 1), (42, .bipush 7, 2), (44, .newarray .long, 2), (46, .putfield 30, 3), (49, .aload_n 0, 1), (50, .bipush 64, 2), (52, .newarray .long, 2), (54, .putfield 34, 3), (57, .return_, 1)])
set_option maxRecDepth 100000 in
theorem eX0_init : zdec mX0_init := by unfold zdec; decide +kernel
theorem fX0_init : zMF mX0_init 0 := ⟨ztb_t (zt1 _ (List.mem_of_getElem? (i := 135) rfl)) rfl, ztb_t (zt1 _ (List.mem_of_getElem? (i := 9) rfl)) rfl, by decide +kernel, by decide⟩
def mX0_clear : zM := (yX0_clear, cX0_clear, 2, none, [(0, .aload_n 0, 1), (1, .iconst 0, 1), (2, .putfield 37, 3), (5, .aload_n 0, 1), (6, .iconst 0, 1), (7, .putfield 41, 3), (10, .iconst 0, 1), (11, .istore_n 1, 1), (12, .iload_n 1, 1), (13, .iconst 3, 1), (14, .if_icmp .ge 16, 3), (17, .aload_n 0, 1), (18, .getfield 24, 3), (21, .iload_n 1, 1), (22, .iconst 0, 1), (23, .bastore, 1), (24, .iinc 1 1, 3), (27, .goto (-15), 3), (30, .return_, 1)])
set_option maxRecDepth 100000 in
theorem eX0_clear : zdec mX0_clear := by unfold zdec; decide +kernel
theorem fX0_clear : zMF mX0_clear 0 := ⟨ztb_t (zt2 _ (List.mem_of_getElem? (i := 235) rfl)) rfl, ztb_t (zt1 _ (List.mem_of_getElem? (i := 9) rfl)) rfl, by decide +kernel, by decide⟩
def mX0_isTold : zM := (yX0_isTold, cX0_isTold, 2, (some FieldType.boolean), [(0, .aload_n 0, 1), (1, .getfield 24, 3), (4, .iload_n 1, 1), (5, .baload, 1), (6, .ireturn, 1)])
set_option maxRecDepth 100000 in
theorem eX0_isTold : zdec mX0_isTold := by unfold zdec; decide +kernel
theorem fX0_isTold : zMF mX0_isTold 1 := ⟨ztb_t (zt3 _ (List.mem_of_getElem? (i := 101) rfl)) rfl, ztb_t (zt1 _ (List.mem_of_getElem? (i := 9) rfl)) rfl, by decide +kernel, by decide⟩
def mX0_begin : zM := (yX0_begin, cX0_begin, 2, none, [(0, .aload_n 0, 1), (1, .getfield 24, 3), (4, .iload_n 1, 1), (5, .iconst 1, 1), (6, .bastore, 1), (7, .aload_n 0, 1), (8, .getfield 18, 3), (11, .iload_n 1, 1), (12, .aload_n 0, 1), (13, .getfield 37, 3), (16, .iastore, 1), (17, .aload_n 0, 1), (18, .getfield 21, 3), (21, .iload_n 1, 1), (22, .aload_n 0, 1), (23, .getfield 37, 3), (26, .iastore, 1), (27, .return_, 1)])
set_option maxRecDepth 100000 in
theorem eX0_begin : zdec mX0_begin := by unfold zdec; decide +kernel
theorem fX0_begin : zMF mX0_begin 1 := ⟨ztb_t (zt3 _ (List.mem_of_getElem? (i := 105) rfl)) rfl, ztb_t (zt1 _ (List.mem_of_getElem? (i := 9) rfl)) rfl, by decide +kernel, by decide⟩
def mX0_end : zM := (yX0_end, cX0_end, 2, none, [(0, .aload_n 0, 1), (1, .getfield 21, 3), (4, .iload_n 1, 1), (5, .aload_n 0, 1), (6, .getfield 37, 3), (9, .iastore, 1), (10, .return_, 1)])
set_option maxRecDepth 100000 in
theorem eX0_end : zdec mX0_end := by unfold zdec; decide +kernel
theorem fX0_end : zMF mX0_end 1 := ⟨ztb_t (zt3 _ (List.mem_of_getElem? (i := 144) rfl)) rfl, ztb_t (zt1 _ (List.mem_of_getElem? (i := 9) rfl)) rfl, by decide +kernel, by decide⟩
def mX0_addKnot : zM := (yX0_addKnot, cX0_addKnot, 1, (some FieldType.boolean), [(0, .aload_n 0, 1), (1, .getfield 41, 3), (4, .bipush 64, 2), (6, .if_icmp .lt 5, 3), (9, .iconst 0, 1), (10, .ireturn, 1), (11, .aload_n 0, 1), (12, .dup, 1), (13, .getfield 41, 3), (16, .iconst 1, 1), (17, .iadd, 1), (18, .putfield 41, 3), (21, .iconst 1, 1), (22, .ireturn, 1)])
set_option maxRecDepth 100000 in
theorem eX0_addKnot : zdec mX0_addKnot := by unfold zdec; decide +kernel
theorem fX0_addKnot : zMF mX0_addKnot 0 := ⟨ztb_t (zt3 _ (List.mem_of_getElem? (i := 136) rfl)) rfl, ztb_t (zt1 _ (List.mem_of_getElem? (i := 9) rfl)) rfl, by decide +kernel, by decide⟩
def mX0_append : zM := (yX0_append, cX0_append, 3, none, [(0, .aload_n 0, 1), (1, .getfield 37, 3), (4, .bipush 64, 2), (6, .if_icmp .ge 33, 3), (9, .aload_n 0, 1), (10, .getfield 9, 3), (13, .aload_n 0, 1), (14, .getfield 37, 3), (17, .iload_n 1, 1), (18, .iastore, 1), (19, .aload_n 0, 1), (20, .getfield 15, 3), (23, .aload_n 0, 1), (24, .getfield 37, 3), (27, .iload_n 2, 1), (28, .iastore, 1), (29, .aload_n 0, 1), (30, .dup, 1), (31, .getfield 37, 3), (34, .iconst 1, 1), (35, .iadd, 1), (36, .putfield 37, 3), (39, .return_, 1)])
set_option maxRecDepth 100000 in
theorem eX0_append : zdec mX0_append := by unfold zdec; decide +kernel
theorem fX0_append : zMF mX0_append 2 := ⟨ztb_t (zt3 _ (List.mem_of_getElem? (i := 121) rfl)) rfl, ztb_t (zt1 _ (List.mem_of_getElem? (i := 9) rfl)) rfl, by decide +kernel, by decide⟩
def mX0_setNames : zM := (yX0_setNames, cX0_setNames, 8, none, [(0, .aload_n 0, 1), (1, .getfield 30, 3), (4, .iconst 0, 1), (5, .iload_n 1, 1), (6, .i2l, 1), (7, .lastore, 1), (8, .aload_n 0, 1), (9, .getfield 30, 3), (12, .iconst 1, 1), (13, .iload_n 2, 1), (14, .i2l, 1), (15, .lastore, 1), (16, .aload_n 0, 1), (17, .getfield 30, 3), (20, .iconst 2, 1), (21, .iload_n 3, 1), (22, .i2l, 1), (23, .lastore, 1), (24, .aload_n 0, 1), (25, .getfield 30, 3), (28, .iconst 3, 1), (29, .iload 4, 2), (31, .i2l, 1), (32, .lastore, 1), (33, .aload_n 0, 1), (34, .getfield 30, 3), (37, .iconst 4, 1), (38, .iload 5, 2), (40, .i2l, 1), (41, .lastore, 1), (42, .aload_n 0, 1), (43, .getfield 30, 3), (46, .iconst 5, 1), (47, .iload 6, 2), (49, .i2l, 1), (50, .lastore, 1), (51, .aload_n 0, 1), (52, .getfield 30, 3), (55, .bipush 6, 2), (57, .iload 7, 2), (59, .i2l, 1), (60, .lastore, 1), (61, .return_, 1)])
set_option maxRecDepth 100000 in
theorem eX0_setNames : zdec mX0_setNames := by unfold zdec; decide +kernel
theorem fX0_setNames : zMF mX0_setNames 7 := ⟨ztb_t (zt3 _ (List.mem_of_getElem? (i := 185) rfl)) rfl, ztb_t (zt1 _ (List.mem_of_getElem? (i := 9) rfl)) rfl, by decide +kernel, by decide⟩
def mX0_workOut : zM := (yX0_workOut, cX0_workOut, 11, (some FieldType.long), [(0, .aload_n 0, 1), (1, .getfield 24, 3), (4, .iload_n 1, 1), (5, .baload, 1), (6, .ifCond .ne 7, 3), (9, .ldc2_w 44, 3), (12, .lreturn, 1), (13, .iconst 0, 1), (14, .istore_n 2, 1), (15, .aload_n 0, 1), (16, .getfield 18, 3), (19, .iload_n 1, 1), (20, .iaload, 1), (21, .istore_n 3, 1), (22, .iload_n 3, 1), (23, .aload_n 0, 1), (24, .getfield 21, 3), (27, .iload_n 1, 1), (28, .iaload, 1), (29, .if_icmp .ge 206, 3), (32, .aload_n 0, 1), (33, .getfield 9, 3), (36, .iload_n 3, 1), (37, .iaload, 1), (38, .istore 4, 2), (40, .iload 4, 2), (42, .bipush 36, 2), (44, .if_icmp .ne 22, 3), (47, .aload_n 0, 1), (48, .getfield 34, 3), (51, .iload_n 2, 1), (52, .aload_n 0, 1), (53, .getfield 15, 3), (56, .iload_n 3, 1), (57, .iaload, 1), (58, .i2l, 1), (59, .lastore, 1), (60, .iinc 2 1, 3), (63, .goto 166, 3), (66, .iload 4, 2), (68, .bipush 15, 2), (70, .if_icmp .lt 32, 3), (73, .iload 4, 2), (75, .bipush 21, 2), (77, .if_icmp .gt 25, 3), (80, .aload_n 0, 1), (81, .getfield 34, 3), (84, .iload_n 2, 1), (85, .aload_n 0, 1), (86, .getfield 30, 3), (89, .iload 4, 2), (91, .bipush 15, 2), (93, .isub, 1), (94, .laload, 1), (95, .lastore, 1), (96, .iinc 2 1, 3), (99, .goto 130, 3), (102, .iload 4, 2), (104, .bipush 14, 2), (106, .if_icmp .ne 37, 3), (109, .iload_n 2, 1), (110, .iconst 1, 1), (111, .if_icmp .lt 32, 3), (114, .aload_n 0, 1), (115, .getfield 34, 3), (118, .iload_n 2, 1), (119, .iconst 1, 1), (120, .isub, 1), (121, .aload_n 0, 1), (122, .getfield 34, 3), (125, .iload_n 2, 1), (126, .iconst 1, 1), (127, .isub, 1), (128, .laload, 1), (129, .lconst 0, 1), (130, .lcmp, 1), (131, .ifCond .ne 7, 3), (134, .lconst 1, 1), (135, .goto 4, 3), (138, .lconst 0, 1), (139, .lastore, 1), (140, .goto 89, 3), (143, .iload_n 2, 1), (144, .iconst 2, 1), (145, .if_icmp .lt 84, 3), (148, .iinc 2 (-1), 3), (151, .aload_n 0, 1), (152, .getfield 34, 3), (155, .iload_n 2, 1), (156, .iconst 1, 1), (157, .isub, 1), (158, .laload, 1), (159, .lstore 5, 2), (161, .aload_n 0, 1), (162, .getfield 34, 3), (165, .iload_n 2, 1), (166, .laload, 1), (167, .lstore 7, 2), (169, .iload 4, 2), (171, .bipush 30, 2), (173, .if_icmp .ne 13, 3), (176, .lload 5, 2), (178, .lload 7, 2), (180, .invokestatic 46, 3), (183, .goto 12, 3), (186, .iload 4, 2), (188, .lload 5, 2), (190, .lload 7, 2), (192, .invokestatic 50, 3), (195, .lstore 9, 2), (197, .lload 9, 2), (199, .ldc2_w 54, 3), (202, .lcmp, 1), (203, .ifCond .gt 12, 3), (206, .lload 9, 2), (208, .ldc2_w 56, 3), (211, .lcmp, 1), (212, .ifCond .ge 7, 3), (215, .ldc2_w 44, 3), (218, .lreturn, 1), (219, .aload_n 0, 1), (220, .getfield 34, 3), (223, .iload_n 2, 1), (224, .iconst 1, 1), (225, .isub, 1), (226, .lload 9, 2), (228, .lastore, 1), (229, .iinc 3 1, 3), (232, .goto (-210), 3), (235, .iload_n 2, 1), (236, .iconst 1, 1), (237, .if_icmp .ne 12, 3), (240, .aload_n 0, 1), (241, .getfield 34, 3), (244, .iconst 0, 1), (245, .laload, 1), (246, .goto 6, 3), (249, .ldc2_w 44, 3), (252, .lreturn, 1)])
set_option maxRecDepth 100000 in
theorem eX0_workOut : zdec mX0_workOut := by unfold zdec; decide +kernel
theorem fX0_workOut : zMF mX0_workOut 1 := ⟨ztb_t (zt3 _ (List.mem_of_getElem? (i := 189) rfl)) rfl, ztb_t (zt1 _ (List.mem_of_getElem? (i := 9) rfl)) rfl, by decide +kernel, by decide⟩
def mX0_joined : zM := (yX0_joined, cX0_joined, 5, (some FieldType.long), [(0, .iload_n 0, 1), (1, .tableswitch 227 12 31 #[95, 113, 227, 227, 227, 227, 227, 227, 227, 227, 131, 143, 155, 167, 179, 191, 203, 207, 227, 211], 95), (96, .lload_n 1, 1), (97, .lconst 0, 1), (98, .lcmp, 1), (99, .ifCond .ne 9, 3), (102, .lload_n 3, 1), (103, .lconst 0, 1), (104, .lcmp, 1), (105, .ifCond .eq 7, 3), (108, .lconst 1, 1), (109, .goto 4, 3), (112, .lconst 0, 1), (113, .lreturn, 1), (114, .lload_n 1, 1), (115, .lconst 0, 1), (116, .lcmp, 1), (117, .ifCond .eq 13, 3), (120, .lload_n 3, 1), (121, .lconst 0, 1), (122, .lcmp, 1), (123, .ifCond .eq 7, 3), (126, .lconst 1, 1), (127, .goto 4, 3), (130, .lconst 0, 1), (131, .lreturn, 1), (132, .lload_n 1, 1), (133, .lload_n 3, 1), (134, .lcmp, 1), (135, .ifCond .ge 7, 3), (138, .lconst 1, 1), (139, .goto 4, 3), (142, .lconst 0, 1), (143, .lreturn, 1), (144, .lload_n 1, 1), (145, .lload_n 3, 1), (146, .lcmp, 1), (147, .ifCond .gt 7, 3), (150, .lconst 1, 1), (151, .goto 4, 3), (154, .lconst 0, 1), (155, .lreturn, 1), (156, .lload_n 1, 1), (157, .lload_n 3, 1), (158, .lcmp, 1), (159, .ifCond .ne 7, 3), (162, .lconst 1, 1), (163, .goto 4, 3), (166, .lconst 0, 1), (167, .lreturn, 1), (168, .lload_n 1, 1), (169, .lload_n 3, 1), (170, .lcmp, 1), (171, .ifCond .eq 7, 3), (174, .lconst 1, 1), (175, .goto 4, 3), (178, .lconst 0, 1), (179, .lreturn, 1), (180, .lload_n 1, 1), (181, .lload_n 3, 1), (182, .lcmp, 1), (183, .ifCond .lt 7, 3), (186, .lconst 1, 1), (187, .goto 4, 3), (190, .lconst 0, 1), (191, .lreturn, 1), (192, .lload_n 1, 1), (193, .lload_n 3, 1), (194, .lcmp, 1), (195, .ifCond .le 7, 3), (198, .lconst 1, 1), (199, .goto 4, 3), (202, .lconst 0, 1), (203, .lreturn, 1), (204, .lload_n 1, 1), (205, .lload_n 3, 1), (206, .ladd, 1), (207, .lreturn, 1), (208, .lload_n 1, 1), (209, .lload_n 3, 1), (210, .lsub, 1), (211, .lreturn, 1), (212, .lload_n 3, 1), (213, .lconst 0, 1), (214, .lcmp, 1), (215, .ifCond .ne 9, 3), (218, .ldc2_w 44, 3), (221, .goto 6, 3), (224, .lload_n 1, 1), (225, .lload_n 3, 1), (226, .ldiv, 1), (227, .lreturn, 1), (228, .ldc2_w 44, 3), (231, .lreturn, 1)])
set_option maxRecDepth 100000 in
theorem eX0_joined : zdec mX0_joined := by unfold zdec; decide +kernel
theorem fX0_joined : zMF mX0_joined 3 := ⟨ztb_t (zt3 _ (List.mem_of_getElem? (i := 197) rfl)) rfl, ztb_t (zt1 _ (List.mem_of_getElem? (i := 9) rfl)) rfl, by decide +kernel, by decide⟩
def mX0_multiplied : zM := (yX0_multiplied, cX0_multiplied, 6, (some FieldType.long), [(0, .lload_n 2, 1), (1, .lconst 0, 1), (2, .lcmp, 1), (3, .ifCond .ge 8, 3), (6, .lload_n 2, 1), (7, .lneg, 1), (8, .goto 4, 3), (11, .lload_n 2, 1), (12, .lstore 4, 2), (14, .lload 4, 2), (16, .lconst 0, 1), (17, .lcmp, 1), (18, .ifCond .le 30, 3), (21, .lload_n 0, 1), (22, .ldc2_w 54, 3), (25, .lload 4, 2), (27, .ldiv, 1), (28, .lcmp, 1), (29, .ifCond .gt 15, 3), (32, .lload_n 0, 1), (33, .ldc2_w 54, 3), (36, .lload 4, 2), (38, .ldiv, 1), (39, .lneg, 1), (40, .lcmp, 1), (41, .ifCond .ge 7, 3), (44, .ldc2_w 44, 3), (47, .lreturn, 1), (48, .lload_n 0, 1), (49, .lload_n 2, 1), (50, .lmul, 1), (51, .lreturn, 1)])
set_option maxRecDepth 100000 in
theorem eX0_multiplied : zdec mX0_multiplied := by unfold zdec; decide +kernel
theorem fX0_multiplied : zMF mX0_multiplied 2 := ⟨ztb_t (zt3 _ (List.mem_of_getElem? (i := 193) rfl)) rfl, ztb_t (zt1 _ (List.mem_of_getElem? (i := 9) rfl)) rfl, by decide +kernel, by decide⟩
def mX1_init : zM := (yX1_init, cX1_init, 1, none, [(0, .aload_n 0, 1), (1, .invokespecial 3, 3), (4, .aload_n 0, 1), (5, .bipush 24, 2), (7, .newarray .int, 2), (9, .putfield 9, 3), (12, .aload_n 0, 1), (13, .bipush 24, 2), (15, .newarray .int, 2), (17, .putfield 15, 3), (20, .aload_n 0, 1), (21, .bipush 24, 2), (23, .newarray .int, 2), (25, .putfield 18, 3), (28, .aload_n 0, 1), (29, .bipush 24, 2), (31, .newarray .boolean, 2), (33, .putfield 21, 3), (36, .aload_n 0, 1), (37, .bipush 24, 2), (39, .newarray .int, 2), (41, .putfield 25, 3), (44, .aload_n 0, 1), (45, .bipush 24, 2), (47, .newarray .boolean, 2), (49, .putfield 28, 3), (52, .aload_n 0, 1), (53, .iconst (-1), 1), (54, .putfield 31, 3), (57, .return_, 1)])
set_option maxRecDepth 100000 in
theorem eX1_init : zdec mX1_init := by unfold zdec; decide +kernel
theorem fX1_init : zMF mX1_init 0 := ⟨ztb_t (zt2 _ (List.mem_of_getElem? (i := 30) rfl)) rfl, ztb_t (zt1 _ (List.mem_of_getElem? (i := 10) rfl)) rfl, by decide +kernel, by decide⟩
def mX1_clear : zM := (yX1_clear, cX1_clear, 1, none, [(0, .aload_n 0, 1), (1, .iconst 0, 1), (2, .putfield 35, 3), (5, .aload_n 0, 1), (6, .iconst (-1), 1), (7, .putfield 31, 3), (10, .return_, 1)])
set_option maxRecDepth 100000 in
theorem eX1_clear : zdec mX1_clear := by unfold zdec; decide +kernel
theorem fX1_clear : zMF mX1_clear 0 := ⟨ztb_t (zt3 _ (List.mem_of_getElem? (i := 152) rfl)) rfl, ztb_t (zt1 _ (List.mem_of_getElem? (i := 10) rfl)) rfl, by decide +kernel, by decide⟩
def mX1_add : zM := (yX1_add, cX1_add, 5, (some FieldType.int), [(0, .aload_n 0, 1), (1, .getfield 35, 3), (4, .bipush 24, 2), (6, .if_icmp .lt 5, 3), (9, .iconst (-1), 1), (10, .ireturn, 1), (11, .aload_n 0, 1), (12, .getfield 9, 3), (15, .aload_n 0, 1), (16, .getfield 35, 3), (19, .iload_n 1, 1), (20, .iastore, 1), (21, .aload_n 0, 1), (22, .getfield 15, 3), (25, .aload_n 0, 1), (26, .getfield 35, 3), (29, .iload_n 2, 1), (30, .iastore, 1), (31, .aload_n 0, 1), (32, .getfield 18, 3), (35, .aload_n 0, 1), (36, .getfield 35, 3), (39, .iload_n 3, 1), (40, .iastore, 1), (41, .aload_n 0, 1), (42, .getfield 21, 3), (45, .aload_n 0, 1), (46, .getfield 35, 3), (49, .iload 4, 2), (51, .bastore, 1), (52, .aload_n 0, 1), (53, .getfield 25, 3), (56, .aload_n 0, 1), (57, .getfield 35, 3), (60, .iconst (-1), 1), (61, .iastore, 1), (62, .aload_n 0, 1), (63, .dup, 1), (64, .getfield 35, 3), (67, .iconst 1, 1), (68, .iadd, 1), (69, .putfield 35, 3), (72, .aload_n 0, 1), (73, .getfield 35, 3), (76, .iconst 1, 1), (77, .isub, 1), (78, .ireturn, 1)])
set_option maxRecDepth 100000 in
theorem eX1_add : zdec mX1_add := by unfold zdec; decide +kernel
theorem fX1_add : zMF mX1_add 4 := ⟨ztb_t (zt4 _ (List.mem_of_getElem? (i := 185) rfl)) rfl, ztb_t (zt1 _ (List.mem_of_getElem? (i := 10) rfl)) rfl, by decide +kernel, by decide⟩
def mX1_strike : zM := (yX1_strike, cX1_strike, 2, (some FieldType.int), [(0, .iload_n 1, 1), (1, .ifCond .lt 20, 3), (4, .iload_n 1, 1), (5, .aload_n 0, 1), (6, .getfield 35, 3), (9, .if_icmp .ge 12, 3), (12, .aload_n 0, 1), (13, .getfield 35, 3), (16, .bipush 24, 2), (18, .if_icmp .lt 5, 3), (21, .iconst (-1), 1), (22, .ireturn, 1), (23, .aload_n 0, 1), (24, .getfield 25, 3), (27, .aload_n 0, 1), (28, .getfield 35, 3), (31, .iload_n 1, 1), (32, .iastore, 1), (33, .aload_n 0, 1), (34, .dup, 1), (35, .getfield 35, 3), (38, .iconst 1, 1), (39, .iadd, 1), (40, .putfield 35, 3), (43, .aload_n 0, 1), (44, .getfield 35, 3), (47, .iconst 1, 1), (48, .isub, 1), (49, .ireturn, 1)])
set_option maxRecDepth 100000 in
theorem eX1_strike : zdec mX1_strike := by unfold zdec; decide +kernel
theorem fX1_strike : zMF mX1_strike 1 := ⟨ztb_t (zt4 _ (List.mem_of_getElem? (i := 193) rfl)) rfl, ztb_t (zt1 _ (List.mem_of_getElem? (i := 10) rfl)) rfl, by decide +kernel, by decide⟩
def mX1_considered : zM := (yX1_considered, cX1_considered, 1, (some FieldType.int), [(0, .aload_n 0, 1), (1, .getfield 31, 3), (4, .iconst (-1), 1), (5, .if_icmp .ne 10, 3), (8, .aload_n 0, 1), (9, .getfield 35, 3), (12, .goto 7, 3), (15, .aload_n 0, 1), (16, .getfield 31, 3), (19, .ireturn, 1)])
set_option maxRecDepth 100000 in
theorem eX1_considered : zdec mX1_considered := by unfold zdec; decide +kernel
theorem fX1_considered : zMF mX1_considered 0 := ⟨ztb_t (zt4 _ (List.mem_of_getElem? (i := 209) rfl)) rfl, ztb_t (zt1 _ (List.mem_of_getElem? (i := 10) rfl)) rfl, by decide +kernel, by decide⟩
def mX1_weigh : zM := (yX1_weigh, cX1_weigh, 2, none, [(0, .iconst 0, 1), (1, .istore_n 1, 1), (2, .iload_n 1, 1), (3, .bipush 24, 2), (5, .if_icmp .ge 16, 3), (8, .aload_n 0, 1), (9, .getfield 28, 3), (12, .iload_n 1, 1), (13, .iconst 0, 1), (14, .bastore, 1), (15, .iinc 1 1, 3), (18, .goto (-16), 3), (21, .aload_n 0, 1), (22, .invokevirtual 38, 3), (25, .iconst 1, 1), (26, .isub, 1), (27, .istore_n 1, 1), (28, .iload_n 1, 1), (29, .ifCond .lt 40, 3), (32, .aload_n 0, 1), (33, .getfield 28, 3), (36, .iload_n 1, 1), (37, .baload, 1), (38, .ifCond .ne 25, 3), (41, .aload_n 0, 1), (42, .getfield 25, 3), (45, .iload_n 1, 1), (46, .iaload, 1), (47, .iconst (-1), 1), (48, .if_icmp .eq 15, 3), (51, .aload_n 0, 1), (52, .getfield 28, 3), (55, .aload_n 0, 1), (56, .getfield 25, 3), (59, .iload_n 1, 1), (60, .iaload, 1), (61, .iconst 1, 1), (62, .bastore, 1), (63, .iinc 1 (-1), 3), (66, .goto (-38), 3), (69, .return_, 1)])
set_option maxRecDepth 100000 in
theorem eX1_weigh : zdec mX1_weigh := by unfold zdec; decide +kernel
theorem fX1_weigh : zMF mX1_weigh 0 := ⟨ztb_t (zt4 _ (List.mem_of_getElem? (i := 205) rfl)) rfl, ztb_t (zt1 _ (List.mem_of_getElem? (i := 10) rfl)) rfl, by decide +kernel, by decide⟩
def mX1_counts : zM := (yX1_counts, cX1_counts, 2, (some FieldType.boolean), [(0, .aload_n 0, 1), (1, .getfield 28, 3), (4, .iload_n 1, 1), (5, .baload, 1), (6, .ifCond .ne 17, 3), (9, .aload_n 0, 1), (10, .getfield 25, 3), (13, .iload_n 1, 1), (14, .iaload, 1), (15, .iconst (-1), 1), (16, .if_icmp .ne 7, 3), (19, .iconst 1, 1), (20, .goto 4, 3), (23, .iconst 0, 1), (24, .ireturn, 1)])
set_option maxRecDepth 100000 in
theorem eX1_counts : zdec mX1_counts := by unfold zdec; decide +kernel
theorem fX1_counts : zMF mX1_counts 1 := ⟨ztb_t (zt4 _ (List.mem_of_getElem? (i := 221) rfl)) rfl, ztb_t (zt1 _ (List.mem_of_getElem? (i := 10) rfl)) rfl, by decide +kernel, by decide⟩
def mX1_lastMorning : zM := (yX1_lastMorning, cX1_lastMorning, 3, (some FieldType.int), [(0, .iconst 0, 1), (1, .istore_n 1, 1), (2, .iconst 0, 1), (3, .istore_n 2, 1), (4, .iload_n 2, 1), (5, .aload_n 0, 1), (6, .invokevirtual 38, 3), (9, .if_icmp .ge 28, 3), (12, .aload_n 0, 1), (13, .iload_n 2, 1), (14, .invokevirtual 42, 3), (17, .ifCond .eq 14, 3), (20, .iload_n 1, 1), (21, .aload_n 0, 1), (22, .getfield 9, 3), (25, .iload_n 2, 1), (26, .iaload, 1), (27, .invokestatic 46, 3), (30, .istore_n 1, 1), (31, .iinc 2 1, 3), (34, .goto (-30), 3), (37, .iload_n 1, 1), (38, .ireturn, 1)])
set_option maxRecDepth 100000 in
theorem eX1_lastMorning : zdec mX1_lastMorning := by unfold zdec; decide +kernel
theorem fX1_lastMorning : zMF mX1_lastMorning 0 := ⟨ztb_t (zt4 _ (List.mem_of_getElem? (i := 217) rfl)) rfl, ztb_t (zt1 _ (List.mem_of_getElem? (i := 10) rfl)) rfl, by decide +kernel, by decide⟩
def mX1_allow : zM := (yX1_allow, cX1_allow, 4, (some FieldType.boolean), [(0, .iconst 0, 1), (1, .istore_n 3, 1), (2, .iload_n 3, 1), (3, .aload_n 0, 1), (4, .invokevirtual 38, 3), (7, .if_icmp .ge 60, 3), (10, .aload_n 0, 1), (11, .iload_n 3, 1), (12, .invokevirtual 42, 3), (15, .ifCond .eq 46, 3), (18, .aload_n 0, 1), (19, .getfield 9, 3), (22, .iload_n 3, 1), (23, .iaload, 1), (24, .iload_n 1, 1), (25, .if_icmp .ne 36, 3), (28, .aload_n 2, 1), (29, .aload_n 0, 1), (30, .getfield 15, 3), (33, .iload_n 3, 1), (34, .iaload, 1), (35, .iaload, 1), (36, .aload_n 0, 1), (37, .getfield 18, 3), (40, .iload_n 3, 1), (41, .iaload, 1), (42, .if_icmp .ne 7, 3), (45, .iconst 1, 1), (46, .goto 4, 3), (49, .iconst 0, 1), (50, .aload_n 0, 1), (51, .getfield 21, 3), (54, .iload_n 3, 1), (55, .baload, 1), (56, .if_icmp .eq 5, 3), (59, .iconst 0, 1), (60, .ireturn, 1), (61, .iinc 3 1, 3), (64, .goto (-62), 3), (67, .iconst 1, 1), (68, .ireturn, 1)])
set_option maxRecDepth 100000 in
theorem eX1_allow : zdec mX1_allow := by unfold zdec; decide +kernel
theorem fX1_allow : zMF mX1_allow 2 := ⟨ztb_t (zt4 _ (List.mem_of_getElem? (i := 226) rfl)) rfl, ztb_t (zt1 _ (List.mem_of_getElem? (i := 10) rfl)) rfl, by decide +kernel, by decide⟩
def mX2_init : zM := (yX2_init, cX2_init, 1, none, [(0, .aload_n 0, 1), (1, .invokespecial 1, 3), (4, .return_, 1)])
set_option maxRecDepth 100000 in
theorem eX2_init : zdec mX2_init := by unfold zdec; decide +kernel
theorem fX2_init : zMF mX2_init 0 := ⟨ztb_t (zt2 _ (List.mem_of_getElem? (i := 153) rfl)) rfl, ztb_t (zt1 _ (List.mem_of_getElem? (i := 13) rfl)) rfl, by decide +kernel, by decide⟩
def mX2_begin : zM := (yX2_begin, cX2_begin, 2, none, [(0, .aload_n 0, 1), (1, .iload_n 1, 1), (2, .i2l, 1), (3, .putfield 7, 3), (6, .return_, 1)])
set_option maxRecDepth 100000 in
theorem eX2_begin : zdec mX2_begin := by unfold zdec; decide +kernel
theorem fX2_begin : zMF mX2_begin 1 := ⟨ztb_t (zt4 _ (List.mem_of_getElem? (i := 234) rfl)) rfl, ztb_t (zt1 _ (List.mem_of_getElem? (i := 13) rfl)) rfl, by decide +kernel, by decide⟩
def mX2_draw : zM := (yX2_draw, cX2_draw, 1, (some FieldType.int), [(0, .aload_n 0, 1), (1, .aload_n 0, 1), (2, .getfield 7, 3), (5, .ldc2_w 13, 3), (8, .lmul, 1), (9, .ldc2_w 15, 3), (12, .ladd, 1), (13, .ldc2_w 17, 3), (16, .land, 1), (17, .putfield 7, 3), (20, .aload_n 0, 1), (21, .getfield 7, 3), (24, .ldc2_w 19, 3), (27, .ldiv, 1), (28, .l2i, 1), (29, .ireturn, 1)])
set_option maxRecDepth 100000 in
theorem eX2_draw : zdec mX2_draw := by unfold zdec; decide +kernel
theorem fX2_draw : zMF mX2_draw 0 := ⟨ztb_t (zt5 _ (List.mem_of_getElem? (i := 2) rfl)) rfl, ztb_t (zt1 _ (List.mem_of_getElem? (i := 13) rfl)) rfl, by decide +kernel, by decide⟩
def mX3_init : zM := (yX3_init, cX3_init, 1, none, [(0, .aload_n 0, 1), (1, .invokespecial 3, 3), (4, .aload_n 0, 1), (5, .new 9, 3), (8, .dup, 1), (9, .invokespecial 11, 3), (12, .putfield 12, 3), (15, .aload_n 0, 1), (16, .bipush 72, 2), (18, .newarray .int, 2), (20, .putfield 18, 3), (23, .aload_n 0, 1), (24, .bipush 72, 2), (26, .newarray .int, 2), (28, .putfield 22, 3), (31, .aload_n 0, 1), (32, .new 25, 3), (35, .dup, 1), (36, .invokespecial 27, 3), (39, .putfield 28, 3), (42, .aload_n 0, 1), (43, .iconst (-1), 1), (44, .putfield 32, 3), (47, .return_, 1)])
set_option maxRecDepth 100000 in
theorem eX3_init : zdec mX3_init := by unfold zdec; decide +kernel
theorem fX3_init : zMF mX3_init 0 := ⟨ztb_t (zt1 _ (List.mem_of_getElem? (i := 35) rfl)) rfl, ztb_t (zt1 _ (List.mem_of_getElem? (i := 2) rfl)) rfl, by decide +kernel, by decide⟩
def mX3_open : zM := (yX3_open, cX3_open, 3, none, [(0, .aload_n 0, 1), (1, .getfield 28, 3), (4, .invokevirtual 36, 3), (7, .aload_n 0, 1), (8, .iconst 0, 1), (9, .putfield 39, 3), (12, .aload_n 0, 1), (13, .iconst (-1), 1), (14, .putfield 32, 3), (17, .aload_n 0, 1), (18, .getfield 12, 3), (21, .aload_n 1, 1), (22, .iload_n 2, 1), (23, .invokevirtual 42, 3), (26, .return_, 1)])
set_option maxRecDepth 100000 in
theorem eX3_open : zdec mX3_open := by unfold zdec; decide +kernel
theorem fX3_open : zMF mX3_open 2 := ⟨ztb_t (zt2 _ (List.mem_of_getElem? (i := 227) rfl)) rfl, ztb_t (zt1 _ (List.mem_of_getElem? (i := 2) rfl)) rfl, by decide +kernel, by decide⟩
def mX3_exchange : zM := (yX3_exchange, cX3_exchange, 3, (some (FieldType.object "SmellAbbey$Told")), [(0, .aload_n 0, 1), (1, .getfield 28, 3), (4, .astore_n 2, 1), (5, .aload_n 0, 1), (6, .aload_n 1, 1), (7, .putfield 28, 3), (10, .aload_n 2, 1), (11, .areturn, 1)])
set_option maxRecDepth 100000 in
theorem eX3_exchange : zdec mX3_exchange := by unfold zdec; decide +kernel
theorem fX3_exchange : zMF mX3_exchange 1 := ⟨ztb_t (zt3 _ (List.mem_of_getElem? (i := 148) rfl)) rfl, ztb_t (zt1 _ (List.mem_of_getElem? (i := 2) rfl)) rfl, by decide +kernel, by decide⟩
def mX3_hasMore : zM := (yX3_hasMore, cX3_hasMore, 1, (some FieldType.boolean), [(0, .aload_n 0, 1), (1, .getfield 12, 3), (4, .getfield 46, 3), (7, .bipush 37, 2), (9, .if_icmp .eq 7, 3), (12, .iconst 1, 1), (13, .goto 4, 3), (16, .iconst 0, 1), (17, .ireturn, 1)])
set_option maxRecDepth 100000 in
theorem eX3_hasMore : zdec mX3_hasMore := by unfold zdec; decide +kernel
theorem fX3_hasMore : zMF mX3_hasMore 0 := ⟨ztb_t (zt3 _ (List.mem_of_getElem? (i := 33) rfl)) rfl, ztb_t (zt1 _ (List.mem_of_getElem? (i := 2) rfl)) rfl, by decide +kernel, by decide⟩
def mX3_wrong : zM := (yX3_wrong, cX3_wrong, 2, (some FieldType.int), [(0, .aload_n 0, 1), (1, .iload_n 1, 1), (2, .putfield 39, 3), (5, .aload_n 0, 1), (6, .aload_n 0, 1), (7, .getfield 12, 3), (10, .getfield 51, 3), (13, .putfield 32, 3), (16, .iconst (-1), 1), (17, .ireturn, 1)])
set_option maxRecDepth 100000 in
theorem eX3_wrong : zdec mX3_wrong := by unfold zdec; decide +kernel
theorem fX3_wrong : zMF mX3_wrong 1 := ⟨ztb_t (zt3 _ (List.mem_of_getElem? (i := 51) rfl)) rfl, ztb_t (zt1 _ (List.mem_of_getElem? (i := 2) rfl)) rfl, by decide +kernel, by decide⟩
def mX3_readLine : zM := (yX3_readLine, cX3_readLine, 1, (some FieldType.int), [(0, .aload_n 0, 1), (1, .getfield 12, 3), (4, .getfield 46, 3), (7, .tableswitch 85 0 7 #[45, 50, 55, 60, 65, 70, 75, 80], 45), (52, .aload_n 0, 1), (53, .invokevirtual 54, 3), (56, .ireturn, 1), (57, .aload_n 0, 1), (58, .invokevirtual 58, 3), (61, .ireturn, 1), (62, .aload_n 0, 1), (63, .invokevirtual 61, 3), (66, .ireturn, 1), (67, .aload_n 0, 1), (68, .invokevirtual 64, 3), (71, .ireturn, 1), (72, .aload_n 0, 1), (73, .invokevirtual 67, 3), (76, .ireturn, 1), (77, .aload_n 0, 1), (78, .invokevirtual 70, 3), (81, .ireturn, 1), (82, .aload_n 0, 1), (83, .invokevirtual 73, 3), (86, .ireturn, 1), (87, .aload_n 0, 1), (88, .invokevirtual 76, 3), (91, .ireturn, 1), (92, .aload_n 0, 1), (93, .iconst 1, 1), (94, .invokevirtual 79, 3), (97, .ireturn, 1)])
set_option maxRecDepth 100000 in
theorem eX3_readLine : zdec mX3_readLine := by unfold zdec; decide +kernel
theorem fX3_readLine : zMF mX3_readLine 0 := ⟨ztb_t (zt3 _ (List.mem_of_getElem? (i := 37) rfl)) rfl, ztb_t (zt1 _ (List.mem_of_getElem? (i := 2) rfl)) rfl, by decide +kernel, by decide⟩
def mX3_stuffLine : zM := (yX3_stuffLine, cX3_stuffLine, 3, (some FieldType.int), [(0, .aload_n 0, 1), (1, .iconst 0, 1), (2, .invokevirtual 83, 3), (5, .istore_n 1, 1), (6, .iload_n 1, 1), (7, .iconst (-1), 1), (8, .if_icmp .ne 7, 3), (11, .iconst (-1), 1), (12, .goto 11, 3), (15, .aload_n 0, 1), (16, .iconst 0, 1), (17, .sipush 999, 3), (20, .invokevirtual 86, 3), (23, .istore_n 2, 1), (24, .iload_n 2, 1), (25, .iconst (-1), 1), (26, .if_icmp .ne 5, 3), (29, .iconst (-1), 1), (30, .ireturn, 1), (31, .aload_n 0, 1), (32, .getfield 28, 3), (35, .getfield 90, 3), (38, .iload_n 1, 1), (39, .iload_n 2, 1), (40, .iastore, 1), (41, .aload_n 0, 1), (42, .invokevirtual 93, 3), (45, .ireturn, 1)])
set_option maxRecDepth 100000 in
theorem eX3_stuffLine : zdec mX3_stuffLine := by unfold zdec; decide +kernel
theorem fX3_stuffLine : zMF mX3_stuffLine 0 := ⟨ztb_t (zt3 _ (List.mem_of_getElem? (i := 41) rfl)) rfl, ztb_t (zt1 _ (List.mem_of_getElem? (i := 2) rfl)) rfl, by decide +kernel, by decide⟩
def mX3_dayLine : zM := (yX3_dayLine, cX3_dayLine, 2, (some FieldType.int), [(0, .aload_n 0, 1), (1, .iconst 1, 1), (2, .invokevirtual 83, 3), (5, .istore_n 1, 1), (6, .iload_n 1, 1), (7, .iconst (-1), 1), (8, .if_icmp .ne 5, 3), (11, .iconst (-1), 1), (12, .ireturn, 1), (13, .aload_n 0, 1), (14, .getfield 12, 3), (17, .getfield 46, 3), (20, .bipush 8, 2), (22, .if_icmp .ne 20, 3), (25, .aload_n 0, 1), (26, .getfield 28, 3), (29, .getfield 96, 3), (32, .iload_n 1, 1), (33, .iconst 1, 1), (34, .bastore, 1), (35, .aload_n 0, 1), (36, .getfield 12, 3), (39, .invokevirtual 100, 3), (42, .aload_n 0, 1), (43, .invokevirtual 93, 3), (46, .ireturn, 1)])
set_option maxRecDepth 100000 in
theorem eX3_dayLine : zdec mX3_dayLine := by unfold zdec; decide +kernel
theorem fX3_dayLine : zMF mX3_dayLine 0 := ⟨ztb_t (zt3 _ (List.mem_of_getElem? (i := 68) rfl)) rfl, ztb_t (zt1 _ (List.mem_of_getElem? (i := 2) rfl)) rfl, by decide +kernel, by decide⟩
def mX3_mixLine : zM := (yX3_mixLine, cX3_mixLine, 4, (some FieldType.int), [(0, .aload_n 0, 1), (1, .getfield 28, 3), (4, .getfield 103, 3), (7, .bipush 24, 2), (9, .if_icmp .lt 9, 3), (12, .aload_n 0, 1), (13, .iconst 2, 1), (14, .invokevirtual 79, 3), (17, .ireturn, 1), (18, .aload_n 0, 1), (19, .getfield 12, 3), (22, .invokevirtual 100, 3), (25, .aload_n 0, 1), (26, .iconst 1, 1), (27, .invokevirtual 106, 3), (30, .istore_n 1, 1), (31, .iload_n 1, 1), (32, .iconst (-1), 1), (33, .if_icmp .ne 5, 3), (36, .iconst (-1), 1), (37, .ireturn, 1), (38, .aload_n 0, 1), (39, .getfield 12, 3), (42, .invokevirtual 100, 3), (45, .aload_n 0, 1), (46, .iconst 0, 1), (47, .invokevirtual 106, 3), (50, .istore_n 2, 1), (51, .iload_n 2, 1), (52, .iconst (-1), 1), (53, .if_icmp .ne 5, 3), (56, .iconst (-1), 1), (57, .ireturn, 1), (58, .aload_n 0, 1), (59, .getfield 28, 3), (62, .getfield 109, 3), (65, .iload_n 1, 1), (66, .aaload, 1), (67, .iload_n 2, 1), (68, .iaload, 1), (69, .ifCond .le 9, 3), (72, .aload_n 0, 1), (73, .iconst 3, 1), (74, .invokevirtual 79, 3), (77, .ireturn, 1), (78, .aload_n 0, 1), (79, .getfield 12, 3), (82, .invokevirtual 100, 3), (85, .aload_n 0, 1), (86, .iconst 1, 1), (87, .bipush 99, 2), (89, .invokevirtual 86, 3), (92, .istore_n 3, 1), (93, .iload_n 3, 1), (94, .iconst (-1), 1), (95, .if_icmp .ne 5, 3), (98, .iconst (-1), 1), (99, .ireturn, 1), (100, .aload_n 0, 1), (101, .getfield 28, 3), (104, .getfield 109, 3), (107, .iload_n 1, 1), (108, .aaload, 1), (109, .iload_n 2, 1), (110, .iload_n 3, 1), (111, .iastore, 1), (112, .aload_n 0, 1), (113, .getfield 28, 3), (116, .dup, 1), (117, .getfield 103, 3), (120, .iconst 1, 1), (121, .iadd, 1), (122, .putfield 103, 3), (125, .aload_n 0, 1), (126, .invokevirtual 93, 3), (129, .ireturn, 1)])
set_option maxRecDepth 100000 in
theorem eX3_mixLine : zdec mX3_mixLine := by unfold zdec; decide +kernel
theorem fX3_mixLine : zMF mX3_mixLine 0 := ⟨ztb_t (zt3 _ (List.mem_of_getElem? (i := 72) rfl)) rfl, ztb_t (zt1 _ (List.mem_of_getElem? (i := 2) rfl)) rfl, by decide +kernel, by decide⟩
def mX3_roomLine : zM := (yX3_roomLine, cX3_roomLine, 3, (some FieldType.int), [(0, .aload_n 0, 1), (1, .iconst 2, 1), (2, .invokevirtual 83, 3), (5, .istore_n 1, 1), (6, .iload_n 1, 1), (7, .iconst (-1), 1), (8, .if_icmp .ne 7, 3), (11, .iconst (-1), 1), (12, .goto 10, 3), (15, .aload_n 0, 1), (16, .iconst 0, 1), (17, .bipush 100, 2), (19, .invokevirtual 86, 3), (22, .istore_n 2, 1), (23, .iload_n 2, 1), (24, .iconst (-1), 1), (25, .if_icmp .ne 5, 3), (28, .iconst (-1), 1), (29, .ireturn, 1), (30, .aload_n 0, 1), (31, .getfield 28, 3), (34, .getfield 113, 3), (37, .iload_n 1, 1), (38, .iload_n 2, 1), (39, .iastore, 1), (40, .aload_n 0, 1), (41, .invokevirtual 93, 3), (44, .ireturn, 1)])
set_option maxRecDepth 100000 in
theorem eX3_roomLine : zdec mX3_roomLine := by unfold zdec; decide +kernel
theorem fX3_roomLine : zMF mX3_roomLine 0 := ⟨ztb_t (zt3 _ (List.mem_of_getElem? (i := 80) rfl)) rfl, ztb_t (zt1 _ (List.mem_of_getElem? (i := 2) rfl)) rfl, by decide +kernel, by decide⟩
def mX3_monkLine : zM := (yX3_monkLine, cX3_monkLine, 4, (some FieldType.int), [(0, .aload_n 0, 1), (1, .iconst 3, 1), (2, .invokevirtual 83, 3), (5, .istore_n 1, 1), (6, .iload_n 1, 1), (7, .iconst (-1), 1), (8, .if_icmp .ne 7, 3), (11, .iconst (-1), 1), (12, .goto 8, 3), (15, .aload_n 0, 1), (16, .iconst 2, 1), (17, .invokevirtual 106, 3), (20, .istore_n 2, 1), (21, .iload_n 2, 1), (22, .iconst (-1), 1), (23, .if_icmp .ne 5, 3), (26, .iconst (-1), 1), (27, .ireturn, 1), (28, .aload_n 0, 1), (29, .getfield 12, 3), (32, .invokevirtual 100, 3), (35, .aload_n 0, 1), (36, .iconst 1, 1), (37, .bipush 99, 2), (39, .invokevirtual 86, 3), (42, .istore_n 3, 1), (43, .iload_n 3, 1), (44, .iconst (-1), 1), (45, .if_icmp .ne 5, 3), (48, .iconst (-1), 1), (49, .ireturn, 1), (50, .aload_n 0, 1), (51, .getfield 28, 3), (54, .getfield 116, 3), (57, .iload_n 1, 1), (58, .iload_n 2, 1), (59, .iastore, 1), (60, .aload_n 0, 1), (61, .getfield 28, 3), (64, .getfield 119, 3), (67, .iload_n 1, 1), (68, .iload_n 3, 1), (69, .iastore, 1), (70, .aload_n 0, 1), (71, .invokevirtual 93, 3), (74, .ireturn, 1)])
set_option maxRecDepth 100000 in
theorem eX3_monkLine : zdec mX3_monkLine := by unfold zdec; decide +kernel
theorem fX3_monkLine : zMF mX3_monkLine 0 := ⟨ztb_t (zt3 _ (List.mem_of_getElem? (i := 84) rfl)) rfl, ztb_t (zt1 _ (List.mem_of_getElem? (i := 2) rfl)) rfl, by decide +kernel, by decide⟩
def mX3_lingerLine : zM := (yX3_lingerLine, cX3_lingerLine, 1, (some FieldType.int), [(0, .aload_n 0, 1), (1, .getfield 28, 3), (4, .getfield 122, 3), (7, .ifCond .eq 9, 3), (10, .aload_n 0, 1), (11, .iconst 3, 1), (12, .invokevirtual 79, 3), (15, .ireturn, 1), (16, .aload_n 0, 1), (17, .getfield 12, 3), (20, .invokevirtual 100, 3), (23, .aload_n 0, 1), (24, .getfield 28, 3), (27, .iconst 1, 1), (28, .putfield 122, 3), (31, .aload_n 0, 1), (32, .getfield 28, 3), (35, .aload_n 0, 1), (36, .iconst 0, 1), (37, .bipush 100, 2), (39, .invokevirtual 86, 3), (42, .putfield 126, 3), (45, .aload_n 0, 1), (46, .getfield 28, 3), (49, .getfield 126, 3), (52, .iconst (-1), 1), (53, .if_icmp .ne 7, 3), (56, .iconst (-1), 1), (57, .goto 7, 3), (60, .aload_n 0, 1), (61, .invokevirtual 93, 3), (64, .ireturn, 1)])
set_option maxRecDepth 100000 in
theorem eX3_lingerLine : zdec mX3_lingerLine := by unfold zdec; decide +kernel
theorem fX3_lingerLine : zMF mX3_lingerLine 0 := ⟨ztb_t (zt3 _ (List.mem_of_getElem? (i := 88) rfl)) rfl, ztb_t (zt1 _ (List.mem_of_getElem? (i := 2) rfl)) rfl, by decide +kernel, by decide⟩
def mX3_seedLine : zM := (yX3_seedLine, cX3_seedLine, 1, (some FieldType.int), [(0, .aload_n 0, 1), (1, .getfield 28, 3), (4, .getfield 129, 3), (7, .ifCond .eq 9, 3), (10, .aload_n 0, 1), (11, .iconst 3, 1), (12, .invokevirtual 79, 3), (15, .ireturn, 1), (16, .aload_n 0, 1), (17, .getfield 12, 3), (20, .invokevirtual 100, 3), (23, .aload_n 0, 1), (24, .getfield 28, 3), (27, .iconst 1, 1), (28, .putfield 129, 3), (31, .aload_n 0, 1), (32, .iconst 0, 1), (33, .ldc 132, 2), (35, .invokevirtual 86, 3), (38, .iconst (-1), 1), (39, .if_icmp .ne 7, 3), (42, .iconst (-1), 1), (43, .goto 7, 3), (46, .aload_n 0, 1), (47, .invokevirtual 93, 3), (50, .ireturn, 1)])
set_option maxRecDepth 100000 in
theorem eX3_seedLine : zdec mX3_seedLine := by unfold zdec; decide +kernel
theorem fX3_seedLine : zMF mX3_seedLine 0 := ⟨ztb_t (zt3 _ (List.mem_of_getElem? (i := 92) rfl)) rfl, ztb_t (zt1 _ (List.mem_of_getElem? (i := 2) rfl)) rfl, by decide +kernel, by decide⟩
def mX3_lawLine : zM := (yX3_lawLine, cX3_lawLine, 2, (some FieldType.int), [(0, .aload_n 0, 1), (1, .getfield 12, 3), (4, .invokevirtual 100, 3), (7, .aload_n 0, 1), (8, .getfield 12, 3), (11, .getfield 46, 3), (14, .bipush 9, 2), (16, .if_icmp .lt 15, 3), (19, .aload_n 0, 1), (20, .getfield 12, 3), (23, .getfield 46, 3), (26, .bipush 11, 2), (28, .if_icmp .le 9, 3), (31, .aload_n 0, 1), (32, .iconst 1, 1), (33, .invokevirtual 79, 3), (36, .ireturn, 1), (37, .aload_n 0, 1), (38, .getfield 12, 3), (41, .getfield 46, 3), (44, .bipush 9, 2), (46, .isub, 1), (47, .istore_n 1, 1), (48, .aload_n 0, 1), (49, .getfield 28, 3), (52, .getfield 133, 3), (55, .iload_n 1, 1), (56, .invokevirtual 137, 3), (59, .ifCond .eq 9, 3), (62, .aload_n 0, 1), (63, .iconst 3, 1), (64, .invokevirtual 79, 3), (67, .ireturn, 1), (68, .aload_n 0, 1), (69, .getfield 12, 3), (72, .invokevirtual 100, 3), (75, .aload_n 0, 1), (76, .getfield 28, 3), (79, .getfield 133, 3), (82, .iload_n 1, 1), (83, .invokevirtual 143, 3), (86, .aload_n 0, 1), (87, .invokevirtual 147, 3), (90, .iconst (-1), 1), (91, .if_icmp .ne 5, 3), (94, .iconst (-1), 1), (95, .ireturn, 1), (96, .aload_n 0, 1), (97, .getfield 28, 3), (100, .getfield 133, 3), (103, .iload_n 1, 1), (104, .invokevirtual 150, 3), (107, .aload_n 0, 1), (108, .invokevirtual 93, 3), (111, .ireturn, 1)])
set_option maxRecDepth 100000 in
theorem eX3_lawLine : zdec mX3_lawLine := by unfold zdec; decide +kernel
theorem fX3_lawLine : zMF mX3_lawLine 0 := ⟨ztb_t (zt3 _ (List.mem_of_getElem? (i := 97) rfl)) rfl, ztb_t (zt1 _ (List.mem_of_getElem? (i := 2) rfl)) rfl, by decide +kernel, by decide⟩
def mX3_newName : zM := (yX3_newName, cX3_newName, 3, (some FieldType.int), [(0, .aload_n 0, 1), (1, .getfield 28, 3), (4, .getfield 153, 3), (7, .iload_n 1, 1), (8, .iaload, 1), (9, .istore_n 2, 1), (10, .iload_n 2, 1), (11, .getstatic 156, 3), (14, .iload_n 1, 1), (15, .iaload, 1), (16, .if_icmp .lt 9, 3), (19, .aload_n 0, 1), (20, .iconst 2, 1), (21, .invokevirtual 79, 3), (24, .ireturn, 1), (25, .aload_n 0, 1), (26, .getfield 12, 3), (29, .invokevirtual 100, 3), (32, .aload_n 0, 1), (33, .getfield 12, 3), (36, .getfield 46, 3), (39, .bipush 35, 2), (41, .if_icmp .eq 9, 3), (44, .aload_n 0, 1), (45, .iconst 1, 1), (46, .invokevirtual 79, 3), (49, .ireturn, 1), (50, .aload_n 0, 1), (51, .getfield 28, 3), (54, .iload_n 1, 1), (55, .aload_n 0, 1), (56, .getfield 12, 3), (59, .getfield 159, 3), (62, .invokevirtual 162, 3), (65, .iconst (-1), 1), (66, .if_icmp .eq 9, 3), (69, .aload_n 0, 1), (70, .iconst 3, 1), (71, .invokevirtual 79, 3), (74, .ireturn, 1), (75, .aload_n 0, 1), (76, .getfield 28, 3), (79, .getfield 165, 3), (82, .iload_n 1, 1), (83, .aaload, 1), (84, .iload_n 2, 1), (85, .aload_n 0, 1), (86, .getfield 12, 3), (89, .getfield 159, 3), (92, .iastore, 1), (93, .aload_n 0, 1), (94, .getfield 28, 3), (97, .getfield 153, 3), (100, .iload_n 1, 1), (101, .dup2, 1), (102, .iaload, 1), (103, .iconst 1, 1), (104, .iadd, 1), (105, .iastore, 1), (106, .aload_n 0, 1), (107, .getfield 12, 3), (110, .invokevirtual 100, 3), (113, .iload_n 2, 1), (114, .ireturn, 1)])
set_option maxRecDepth 100000 in
theorem eX3_newName : zdec mX3_newName := by unfold zdec; decide +kernel
theorem fX3_newName : zMF mX3_newName 1 := ⟨ztb_t (zt3 _ (List.mem_of_getElem? (i := 45) rfl)) rfl, ztb_t (zt1 _ (List.mem_of_getElem? (i := 2) rfl)) rfl, by decide +kernel, by decide⟩
def mX3_toldName : zM := (yX3_toldName, cX3_toldName, 3, (some FieldType.int), [(0, .aload_n 0, 1), (1, .getfield 12, 3), (4, .getfield 46, 3), (7, .bipush 35, 2), (9, .if_icmp .eq 9, 3), (12, .aload_n 0, 1), (13, .iconst 1, 1), (14, .invokevirtual 79, 3), (17, .ireturn, 1), (18, .aload_n 0, 1), (19, .getfield 28, 3), (22, .iload_n 1, 1), (23, .aload_n 0, 1), (24, .getfield 12, 3), (27, .getfield 159, 3), (30, .invokevirtual 162, 3), (33, .istore_n 2, 1), (34, .iload_n 2, 1), (35, .iconst (-1), 1), (36, .if_icmp .ne 11, 3), (39, .aload_n 0, 1), (40, .iconst 4, 1), (41, .invokevirtual 79, 3), (44, .goto 4, 3), (47, .iload_n 2, 1), (48, .ireturn, 1)])
set_option maxRecDepth 100000 in
theorem eX3_toldName : zdec mX3_toldName := by unfold zdec; decide +kernel
theorem fX3_toldName : zMF mX3_toldName 1 := ⟨ztb_t (zt3 _ (List.mem_of_getElem? (i := 76) rfl)) rfl, ztb_t (zt1 _ (List.mem_of_getElem? (i := 2) rfl)) rfl, by decide +kernel, by decide⟩
def mX3_readNumber : zM := (yX3_readNumber, cX3_readNumber, 4, (some FieldType.int), [(0, .aload_n 0, 1), (1, .getfield 12, 3), (4, .getfield 46, 3), (7, .bipush 36, 2), (9, .if_icmp .eq 9, 3), (12, .aload_n 0, 1), (13, .iconst 1, 1), (14, .invokevirtual 79, 3), (17, .ireturn, 1), (18, .aload_n 0, 1), (19, .getfield 12, 3), (22, .getfield 168, 3), (25, .istore_n 3, 1), (26, .iload_n 3, 1), (27, .iload_n 1, 1), (28, .if_icmp .lt 8, 3), (31, .iload_n 3, 1), (32, .iload_n 2, 1), (33, .if_icmp .le 9, 3), (36, .aload_n 0, 1), (37, .iconst 2, 1), (38, .invokevirtual 79, 3), (41, .ireturn, 1), (42, .aload_n 0, 1), (43, .getfield 12, 3), (46, .invokevirtual 100, 3), (49, .iload_n 3, 1), (50, .ireturn, 1)])
set_option maxRecDepth 100000 in
theorem eX3_readNumber : zdec mX3_readNumber := by unfold zdec; decide +kernel
theorem fX3_readNumber : zMF mX3_readNumber 2 := ⟨ztb_t (zt3 _ (List.mem_of_getElem? (i := 60) rfl)) rfl, ztb_t (zt1 _ (List.mem_of_getElem? (i := 2) rfl)) rfl, by decide +kernel, by decide⟩
def mX3_readStop : zM := (yX3_readStop, cX3_readStop, 1, (some FieldType.int), [(0, .aload_n 0, 1), (1, .getfield 12, 3), (4, .getfield 46, 3), (7, .bipush 34, 2), (9, .if_icmp .eq 9, 3), (12, .aload_n 0, 1), (13, .iconst 1, 1), (14, .invokevirtual 79, 3), (17, .ireturn, 1), (18, .aload_n 0, 1), (19, .getfield 12, 3), (22, .invokevirtual 100, 3), (25, .iconst 0, 1), (26, .ireturn, 1)])
set_option maxRecDepth 100000 in
theorem eX3_readStop : zdec mX3_readStop := by unfold zdec; decide +kernel
theorem fX3_readStop : zMF mX3_readStop 0 := ⟨ztb_t (zt3 _ (List.mem_of_getElem? (i := 64) rfl)) rfl, ztb_t (zt1 _ (List.mem_of_getElem? (i := 2) rfl)) rfl, by decide +kernel, by decide⟩
def mX3_readFormula : zM := (yX3_readFormula, cX3_readFormula, 3, (some FieldType.int), [(0, .aload_n 0, 1), (1, .iconst 0, 1), (2, .putfield 171, 3), (5, .aload_n 0, 1), (6, .iconst 0, 1), (7, .putfield 174, 3), (10, .aload_n 0, 1), (11, .iconst 1, 1), (12, .putfield 177, 3), (15, .iconst 0, 1), (16, .istore_n 1, 1), (17, .iload_n 1, 1), (18, .sipush 700, 3), (21, .if_icmp .ge 75, 3), (24, .aload_n 0, 1), (25, .getfield 177, 3), (28, .ifCond .ne 29, 3), (31, .aload_n 0, 1), (32, .getfield 174, 3), (35, .ifCond .ne 22, 3), (38, .aload_n 0, 1), (39, .getfield 12, 3), (42, .getfield 46, 3), (45, .bipush 34, 2), (47, .if_icmp .ne 10, 3), (50, .aload_n 0, 1), (51, .iconst 1, 1), (52, .invokevirtual 180, 3), (55, .iconst 0, 1), (56, .ireturn, 1), (57, .aload_n 0, 1), (58, .getfield 177, 3), (61, .ifCond .eq 10, 3), (64, .aload_n 0, 1), (65, .invokevirtual 183, 3), (68, .goto 7, 3), (71, .aload_n 0, 1), (72, .invokevirtual 186, 3), (75, .istore_n 2, 1), (76, .iload_n 2, 1), (77, .iconst (-1), 1), (78, .if_icmp .ne 5, 3), (81, .iconst (-1), 1), (82, .ireturn, 1), (83, .aload_n 0, 1), (84, .getfield 12, 3), (87, .invokevirtual 100, 3), (90, .iinc 1 1, 3), (93, .goto (-76), 3), (96, .aload_n 0, 1), (97, .iconst 1, 1), (98, .invokevirtual 79, 3), (101, .ireturn, 1)])
set_option maxRecDepth 100000 in
theorem eX3_readFormula : zdec mX3_readFormula := by unfold zdec; decide +kernel
theorem fX3_readFormula : zMF mX3_readFormula 0 := ⟨ztb_t (zt3 _ (List.mem_of_getElem? (i := 109) rfl)) rfl, ztb_t (zt1 _ (List.mem_of_getElem? (i := 2) rfl)) rfl, by decide +kernel, by decide⟩
def mX3_readValue : zM := (yX3_readValue, cX3_readValue, 3, (some FieldType.int), [(0, .aload_n 0, 1), (1, .getfield 12, 3), (4, .getfield 46, 3), (7, .istore_n 1, 1), (8, .iload_n 1, 1), (9, .bipush 36, 2), (11, .if_icmp .ne 7, 3), (14, .iconst 1, 1), (15, .goto 4, 3), (18, .iconst 0, 1), (19, .istore_n 2, 1), (20, .iload_n 1, 1), (21, .bipush 32, 2), (23, .if_icmp .ne 34, 3), (26, .aload_n 0, 1), (27, .getfield 174, 3), (30, .bipush 8, 2), (32, .if_icmp .lt 9, 3), (35, .aload_n 0, 1), (36, .iconst 2, 1), (37, .invokevirtual 79, 3), (40, .ireturn, 1), (41, .aload_n 0, 1), (42, .dup, 1), (43, .getfield 174, 3), (46, .iconst 1, 1), (47, .iadd, 1), (48, .putfield 174, 3), (51, .aload_n 0, 1), (52, .iload_n 1, 1), (53, .invokevirtual 189, 3), (56, .ireturn, 1), (57, .iload_n 1, 1), (58, .bipush 14, 2), (60, .if_icmp .ne 42, 3), (63, .aload_n 0, 1), (64, .invokevirtual 192, 3), (67, .bipush 14, 2), (69, .invokestatic 195, 3), (72, .if_icmp .gt 30, 3), (75, .aload_n 0, 1), (76, .getfield 28, 3), (79, .getfield 133, 3), (82, .invokevirtual 198, 3), (85, .ifCond .eq 11, 3), (88, .aload_n 0, 1), (89, .iload_n 1, 1), (90, .invokevirtual 189, 3), (93, .goto 8, 3), (96, .aload_n 0, 1), (97, .iconst 2, 1), (98, .invokevirtual 79, 3), (101, .ireturn, 1), (102, .iload_n 2, 1), (103, .ifCond .ne 21, 3), (106, .iload_n 1, 1), (107, .bipush 15, 2), (109, .if_icmp .lt 9, 3), (112, .iload_n 1, 1), (113, .bipush 21, 2), (115, .if_icmp .le 9, 3), (118, .aload_n 0, 1), (119, .iconst 1, 1), (120, .invokevirtual 79, 3), (123, .ireturn, 1), (124, .iload_n 2, 1), (125, .ifCond .eq 16, 3), (128, .aload_n 0, 1), (129, .getfield 12, 3), (132, .getfield 168, 3), (135, .sipush 9999, 3), (138, .if_icmp .gt 16, 3), (141, .aload_n 0, 1), (142, .getfield 28, 3), (145, .getfield 133, 3), (148, .invokevirtual 198, 3), (151, .ifCond .ne 9, 3), (154, .aload_n 0, 1), (155, .iconst 2, 1), (156, .invokevirtual 79, 3), (159, .ireturn, 1), (160, .aload_n 0, 1), (161, .getfield 28, 3), (164, .getfield 133, 3), (167, .iload_n 1, 1), (168, .aload_n 0, 1), (169, .getfield 12, 3), (172, .getfield 168, 3), (175, .invokevirtual 202, 3), (178, .aload_n 0, 1), (179, .iconst 0, 1), (180, .putfield 177, 3), (183, .iconst 0, 1), (184, .ireturn, 1)])
set_option maxRecDepth 100000 in
theorem eX3_readValue : zdec mX3_readValue := by unfold zdec; decide +kernel
theorem fX3_readValue : zMF mX3_readValue 0 := ⟨ztb_t (zt3 _ (List.mem_of_getElem? (i := 125) rfl)) rfl, ztb_t (zt1 _ (List.mem_of_getElem? (i := 2) rfl)) rfl, by decide +kernel, by decide⟩
def mX3_readSign : zM := (yX3_readSign, cX3_readSign, 3, (some FieldType.int), [(0, .aload_n 0, 1), (1, .getfield 12, 3), (4, .getfield 46, 3), (7, .istore_n 1, 1), (8, .iload_n 1, 1), (9, .invokestatic 195, 3), (12, .istore_n 2, 1), (13, .iload_n 1, 1), (14, .bipush 33, 2), (16, .if_icmp .ne 37, 3), (19, .aload_n 0, 1), (20, .getfield 174, 3), (23, .ifCond .le 30, 3), (26, .aload_n 0, 1), (27, .iconst 1, 1), (28, .invokevirtual 180, 3), (31, .aload_n 0, 1), (32, .dup, 1), (33, .getfield 171, 3), (36, .iconst 1, 1), (37, .isub, 1), (38, .putfield 171, 3), (41, .aload_n 0, 1), (42, .dup, 1), (43, .getfield 174, 3), (46, .iconst 1, 1), (47, .isub, 1), (48, .putfield 174, 3), (51, .iconst 0, 1), (52, .ireturn, 1), (53, .iload_n 2, 1), (54, .ifCond .eq 9, 3), (57, .iload_n 1, 1), (58, .bipush 14, 2), (60, .if_icmp .ne 9, 3), (63, .aload_n 0, 1), (64, .iconst 1, 1), (65, .invokevirtual 79, 3), (68, .ireturn, 1), (69, .aload_n 0, 1), (70, .iload_n 2, 1), (71, .iconst 4, 1), (72, .if_icmp .ne 9, 3), (75, .iload_n 2, 1), (76, .iconst 1, 1), (77, .iadd, 1), (78, .goto 4, 3), (81, .iload_n 2, 1), (82, .invokevirtual 180, 3), (85, .iload_n 2, 1), (86, .iconst 4, 1), (87, .if_icmp .ne 17, 3), (90, .aload_n 0, 1), (91, .invokevirtual 192, 3), (94, .iload_n 2, 1), (95, .if_icmp .ne 9, 3), (98, .aload_n 0, 1), (99, .iconst 1, 1), (100, .invokevirtual 79, 3), (103, .ireturn, 1), (104, .aload_n 0, 1), (105, .iconst 1, 1), (106, .putfield 177, 3), (109, .aload_n 0, 1), (110, .getfield 28, 3), (113, .getfield 133, 3), (116, .invokevirtual 198, 3), (119, .ifCond .eq 11, 3), (122, .aload_n 0, 1), (123, .iload_n 1, 1), (124, .invokevirtual 189, 3), (127, .goto 8, 3), (130, .aload_n 0, 1), (131, .iconst 2, 1), (132, .invokevirtual 79, 3), (135, .ireturn, 1)])
set_option maxRecDepth 100000 in
theorem eX3_readSign : zdec mX3_readSign := by unfold zdec; decide +kernel
theorem fX3_readSign : zMF mX3_readSign 0 := ⟨ztb_t (zt3 _ (List.mem_of_getElem? (i := 140) rfl)) rfl, ztb_t (zt1 _ (List.mem_of_getElem? (i := 2) rfl)) rfl, by decide +kernel, by decide⟩
def mX3_putOff : zM := (yX3_putOff, cX3_putOff, 2, (some FieldType.int), [(0, .aload_n 0, 1), (1, .getfield 171, 3), (4, .aload_n 0, 1), (5, .getfield 18, 3), (8, .arraylength, 1), (9, .if_icmp .lt 9, 3), (12, .aload_n 0, 1), (13, .iconst 2, 1), (14, .invokevirtual 79, 3), (17, .ireturn, 1), (18, .aload_n 0, 1), (19, .getfield 18, 3), (22, .aload_n 0, 1), (23, .getfield 171, 3), (26, .iload_n 1, 1), (27, .iastore, 1), (28, .aload_n 0, 1), (29, .getfield 22, 3), (32, .aload_n 0, 1), (33, .getfield 171, 3), (36, .iload_n 1, 1), (37, .invokestatic 195, 3), (40, .iastore, 1), (41, .aload_n 0, 1), (42, .dup, 1), (43, .getfield 171, 3), (46, .iconst 1, 1), (47, .iadd, 1), (48, .putfield 171, 3), (51, .iconst 0, 1), (52, .ireturn, 1)])
set_option maxRecDepth 100000 in
theorem eX3_putOff : zdec mX3_putOff := by unfold zdec; decide +kernel
theorem fX3_putOff : zMF mX3_putOff 1 := ⟨ztb_t (zt3 _ (List.mem_of_getElem? (i := 129) rfl)) rfl, ztb_t (zt1 _ (List.mem_of_getElem? (i := 2) rfl)) rfl, by decide +kernel, by decide⟩
def mX3_topStrength : zM := (yX3_topStrength, cX3_topStrength, 1, (some FieldType.int), [(0, .aload_n 0, 1), (1, .getfield 171, 3), (4, .ifCond .ne 7, 3), (7, .iconst 0, 1), (8, .goto 14, 3), (11, .aload_n 0, 1), (12, .getfield 22, 3), (15, .aload_n 0, 1), (16, .getfield 171, 3), (19, .iconst 1, 1), (20, .isub, 1), (21, .iaload, 1), (22, .ireturn, 1)])
set_option maxRecDepth 100000 in
theorem eX3_topStrength : zdec mX3_topStrength := by unfold zdec; decide +kernel
theorem fX3_topStrength : zMF mX3_topStrength 0 := ⟨ztb_t (zt3 _ (List.mem_of_getElem? (i := 117) rfl)) rfl, ztb_t (zt1 _ (List.mem_of_getElem? (i := 2) rfl)) rfl, by decide +kernel, by decide⟩
def mX3_settle : zM := (yX3_settle, cX3_settle, 2, none, [(0, .aload_n 0, 1), (1, .getfield 171, 3), (4, .ifCond .le 44, 3), (7, .aload_n 0, 1), (8, .invokevirtual 192, 3), (11, .iload_n 1, 1), (12, .if_icmp .lt 36, 3), (15, .aload_n 0, 1), (16, .dup, 1), (17, .getfield 171, 3), (20, .iconst 1, 1), (21, .isub, 1), (22, .putfield 171, 3), (25, .aload_n 0, 1), (26, .getfield 28, 3), (29, .getfield 133, 3), (32, .aload_n 0, 1), (33, .getfield 18, 3), (36, .aload_n 0, 1), (37, .getfield 171, 3), (40, .iaload, 1), (41, .iconst 0, 1), (42, .invokevirtual 202, 3), (45, .goto (-45), 3), (48, .return_, 1)])
set_option maxRecDepth 100000 in
theorem eX3_settle : zdec mX3_settle := by unfold zdec; decide +kernel
theorem fX3_settle : zMF mX3_settle 1 := ⟨ztb_t (zt3 _ (List.mem_of_getElem? (i := 113) rfl)) rfl, ztb_t (zt1 _ (List.mem_of_getElem? (i := 2) rfl)) rfl, by decide +kernel, by decide⟩
def mX4_init : zM := (yX4_init, cX4_init, 6, none, [(0, .aload_n 0, 1), (1, .invokespecial 1, 3), (4, .aload_n 0, 1), (5, .bipush 22, 2), (7, .newarray .int, 2), (9, .putfield 9, 3), (12, .aload_n 0, 1), (13, .iconst 0, 1), (14, .newarray .byte, 2), (16, .putfield 15, 3), (19, .iconst 0, 1), (20, .istore_n 1, 1), (21, .iconst 0, 1), (22, .istore_n 2, 1), (23, .iconst 0, 1), (24, .istore_n 3, 1), (25, .iconst 0, 1), (26, .istore 4, 2), (28, .iload 4, 2), (30, .ldc 19, 2), (32, .invokevirtual 21, 3), (35, .if_icmp .ge 73, 3), (38, .iload_n 1, 1), (39, .aload_n 0, 1), (40, .getfield 9, 3), (43, .arraylength, 1), (44, .if_icmp .ge 64, 3), (47, .ldc 19, 2), (49, .iload 4, 2), (51, .invokevirtual 27, 3), (54, .istore 5, 2), (56, .iload 5, 2), (58, .bipush 32, 2), (60, .if_icmp .ne 27, 3), (63, .aload_n 0, 1), (64, .getfield 9, 3), (67, .iload_n 1, 1), (68, .iload_n 2, 1), (69, .iconst 5, 1), (70, .bipush 6, 2), (72, .iload_n 3, 1), (73, .isub, 1), (74, .imul, 1), (75, .ishl, 1), (76, .iastore, 1), (77, .iinc 1 1, 3), (80, .iconst 0, 1), (81, .istore_n 2, 1), (82, .iconst 0, 1), (83, .istore_n 3, 1), (84, .goto 18, 3), (87, .iload_n 2, 1), (88, .iconst 5, 1), (89, .ishl, 1), (90, .iload 5, 2), (92, .bipush 97, 2), (94, .isub, 1), (95, .iconst 1, 1), (96, .iadd, 1), (97, .ior, 1), (98, .istore_n 2, 1), (99, .iinc 3 1, 3), (102, .iinc 4 1, 3), (105, .goto (-77), 3), (108, .return_, 1)])
set_option maxRecDepth 100000 in
theorem eX4_init : zdec mX4_init := by unfold zdec; decide +kernel
theorem fX4_init : zMF mX4_init 0 := ⟨ztb_t (zt1 _ (List.mem_of_getElem? (i := 41) rfl)) rfl, ztb_t (zt1 _ (List.mem_of_getElem? (i := 3) rfl)) rfl, by decide +kernel, by decide⟩
def mX4_open : zM := (yX4_open, cX4_open, 3, none, [(0, .aload_n 0, 1), (1, .aload_n 1, 1), (2, .putfield 15, 3), (5, .aload_n 0, 1), (6, .iload_n 2, 1), (7, .aload_n 1, 1), (8, .arraylength, 1), (9, .invokestatic 31, 3), (12, .putfield 37, 3), (15, .aload_n 0, 1), (16, .iconst 0, 1), (17, .putfield 40, 3), (20, .aload_n 0, 1), (21, .invokevirtual 43, 3), (24, .return_, 1)])
set_option maxRecDepth 100000 in
theorem eX4_open : zdec mX4_open := by unfold zdec; decide +kernel
theorem fX4_open : zMF mX4_open 2 := ⟨ztb_t (zt2 _ (List.mem_of_getElem? (i := 239) rfl)) rfl, ztb_t (zt1 _ (List.mem_of_getElem? (i := 3) rfl)) rfl, by decide +kernel, by decide⟩
def mX4_advance : zM := (yX4_advance, cX4_advance, 1, none, [(0, .aload_n 0, 1), (1, .getfield 40, 3), (4, .aload_n 0, 1), (5, .getfield 37, 3), (8, .if_icmp .ge 44, 3), (11, .aload_n 0, 1), (12, .getfield 15, 3), (15, .aload_n 0, 1), (16, .getfield 40, 3), (19, .baload, 1), (20, .bipush 10, 2), (22, .if_icmp .eq 17, 3), (25, .aload_n 0, 1), (26, .getfield 15, 3), (29, .aload_n 0, 1), (30, .getfield 40, 3), (33, .baload, 1), (34, .bipush 32, 2), (36, .if_icmp .ne 16, 3), (39, .aload_n 0, 1), (40, .dup, 1), (41, .getfield 40, 3), (44, .iconst 1, 1), (45, .iadd, 1), (46, .putfield 40, 3), (49, .goto (-49), 3), (52, .aload_n 0, 1), (53, .aload_n 0, 1), (54, .getfield 40, 3), (57, .putfield 46, 3), (60, .aload_n 0, 1), (61, .getfield 40, 3), (64, .aload_n 0, 1), (65, .getfield 37, 3), (68, .if_icmp .lt 12, 3), (71, .aload_n 0, 1), (72, .bipush 37, 2), (74, .putfield 49, 3), (77, .goto 74, 3), (80, .aload_n 0, 1), (81, .getfield 15, 3), (84, .aload_n 0, 1), (85, .getfield 40, 3), (88, .baload, 1), (89, .invokestatic 52, 3), (92, .ifCond .eq 10, 3), (95, .aload_n 0, 1), (96, .invokevirtual 56, 3), (99, .goto 52, 3), (102, .aload_n 0, 1), (103, .getfield 15, 3), (106, .aload_n 0, 1), (107, .getfield 40, 3), (110, .baload, 1), (111, .invokestatic 59, 3), (114, .ifCond .eq 10, 3), (117, .aload_n 0, 1), (118, .invokevirtual 62, 3), (121, .goto 30, 3), (124, .aload_n 0, 1), (125, .dup, 1), (126, .getfield 40, 3), (129, .iconst 1, 1), (130, .iadd, 1), (131, .putfield 40, 3), (134, .aload_n 0, 1), (135, .aload_n 0, 1), (136, .aload_n 0, 1), (137, .getfield 15, 3), (140, .aload_n 0, 1), (141, .getfield 46, 3), (144, .baload, 1), (145, .invokevirtual 65, 3), (148, .putfield 49, 3), (151, .return_, 1)])
set_option maxRecDepth 100000 in
theorem eX4_advance : zdec mX4_advance := by unfold zdec; decide +kernel
theorem fX4_advance : zMF mX4_advance 0 := ⟨ztb_t (zt3 _ (List.mem_of_getElem? (i := 6) rfl)) rfl, ztb_t (zt1 _ (List.mem_of_getElem? (i := 3) rfl)) rfl, by decide +kernel, by decide⟩
def mX4_isLetter : zM := (yX4_isLetter, cX4_isLetter, 1, (some FieldType.boolean), [(0, .iload_n 0, 1), (1, .bipush 97, 2), (3, .if_icmp .lt 13, 3), (6, .iload_n 0, 1), (7, .bipush 122, 2), (9, .if_icmp .gt 7, 3), (12, .iconst 1, 1), (13, .goto 4, 3), (16, .iconst 0, 1), (17, .ireturn, 1)])
set_option maxRecDepth 100000 in
theorem eX4_isLetter : zdec mX4_isLetter := by unfold zdec; decide +kernel
theorem fX4_isLetter : zMF mX4_isLetter 1 := ⟨ztb_t (zt3 _ (List.mem_of_getElem? (i := 9) rfl)) rfl, ztb_t (zt1 _ (List.mem_of_getElem? (i := 3) rfl)) rfl, by decide +kernel, by decide⟩
def mX4_isDigit : zM := (yX4_isDigit, cX4_isDigit, 1, (some FieldType.boolean), [(0, .iload_n 0, 1), (1, .bipush 48, 2), (3, .if_icmp .lt 13, 3), (6, .iload_n 0, 1), (7, .bipush 57, 2), (9, .if_icmp .gt 7, 3), (12, .iconst 1, 1), (13, .goto 4, 3), (16, .iconst 0, 1), (17, .ireturn, 1)])
set_option maxRecDepth 100000 in
theorem eX4_isDigit : zdec mX4_isDigit := by unfold zdec; decide +kernel
theorem fX4_isDigit : zMF mX4_isDigit 1 := ⟨ztb_t (zt3 _ (List.mem_of_getElem? (i := 16) rfl)) rfl, ztb_t (zt1 _ (List.mem_of_getElem? (i := 3) rfl)) rfl, by decide +kernel, by decide⟩
def mX4_readWord : zM := (yX4_readWord, cX4_readWord, 4, none, [(0, .iconst 0, 1), (1, .istore_n 1, 1), (2, .iconst 0, 1), (3, .istore_n 2, 1), (4, .aload_n 0, 1), (5, .getfield 40, 3), (8, .aload_n 0, 1), (9, .getfield 37, 3), (12, .if_icmp .ge 53, 3), (15, .aload_n 0, 1), (16, .getfield 15, 3), (19, .aload_n 0, 1), (20, .getfield 40, 3), (23, .baload, 1), (24, .invokestatic 52, 3), (27, .ifCond .eq 38, 3), (30, .iload_n 2, 1), (31, .iconst 5, 1), (32, .ishl, 1), (33, .aload_n 0, 1), (34, .getfield 15, 3), (37, .aload_n 0, 1), (38, .getfield 40, 3), (41, .baload, 1), (42, .bipush 97, 2), (44, .isub, 1), (45, .iconst 1, 1), (46, .iadd, 1), (47, .ior, 1), (48, .istore_n 2, 1), (49, .iinc 1 1, 3), (52, .aload_n 0, 1), (53, .dup, 1), (54, .getfield 40, 3), (57, .iconst 1, 1), (58, .iadd, 1), (59, .putfield 40, 3), (62, .goto (-58), 3), (65, .iload_n 1, 1), (66, .bipush 6, 2), (68, .if_icmp .le 10, 3), (71, .aload_n 0, 1), (72, .bipush 38, 2), (74, .putfield 49, 3), (77, .return_, 1), (78, .aload_n 0, 1), (79, .iload_n 2, 1), (80, .iconst 5, 1), (81, .bipush 6, 2), (83, .iload_n 1, 1), (84, .isub, 1), (85, .imul, 1), (86, .ishl, 1), (87, .putfield 69, 3), (90, .aload_n 0, 1), (91, .bipush 35, 2), (93, .putfield 49, 3), (96, .iconst 0, 1), (97, .istore_n 3, 1), (98, .iload_n 3, 1), (99, .aload_n 0, 1), (100, .getfield 9, 3), (103, .arraylength, 1), (104, .if_icmp .ge 27, 3), (107, .aload_n 0, 1), (108, .getfield 9, 3), (111, .iload_n 3, 1), (112, .iaload, 1), (113, .aload_n 0, 1), (114, .getfield 69, 3), (117, .if_icmp .ne 8, 3), (120, .aload_n 0, 1), (121, .iload_n 3, 1), (122, .putfield 49, 3), (125, .iinc 3 1, 3), (128, .goto (-30), 3), (131, .return_, 1)])
set_option maxRecDepth 100000 in
theorem eX4_readWord : zdec mX4_readWord := by unfold zdec; decide +kernel
theorem fX4_readWord : zMF mX4_readWord 0 := ⟨ztb_t (zt3 _ (List.mem_of_getElem? (i := 13) rfl)) rfl, ztb_t (zt1 _ (List.mem_of_getElem? (i := 3) rfl)) rfl, by decide +kernel, by decide⟩
def mX4_readNumber : zM := (yX4_readNumber, cX4_readNumber, 1, none, [(0, .aload_n 0, 1), (1, .iconst 0, 1), (2, .putfield 72, 3), (5, .aload_n 0, 1), (6, .getfield 40, 3), (9, .aload_n 0, 1), (10, .getfield 37, 3), (13, .if_icmp .ge 60, 3), (16, .aload_n 0, 1), (17, .getfield 15, 3), (20, .aload_n 0, 1), (21, .getfield 40, 3), (24, .baload, 1), (25, .invokestatic 59, 3), (28, .ifCond .eq 45, 3), (31, .aload_n 0, 1), (32, .ldc 75, 2), (34, .aload_n 0, 1), (35, .getfield 72, 3), (38, .bipush 10, 2), (40, .imul, 1), (41, .aload_n 0, 1), (42, .getfield 15, 3), (45, .aload_n 0, 1), (46, .getfield 40, 3), (49, .baload, 1), (50, .iadd, 1), (51, .bipush 48, 2), (53, .isub, 1), (54, .invokestatic 31, 3), (57, .putfield 72, 3), (60, .aload_n 0, 1), (61, .dup, 1), (62, .getfield 40, 3), (65, .iconst 1, 1), (66, .iadd, 1), (67, .putfield 40, 3), (70, .goto (-65), 3), (73, .aload_n 0, 1), (74, .bipush 36, 2), (76, .putfield 49, 3), (79, .return_, 1)])
set_option maxRecDepth 100000 in
theorem eX4_readNumber : zdec mX4_readNumber := by unfold zdec; decide +kernel
theorem fX4_readNumber : zMF mX4_readNumber 0 := ⟨ztb_t (zt3 _ (List.mem_of_getElem? (i := 20) rfl)) rfl, ztb_t (zt1 _ (List.mem_of_getElem? (i := 3) rfl)) rfl, by decide +kernel, by decide⟩
end
section
def mX4_signOf : zM := (yX4_signOf, cX4_signOf, 2, (some FieldType.int), [(0, .iload_n 1, 1), (1, .tableswitch 179 40 62 #[170, 173, 164, 158, 179, 161, 179, 167, 179, 179, 179, 179, 179, 179, 179, 179, 179, 179, 179, 176, 107, 155, 138], 107), (108, .aload_n 0, 1), (109, .bipush 61, 2), (111, .invokevirtual 76, 3), (114, .ifCond .eq 8, 3), (117, .bipush 23, 2), (119, .goto 19, 3), (122, .aload_n 0, 1), (123, .bipush 62, 2), (125, .invokevirtual 76, 3), (128, .ifCond .eq 8, 3), (131, .bipush 25, 2), (133, .goto 5, 3), (136, .bipush 22, 2), (138, .ireturn, 1), (139, .aload_n 0, 1), (140, .bipush 61, 2), (142, .invokevirtual 76, 3), (145, .ifCond .eq 8, 3), (148, .bipush 26, 2), (150, .goto 5, 3), (153, .bipush 27, 2), (155, .ireturn, 1), (156, .bipush 24, 2), (158, .ireturn, 1), (159, .bipush 28, 2), (161, .ireturn, 1), (162, .bipush 29, 2), (164, .ireturn, 1), (165, .bipush 30, 2), (167, .ireturn, 1), (168, .bipush 31, 2), (170, .ireturn, 1), (171, .bipush 32, 2), (173, .ireturn, 1), (174, .bipush 33, 2), (176, .ireturn, 1), (177, .bipush 34, 2), (179, .ireturn, 1), (180, .bipush 38, 2), (182, .ireturn, 1)])
set_option maxRecDepth 100000 in
theorem eX4_signOf : zdec mX4_signOf := by unfold zdec; decide +kernel
theorem fX4_signOf : zMF mX4_signOf 1 := ⟨ztb_t (zt3 _ (List.mem_of_getElem? (i := 25) rfl)) rfl, ztb_t (zt1 _ (List.mem_of_getElem? (i := 3) rfl)) rfl, by decide +kernel, by decide⟩
def mX4_takes : zM := (yX4_takes, cX4_takes, 2, (some FieldType.boolean), [(0, .aload_n 0, 1), (1, .getfield 40, 3), (4, .aload_n 0, 1), (5, .getfield 37, 3), (8, .if_icmp .ge 28, 3), (11, .aload_n 0, 1), (12, .getfield 15, 3), (15, .aload_n 0, 1), (16, .getfield 40, 3), (19, .baload, 1), (20, .iload_n 1, 1), (21, .if_icmp .ne 15, 3), (24, .aload_n 0, 1), (25, .dup, 1), (26, .getfield 40, 3), (29, .iconst 1, 1), (30, .iadd, 1), (31, .putfield 40, 3), (34, .iconst 1, 1), (35, .ireturn, 1), (36, .iconst 0, 1), (37, .ireturn, 1)])
set_option maxRecDepth 100000 in
theorem eX4_takes : zdec mX4_takes := by unfold zdec; decide +kernel
theorem fX4_takes : zMF mX4_takes 1 := ⟨ztb_t (zt3 _ (List.mem_of_getElem? (i := 29) rfl)) rfl, ztb_t (zt1 _ (List.mem_of_getElem? (i := 3) rfl)) rfl, by decide +kernel, by decide⟩
def mX5_init : zM := (yX5_init, cX5_init, 1, none, [(0, .aload_n 0, 1), (1, .invokespecial 3, 3), (4, .aload_n 0, 1), (5, .bipush 6, 2), (7, .newarray .int, 2), (9, .putfield 9, 3), (12, .aload_n 0, 1), (13, .bipush 6, 2), (15, .newarray .int, 2), (17, .putfield 15, 3), (20, .aload_n 0, 1), (21, .bipush 6, 2), (23, .newarray .int, 2), (25, .putfield 18, 3), (28, .aload_n 0, 1), (29, .bipush 6, 2), (31, .bipush 6, 2), (33, .multianewarray 21 2, 4), (37, .putfield 23, 3), (40, .aload_n 0, 1), (41, .iconst 5, 1), (42, .newarray .int, 2), (44, .putfield 26, 3), (47, .aload_n 0, 1), (48, .iconst 5, 1), (49, .newarray .int, 2), (51, .putfield 29, 3), (54, .aload_n 0, 1), (55, .iconst 5, 1), (56, .newarray .int, 2), (58, .putfield 32, 3), (61, .aload_n 0, 1), (62, .iconst 5, 1), (63, .newarray .int, 2), (65, .putfield 35, 3), (68, .aload_n 0, 1), (69, .bipush 6, 2), (71, .newarray .int, 2), (73, .putfield 38, 3), (76, .aload_n 0, 1), (77, .bipush 8, 2), (79, .newarray .int, 2), (81, .putfield 41, 3), (84, .return_, 1)])
set_option maxRecDepth 100000 in
theorem eX5_init : zdec mX5_init := by unfold zdec; decide +kernel
theorem fX5_init : zMF mX5_init 0 := ⟨ztb_t (zt2 _ (List.mem_of_getElem? (i := 83) rfl)) rfl, ztb_t (zt1 _ (List.mem_of_getElem? (i := 12) rfl)) rfl, by decide +kernel, by decide⟩
def mX5_begin : zM := (yX5_begin, cX5_begin, 3, none, [(0, .iconst 0, 1), (1, .istore_n 2, 1), (2, .iload_n 2, 1), (3, .bipush 6, 2), (5, .if_icmp .ge 28, 3), (8, .aload_n 0, 1), (9, .getfield 9, 3), (12, .iload_n 2, 1), (13, .aload_n 1, 1), (14, .getfield 44, 3), (17, .iload_n 2, 1), (18, .iaload, 1), (19, .iastore, 1), (20, .aload_n 0, 1), (21, .getfield 15, 3), (24, .iload_n 2, 1), (25, .iconst 0, 1), (26, .iastore, 1), (27, .iinc 2 1, 3), (30, .goto (-28), 3), (33, .iconst 0, 1), (34, .istore_n 2, 1), (35, .iload_n 2, 1), (36, .bipush 6, 2), (38, .if_icmp .ge 21, 3), (41, .aload_n 0, 1), (42, .getfield 18, 3), (45, .iload_n 2, 1), (46, .aload_n 1, 1), (47, .getfield 47, 3), (50, .iload_n 2, 1), (51, .iaload, 1), (52, .iastore, 1), (53, .iinc 2 1, 3), (56, .goto (-21), 3), (59, .iconst 0, 1), (60, .istore_n 2, 1), (61, .iload_n 2, 1), (62, .iconst 5, 1), (63, .if_icmp .ge 49, 3), (66, .aload_n 0, 1), (67, .getfield 26, 3), (70, .iload_n 2, 1), (71, .aload_n 1, 1), (72, .getfield 48, 3), (75, .iload_n 2, 1), (76, .iaload, 1), (77, .iastore, 1), (78, .aload_n 0, 1), (79, .getfield 29, 3), (82, .iload_n 2, 1), (83, .iconst 0, 1), (84, .iastore, 1), (85, .aload_n 0, 1), (86, .getfield 32, 3), (89, .iload_n 2, 1), (90, .iconst 0, 1), (91, .iastore, 1), (92, .aload_n 0, 1), (93, .getfield 35, 3), (96, .iload_n 2, 1), (97, .aload_n 1, 1), (98, .getfield 49, 3), (101, .iconst 1, 1), (102, .iaload, 1), (103, .iconst 1, 1), (104, .isub, 1), (105, .iastore, 1), (106, .iinc 2 1, 3), (109, .goto (-48), 3), (112, .aload_n 0, 1), (113, .invokevirtual 52, 3), (116, .aload_n 0, 1), (117, .iconst 0, 1), (118, .putfield 55, 3), (121, .aload_n 0, 1), (122, .iconst (-1), 1), (123, .putfield 59, 3), (126, .aload_n 0, 1), (127, .iconst 0, 1), (128, .putfield 62, 3), (131, .aload_n 0, 1), (132, .iconst 0, 1), (133, .putfield 65, 3), (136, .aload_n 0, 1), (137, .iconst (-1), 1), (138, .putfield 68, 3), (141, .return_, 1)])
set_option maxRecDepth 100000 in
theorem eX5_begin : zdec mX5_begin := by unfold zdec; decide +kernel
theorem fX5_begin : zMF mX5_begin 1 := ⟨ztb_t (zt2 _ (List.mem_of_getElem? (i := 164) rfl)) rfl, ztb_t (zt1 _ (List.mem_of_getElem? (i := 12) rfl)) rfl, by decide +kernel, by decide⟩
def mX5_copy : zM := (yX5_copy, cX5_copy, 3, none, [(0, .aload_n 1, 1), (1, .getfield 9, 3), (4, .iconst 0, 1), (5, .aload_n 0, 1), (6, .getfield 9, 3), (9, .iconst 0, 1), (10, .bipush 6, 2), (12, .invokestatic 71, 3), (15, .aload_n 1, 1), (16, .getfield 15, 3), (19, .iconst 0, 1), (20, .aload_n 0, 1), (21, .getfield 15, 3), (24, .iconst 0, 1), (25, .bipush 6, 2), (27, .invokestatic 71, 3), (30, .aload_n 1, 1), (31, .getfield 18, 3), (34, .iconst 0, 1), (35, .aload_n 0, 1), (36, .getfield 18, 3), (39, .iconst 0, 1), (40, .bipush 6, 2), (42, .invokestatic 71, 3), (45, .iconst 0, 1), (46, .istore_n 2, 1), (47, .iload_n 2, 1), (48, .bipush 6, 2), (50, .if_icmp .ge 28, 3), (53, .aload_n 1, 1), (54, .getfield 23, 3), (57, .iload_n 2, 1), (58, .aaload, 1), (59, .iconst 0, 1), (60, .aload_n 0, 1), (61, .getfield 23, 3), (64, .iload_n 2, 1), (65, .aaload, 1), (66, .iconst 0, 1), (67, .bipush 6, 2), (69, .invokestatic 71, 3), (72, .iinc 2 1, 3), (75, .goto (-28), 3), (78, .aload_n 1, 1), (79, .getfield 26, 3), (82, .iconst 0, 1), (83, .aload_n 0, 1), (84, .getfield 26, 3), (87, .iconst 0, 1), (88, .iconst 5, 1), (89, .invokestatic 71, 3), (92, .aload_n 1, 1), (93, .getfield 29, 3), (96, .iconst 0, 1), (97, .aload_n 0, 1), (98, .getfield 29, 3), (101, .iconst 0, 1), (102, .iconst 5, 1), (103, .invokestatic 71, 3), (106, .aload_n 1, 1), (107, .getfield 32, 3), (110, .iconst 0, 1), (111, .aload_n 0, 1), (112, .getfield 32, 3), (115, .iconst 0, 1), (116, .iconst 5, 1), (117, .invokestatic 71, 3), (120, .aload_n 1, 1), (121, .getfield 35, 3), (124, .iconst 0, 1), (125, .aload_n 0, 1), (126, .getfield 35, 3), (129, .iconst 0, 1), (130, .iconst 5, 1), (131, .invokestatic 71, 3), (134, .aload_n 0, 1), (135, .aload_n 1, 1), (136, .getfield 55, 3), (139, .putfield 55, 3), (142, .aload_n 0, 1), (143, .aload_n 1, 1), (144, .getfield 59, 3), (147, .putfield 59, 3), (150, .aload_n 0, 1), (151, .aload_n 1, 1), (152, .getfield 62, 3), (155, .putfield 62, 3), (158, .aload_n 0, 1), (159, .aload_n 1, 1), (160, .getfield 65, 3), (163, .putfield 65, 3), (166, .aload_n 0, 1), (167, .aload_n 1, 1), (168, .getfield 68, 3), (171, .putfield 68, 3), (174, .return_, 1)])
set_option maxRecDepth 100000 in
theorem eX5_copy : zdec mX5_copy := by unfold zdec; decide +kernel
theorem fX5_copy : zMF mX5_copy 1 := ⟨ztb_t (zt4 _ (List.mem_of_getElem? (i := 119) rfl)) rfl, ztb_t (zt1 _ (List.mem_of_getElem? (i := 12) rfl)) rfl, by decide +kernel, by decide⟩
def mX5_clearAir : zM := (yX5_clearAir, cX5_clearAir, 3, none, [(0, .iconst 0, 1), (1, .istore_n 1, 1), (2, .iload_n 1, 1), (3, .bipush 6, 2), (5, .if_icmp .ge 32, 3), (8, .iconst 0, 1), (9, .istore_n 2, 1), (10, .iload_n 2, 1), (11, .bipush 6, 2), (13, .if_icmp .ge 18, 3), (16, .aload_n 0, 1), (17, .getfield 23, 3), (20, .iload_n 1, 1), (21, .aaload, 1), (22, .iload_n 2, 1), (23, .iconst 0, 1), (24, .iastore, 1), (25, .iinc 2 1, 3), (28, .goto (-18), 3), (31, .iinc 1 1, 3), (34, .goto (-32), 3), (37, .return_, 1)])
set_option maxRecDepth 100000 in
theorem eX5_clearAir : zdec mX5_clearAir := by unfold zdec; decide +kernel
theorem fX5_clearAir : zMF mX5_clearAir 0 := ⟨ztb_t (zt2 _ (List.mem_of_getElem? (i := 168) rfl)) rfl, ztb_t (zt1 _ (List.mem_of_getElem? (i := 12) rfl)) rfl, by decide +kernel, by decide⟩
def mX5_goThroughMorning : zM := (yX5_goThroughMorning, cX5_goThroughMorning, 3, none, [(0, .aload_n 0, 1), (1, .aload_n 1, 1), (2, .invokevirtual 77, 3), (5, .aload_n 0, 1), (6, .aload_n 1, 1), (7, .invokevirtual 81, 3), (10, .iconst 0, 1), (11, .istore_n 2, 1), (12, .iload_n 2, 1), (13, .aload_n 1, 1), (14, .getfield 49, 3), (17, .iconst 3, 1), (18, .iaload, 1), (19, .if_icmp .ge 27, 3), (22, .aload_n 0, 1), (23, .aload_n 1, 1), (24, .iload_n 2, 1), (25, .aload_n 0, 1), (26, .aload_n 1, 1), (27, .iload_n 2, 1), (28, .aload_n 0, 1), (29, .getfield 26, 3), (32, .iload_n 2, 1), (33, .iaload, 1), (34, .invokevirtual 84, 3), (37, .invokevirtual 88, 3), (40, .iinc 2 1, 3), (43, .goto (-31), 3), (46, .aload_n 0, 1), (47, .aload_n 1, 1), (48, .invokevirtual 92, 3), (51, .iconst 0, 1), (52, .istore_n 2, 1), (53, .iload_n 2, 1), (54, .bipush 6, 2), (56, .if_icmp .ge 16, 3), (59, .aload_n 0, 1), (60, .getfield 15, 3), (63, .iload_n 2, 1), (64, .iconst 0, 1), (65, .iastore, 1), (66, .iinc 2 1, 3), (69, .goto (-16), 3), (72, .aload_n 0, 1), (73, .dup, 1), (74, .getfield 55, 3), (77, .iconst 1, 1), (78, .iadd, 1), (79, .putfield 55, 3), (82, .return_, 1)])
set_option maxRecDepth 100000 in
theorem eX5_goThroughMorning : zdec mX5_goThroughMorning := by unfold zdec; decide +kernel
theorem fX5_goThroughMorning : zMF mX5_goThroughMorning 1 := ⟨ztb_t (zt4 _ (List.mem_of_getElem? (i := 47) rfl)) rfl, ztb_t (zt1 _ (List.mem_of_getElem? (i := 12) rfl)) rfl, by decide +kernel, by decide⟩
def mX5_firstShort : zM := (yX5_firstShort, cX5_firstShort, 3, (some FieldType.int), [(0, .iconst 0, 1), (1, .istore_n 2, 1), (2, .iload_n 2, 1), (3, .aload_n 1, 1), (4, .getfield 49, 3), (7, .iconst 0, 1), (8, .iaload, 1), (9, .if_icmp .ge 29, 3), (12, .aload_n 1, 1), (13, .aload_n 0, 1), (14, .getfield 55, 3), (17, .iload_n 2, 1), (18, .invokevirtual 95, 3), (21, .aload_n 0, 1), (22, .getfield 9, 3), (25, .iload_n 2, 1), (26, .iaload, 1), (27, .if_icmp .le 5, 3), (30, .iload_n 2, 1), (31, .ireturn, 1), (32, .iinc 2 1, 3), (35, .goto (-33), 3), (38, .iconst (-1), 1), (39, .ireturn, 1)])
set_option maxRecDepth 100000 in
theorem eX5_firstShort : zdec mX5_firstShort := by unfold zdec; decide +kernel
theorem fX5_firstShort : zMF mX5_firstShort 1 := ⟨ztb_t (zt4 _ (List.mem_of_getElem? (i := 126) rfl)) rfl, ztb_t (zt1 _ (List.mem_of_getElem? (i := 12) rfl)) rfl, by decide +kernel, by decide⟩
def mX5_takeOut : zM := (yX5_takeOut, cX5_takeOut, 3, none, [(0, .iconst 0, 1), (1, .istore_n 2, 1), (2, .iload_n 2, 1), (3, .aload_n 1, 1), (4, .getfield 49, 3), (7, .iconst 0, 1), (8, .iaload, 1), (9, .if_icmp .ge 48, 3), (12, .aload_n 0, 1), (13, .getfield 38, 3), (16, .iload_n 2, 1), (17, .aload_n 1, 1), (18, .aload_n 0, 1), (19, .getfield 55, 3), (22, .iload_n 2, 1), (23, .invokevirtual 95, 3), (26, .aload_n 0, 1), (27, .getfield 9, 3), (30, .iload_n 2, 1), (31, .iaload, 1), (32, .invokestatic 99, 3), (35, .iastore, 1), (36, .aload_n 0, 1), (37, .getfield 9, 3), (40, .iload_n 2, 1), (41, .dup2, 1), (42, .iaload, 1), (43, .aload_n 0, 1), (44, .getfield 38, 3), (47, .iload_n 2, 1), (48, .iaload, 1), (49, .isub, 1), (50, .iastore, 1), (51, .iinc 2 1, 3), (54, .goto (-52), 3), (57, .return_, 1)])
set_option maxRecDepth 100000 in
theorem eX5_takeOut : zdec mX5_takeOut := by unfold zdec; decide +kernel
theorem fX5_takeOut : zMF mX5_takeOut 1 := ⟨ztb_t (zt4 _ (List.mem_of_getElem? (i := 51) rfl)) rfl, ztb_t (zt1 _ (List.mem_of_getElem? (i := 12) rfl)) rfl, by decide +kernel, by decide⟩
def mX5_drift : zM := (yX5_drift, cX5_drift, 7, none, [(0, .iconst 0, 1), (1, .istore_n 2, 1), (2, .iload_n 2, 1), (3, .aload_n 1, 1), (4, .getfield 49, 3), (7, .iconst 2, 1), (8, .iaload, 1), (9, .if_icmp .ge 115, 3), (12, .iconst 0, 1), (13, .istore_n 3, 1), (14, .iload_n 3, 1), (15, .aload_n 1, 1), (16, .getfield 49, 3), (19, .iconst 0, 1), (20, .iaload, 1), (21, .if_icmp .ge 97, 3), (24, .aload_n 0, 1), (25, .aload_n 1, 1), (26, .iload_n 2, 1), (27, .iload_n 3, 1), (28, .aload_n 0, 1), (29, .getfield 38, 3), (32, .iload_n 3, 1), (33, .iaload, 1), (34, .invokevirtual 104, 3), (37, .lstore 4, 2), (39, .aload_n 0, 1), (40, .getfield 23, 3), (43, .iload_n 2, 1), (44, .aaload, 1), (45, .iload_n 3, 1), (46, .iaload, 1), (47, .aload_n 1, 1), (48, .getfield 108, 3), (51, .imul, 1), (52, .bipush 100, 2), (54, .idiv, 1), (55, .istore 6, 2), (57, .aload_n 0, 1), (58, .getfield 23, 3), (61, .iload_n 2, 1), (62, .aaload, 1), (63, .iload_n 3, 1), (64, .lload 4, 2), (66, .ldc2_w 111, 3), (69, .lcmp, 1), (70, .ifCond .ne 32, 3), (73, .aload_n 0, 1), (74, .getfield 38, 3), (77, .iload_n 3, 1), (78, .iaload, 1), (79, .aload_n 0, 1), (80, .getfield 18, 3), (83, .iload_n 2, 1), (84, .iaload, 1), (85, .imul, 1), (86, .bipush 100, 2), (88, .idiv, 1), (89, .iload 6, 2), (91, .iadd, 1), (92, .aload_n 0, 1), (93, .getfield 15, 3), (96, .iload_n 3, 1), (97, .iaload, 1), (98, .iadd, 1), (99, .goto 12, 3), (102, .lload 4, 2), (104, .iconst 0, 1), (105, .sipush 9999, 3), (108, .invokestatic 113, 3), (111, .iastore, 1), (112, .iinc 3 1, 3), (115, .goto (-101), 3), (118, .iinc 2 1, 3), (121, .goto (-119), 3), (124, .return_, 1)])
set_option maxRecDepth 100000 in
theorem eX5_drift : zdec mX5_drift := by unfold zdec; decide +kernel
theorem fX5_drift : zMF mX5_drift 1 := ⟨ztb_t (zt4 _ (List.mem_of_getElem? (i := 60) rfl)) rfl, ztb_t (zt1 _ (List.mem_of_getElem? (i := 12) rfl)) rfl, by decide +kernel, by decide⟩
def mX5_smellAndThink : zM := (yX5_smellAndThink, cX5_smellAndThink, 7, none, [(0, .aload_n 0, 1), (1, .getfield 32, 3), (4, .iload_n 2, 1), (5, .aload_n 1, 1), (6, .aload_n 0, 1), (7, .getfield 23, 3), (10, .aload_n 0, 1), (11, .getfield 26, 3), (14, .iload_n 2, 1), (15, .iaload, 1), (16, .aaload, 1), (17, .bipush 100, 2), (19, .iload_n 3, 1), (20, .aload_n 0, 1), (21, .getfield 29, 3), (24, .iload_n 2, 1), (25, .iaload, 1), (26, .invokevirtual 117, 3), (29, .iastore, 1), (30, .aload_n 1, 1), (31, .getfield 49, 3), (34, .iconst 1, 1), (35, .iaload, 1), (36, .istore 4, 2), (38, .iconst 1, 1), (39, .istore 5, 2), (41, .iload 5, 2), (43, .iload 4, 2), (45, .if_icmp .gt 50, 3), (48, .aload_n 0, 1), (49, .getfield 35, 3), (52, .iload_n 2, 1), (53, .iaload, 1), (54, .iload 5, 2), (56, .iadd, 1), (57, .iload 4, 2), (59, .irem, 1), (60, .istore 6, 2), (62, .aload_n 0, 1), (63, .aload_n 1, 1), (64, .iload_n 2, 1), (65, .iload 6, 2), (67, .iload_n 3, 1), (68, .invokevirtual 121, 3), (71, .aload_n 0, 1), (72, .getfield 32, 3), (75, .iload_n 2, 1), (76, .iaload, 1), (77, .if_icmp .ne 12, 3), (80, .aload_n 0, 1), (81, .getfield 35, 3), (84, .iload_n 2, 1), (85, .iload 6, 2), (87, .iastore, 1), (88, .return_, 1), (89, .iinc 5 1, 3), (92, .goto (-51), 3), (95, .iload 4, 2), (97, .ifCond .le 20, 3), (100, .aload_n 0, 1), (101, .getfield 35, 3), (104, .iload_n 2, 1), (105, .aload_n 0, 1), (106, .getfield 35, 3), (109, .iload_n 2, 1), (110, .iaload, 1), (111, .iconst 1, 1), (112, .iadd, 1), (113, .iload 4, 2), (115, .irem, 1), (116, .iastore, 1), (117, .return_, 1)])
set_option maxRecDepth 100000 in
theorem eX5_smellAndThink : zdec mX5_smellAndThink := by unfold zdec; decide +kernel
theorem fX5_smellAndThink : zMF mX5_smellAndThink 3 := ⟨ztb_t (zt4 _ (List.mem_of_getElem? (i := 66) rfl)) rfl, ztb_t (zt1 _ (List.mem_of_getElem? (i := 12) rfl)) rfl, by decide +kernel, by decide⟩
def mX5_vote : zM := (yX5_vote, cX5_vote, 4, none, [(0, .aload_n 1, 1), (1, .getfield 49, 3), (4, .iconst 1, 1), (5, .iaload, 1), (6, .istore_n 2, 1), (7, .iload_n 2, 1), (8, .ifCond .ne 4, 3), (11, .return_, 1), (12, .aload_n 0, 1), (13, .getfield 55, 3), (16, .iload_n 2, 1), (17, .irem, 1), (18, .istore_n 3, 1), (19, .aload_n 0, 1), (20, .aload_n 0, 1), (21, .aload_n 1, 1), (22, .iload_n 3, 1), (23, .invokevirtual 125, 3), (26, .putfield 59, 3), (29, .aload_n 0, 1), (30, .getfield 59, 3), (33, .iload_n 3, 1), (34, .if_icmp .ne 13, 3), (37, .aload_n 0, 1), (38, .dup, 1), (39, .getfield 62, 3), (42, .iconst 1, 1), (43, .iadd, 1), (44, .putfield 62, 3), (47, .aload_n 1, 1), (48, .getfield 129, 3), (51, .aload_n 0, 1), (52, .getfield 59, 3), (55, .baload, 1), (56, .aload_n 1, 1), (57, .getfield 129, 3), (60, .iload_n 3, 1), (61, .baload, 1), (62, .if_icmp .eq 13, 3), (65, .aload_n 0, 1), (66, .dup, 1), (67, .getfield 65, 3), (70, .iconst 1, 1), (71, .iadd, 1), (72, .putfield 65, 3), (75, .return_, 1)])
set_option maxRecDepth 100000 in
theorem eX5_vote : zdec mX5_vote := by unfold zdec; decide +kernel
theorem fX5_vote : zMF mX5_vote 1 := ⟨ztb_t (zt4 _ (List.mem_of_getElem? (i := 71) rfl)) rfl, ztb_t (zt1 _ (List.mem_of_getElem? (i := 12) rfl)) rfl, by decide +kernel, by decide⟩
def mX5_mostThought : zM := (yX5_mostThought, cX5_mostThought, 6, (some FieldType.int), [(0, .iconst 0, 1), (1, .istore_n 3, 1), (2, .iload_n 3, 1), (3, .bipush 8, 2), (5, .if_icmp .ge 16, 3), (8, .aload_n 0, 1), (9, .getfield 41, 3), (12, .iload_n 3, 1), (13, .iconst 0, 1), (14, .iastore, 1), (15, .iinc 3 1, 3), (18, .goto (-16), 3), (21, .iconst 0, 1), (22, .istore_n 3, 1), (23, .iload_n 3, 1), (24, .aload_n 1, 1), (25, .getfield 49, 3), (28, .iconst 3, 1), (29, .iaload, 1), (30, .if_icmp .ge 32, 3), (33, .iload_n 3, 1), (34, .aload_n 0, 1), (35, .getfield 68, 3), (38, .if_icmp .eq 18, 3), (41, .aload_n 0, 1), (42, .getfield 41, 3), (45, .aload_n 0, 1), (46, .getfield 35, 3), (49, .iload_n 3, 1), (50, .iaload, 1), (51, .dup2, 1), (52, .iaload, 1), (53, .iconst 1, 1), (54, .iadd, 1), (55, .iastore, 1), (56, .iinc 3 1, 3), (59, .goto (-36), 3), (62, .iload_n 2, 1), (63, .istore_n 3, 1), (64, .iconst 0, 1), (65, .istore 4, 2), (67, .iconst 0, 1), (68, .istore 5, 2), (70, .iload 5, 2), (72, .aload_n 1, 1), (73, .getfield 49, 3), (76, .iconst 1, 1), (77, .iaload, 1), (78, .if_icmp .ge 33, 3), (81, .aload_n 0, 1), (82, .getfield 41, 3), (85, .iload 5, 2), (87, .iaload, 1), (88, .iload 4, 2), (90, .if_icmp .le 15, 3), (93, .aload_n 0, 1), (94, .getfield 41, 3), (97, .iload 5, 2), (99, .iaload, 1), (100, .istore 4, 2), (102, .iload 5, 2), (104, .istore_n 3, 1), (105, .iinc 5 1, 3), (108, .goto (-38), 3), (111, .iload_n 3, 1), (112, .ireturn, 1)])
set_option maxRecDepth 100000 in
theorem eX5_mostThought : zdec mX5_mostThought := by unfold zdec; decide +kernel
theorem fX5_mostThought : zMF mX5_mostThought 2 := ⟨ztb_t (zt4 _ (List.mem_of_getElem? (i := 75) rfl)) rfl, ztb_t (zt1 _ (List.mem_of_getElem? (i := 12) rfl)) rfl, by decide +kernel, by decide⟩
def mX5_feastThinkers : zM := (yX5_feastThinkers, cX5_feastThinkers, 5, (some FieldType.int), [(0, .iconst 0, 1), (1, .istore_n 2, 1), (2, .iconst 0, 1), (3, .istore_n 3, 1), (4, .iload_n 3, 1), (5, .aload_n 1, 1), (6, .getfield 49, 3), (9, .iconst 3, 1), (10, .iaload, 1), (11, .if_icmp .ge 35, 3), (14, .aload_n 0, 1), (15, .getfield 35, 3), (18, .iload_n 3, 1), (19, .iaload, 1), (20, .istore 4, 2), (22, .iload 4, 2), (24, .ifCond .lt 16, 3), (27, .aload_n 1, 1), (28, .getfield 129, 3), (31, .iload 4, 2), (33, .baload, 1), (34, .ifCond .eq 6, 3), (37, .iinc 2 1, 3), (40, .iinc 3 1, 3), (43, .goto (-39), 3), (46, .iload_n 2, 1), (47, .ireturn, 1)])
set_option maxRecDepth 100000 in
theorem eX5_feastThinkers : zdec mX5_feastThinkers := by unfold zdec; decide +kernel
theorem fX5_feastThinkers : zMF mX5_feastThinkers 1 := ⟨ztb_t (zt4 _ (List.mem_of_getElem? (i := 169) rfl)) rfl, ztb_t (zt1 _ (List.mem_of_getElem? (i := 12) rfl)) rfl, by decide +kernel, by decide⟩
def mX5_markOf : zM := (yX5_markOf, cX5_markOf, 5, (some FieldType.int), [(0, .aload_n 1, 1), (1, .aload_n 1, 1), (2, .getfield 133, 3), (5, .iload_n 3, 1), (6, .aaload, 1), (7, .aload_n 0, 1), (8, .getfield 18, 3), (11, .aload_n 0, 1), (12, .getfield 26, 3), (15, .iload_n 2, 1), (16, .iaload, 1), (17, .iaload, 1), (18, .iload 4, 2), (20, .aload_n 0, 1), (21, .getfield 29, 3), (24, .iload_n 2, 1), (25, .iaload, 1), (26, .invokevirtual 117, 3), (29, .ireturn, 1)])
set_option maxRecDepth 100000 in
theorem eX5_markOf : zdec mX5_markOf := by unfold zdec; decide +kernel
theorem fX5_markOf : zMF mX5_markOf 4 := ⟨ztb_t (zt4 _ (List.mem_of_getElem? (i := 0) rfl)) rfl, ztb_t (zt1 _ (List.mem_of_getElem? (i := 12) rfl)) rfl, by decide +kernel, by decide⟩
def mX5_airLaw : zM := (yX5_airLaw, cX5_airLaw, 5, (some FieldType.long), [(0, .aload_n 1, 1), (1, .getfield 136, 3), (4, .iload 4, 2), (6, .aload_n 0, 1), (7, .getfield 18, 3), (10, .iload_n 2, 1), (11, .iaload, 1), (12, .aload_n 0, 1), (13, .getfield 23, 3), (16, .iload_n 2, 1), (17, .aaload, 1), (18, .iload_n 3, 1), (19, .iaload, 1), (20, .aload_n 0, 1), (21, .getfield 15, 3), (24, .iload_n 3, 1), (25, .iaload, 1), (26, .aload_n 0, 1), (27, .getfield 55, 3), (30, .iload_n 2, 1), (31, .iconst 0, 1), (32, .invokevirtual 140, 3), (35, .aload_n 1, 1), (36, .getfield 136, 3), (39, .iconst 0, 1), (40, .invokevirtual 146, 3), (43, .lreturn, 1)])
set_option maxRecDepth 100000 in
theorem eX5_airLaw : zdec mX5_airLaw := by unfold zdec; decide +kernel
theorem fX5_airLaw : zMF mX5_airLaw 4 := ⟨ztb_t (zt4 _ (List.mem_of_getElem? (i := 12) rfl)) rfl, ztb_t (zt1 _ (List.mem_of_getElem? (i := 12) rfl)) rfl, by decide +kernel, by decide⟩
def mX5_keenLaw : zM := (yX5_keenLaw, cX5_keenLaw, 4, (some FieldType.long), [(0, .aload_n 1, 1), (1, .getfield 136, 3), (4, .iconst 0, 1), (5, .aload_n 0, 1), (6, .getfield 18, 3), (9, .iload_n 3, 1), (10, .iaload, 1), (11, .iconst 0, 1), (12, .iconst 0, 1), (13, .aload_n 0, 1), (14, .getfield 55, 3), (17, .iload_n 3, 1), (18, .aload_n 1, 1), (19, .getfield 150, 3), (22, .iload_n 2, 1), (23, .iaload, 1), (24, .invokevirtual 140, 3), (27, .aload_n 1, 1), (28, .getfield 136, 3), (31, .iconst 1, 1), (32, .invokevirtual 146, 3), (35, .lreturn, 1)])
set_option maxRecDepth 100000 in
theorem eX5_keenLaw : zdec mX5_keenLaw := by unfold zdec; decide +kernel
theorem fX5_keenLaw : zMF mX5_keenLaw 3 := ⟨ztb_t (zt3 _ (List.mem_of_getElem? (i := 236) rfl)) rfl, ztb_t (zt1 _ (List.mem_of_getElem? (i := 12) rfl)) rfl, by decide +kernel, by decide⟩
def mX5_worthLaw : zM := (yX5_worthLaw, cX5_worthLaw, 3, (some FieldType.long), [(0, .aload_n 1, 1), (1, .getfield 136, 3), (4, .aload_n 0, 1), (5, .getfield 9, 3), (8, .iload_n 2, 1), (9, .iaload, 1), (10, .iconst 0, 1), (11, .iconst 0, 1), (12, .iconst 0, 1), (13, .aload_n 0, 1), (14, .getfield 55, 3), (17, .iconst 0, 1), (18, .iconst 0, 1), (19, .invokevirtual 140, 3), (22, .aload_n 1, 1), (23, .getfield 136, 3), (26, .iconst 2, 1), (27, .invokevirtual 146, 3), (30, .lreturn, 1)])
set_option maxRecDepth 100000 in
theorem eX5_worthLaw : zdec mX5_worthLaw := by unfold zdec; decide +kernel
theorem fX5_worthLaw : zMF mX5_worthLaw 2 := ⟨ztb_t (zt3 _ (List.mem_of_getElem? (i := 181) rfl)) rfl, ztb_t (zt1 _ (List.mem_of_getElem? (i := 12) rfl)) rfl, by decide +kernel, by decide⟩
def mX5_keenOf : zM := (yX5_keenOf, cX5_keenOf, 6, (some FieldType.int), [(0, .aload_n 0, 1), (1, .aload_n 1, 1), (2, .iload_n 2, 1), (3, .iload_n 3, 1), (4, .invokevirtual 153, 3), (7, .lstore 4, 2), (9, .lload 4, 2), (11, .ldc2_w 111, 3), (14, .lcmp, 1), (15, .ifCond .ne 12, 3), (18, .aload_n 1, 1), (19, .getfield 150, 3), (22, .iload_n 2, 1), (23, .iaload, 1), (24, .goto 11, 3), (27, .lload 4, 2), (29, .iconst 1, 1), (30, .bipush 99, 2), (32, .invokestatic 113, 3), (35, .ireturn, 1)])
set_option maxRecDepth 100000 in
theorem eX5_keenOf : zdec mX5_keenOf := by unfold zdec; decide +kernel
theorem fX5_keenOf : zMF mX5_keenOf 3 := ⟨ztb_t (zt3 _ (List.mem_of_getElem? (i := 232) rfl)) rfl, ztb_t (zt1 _ (List.mem_of_getElem? (i := 12) rfl)) rfl, by decide +kernel, by decide⟩
def mX5_worthOf : zM := (yX5_worthOf, cX5_worthOf, 5, (some FieldType.int), [(0, .aload_n 0, 1), (1, .aload_n 1, 1), (2, .iload_n 2, 1), (3, .invokevirtual 157, 3), (6, .lstore_n 3, 1), (7, .lload_n 3, 1), (8, .ldc2_w 111, 3), (11, .lcmp, 1), (12, .ifCond .ne 7, 3), (15, .iconst 1, 1), (16, .goto 11, 3), (19, .lload_n 3, 1), (20, .iconst 0, 1), (21, .sipush 999, 3), (24, .invokestatic 113, 3), (27, .ireturn, 1)])
set_option maxRecDepth 100000 in
theorem eX5_worthOf : zdec mX5_worthOf := by unfold zdec; decide +kernel
theorem fX5_worthOf : zMF mX5_worthOf 2 := ⟨ztb_t (zt3 _ (List.mem_of_getElem? (i := 177) rfl)) rfl, ztb_t (zt1 _ (List.mem_of_getElem? (i := 12) rfl)) rfl, by decide +kernel, by decide⟩
def mX5_within : zM := (yX5_within, cX5_within, 4, (some FieldType.int), [(0, .iload_n 2, 1), (1, .i2l, 1), (2, .iload_n 3, 1), (3, .i2l, 1), (4, .lload_n 0, 1), (5, .invokestatic 161, 3), (8, .invokestatic 164, 3), (11, .l2i, 1), (12, .ireturn, 1)])
set_option maxRecDepth 100000 in
theorem eX5_within : zdec mX5_within := by unfold zdec; decide +kernel
theorem fX5_within : zMF mX5_within 3 := ⟨ztb_t (zt3 _ (List.mem_of_getElem? (i := 202) rfl)) rfl, ztb_t (zt1 _ (List.mem_of_getElem? (i := 12) rfl)) rfl, by decide +kernel, by decide⟩
def mX6_strength : zM := (yX6_strength, cX6_strength, 1, (some FieldType.int), [(0, .iload_n 0, 1), (1, .tableswitch 106 12 31 #[95, 97, 99, 106, 106, 106, 106, 106, 106, 106, 106, 106, 106, 106, 106, 106, 101, 101, 103, 103], 95), (96, .iconst 1, 1), (97, .ireturn, 1), (98, .iconst 2, 1), (99, .ireturn, 1), (100, .iconst 3, 1), (101, .ireturn, 1), (102, .iconst 5, 1), (103, .ireturn, 1), (104, .bipush 6, 2), (106, .ireturn, 1), (107, .iload_n 0, 1), (108, .bipush 22, 2), (110, .if_icmp .lt 13, 3), (113, .iload_n 0, 1), (114, .bipush 27, 2), (116, .if_icmp .gt 7, 3), (119, .iconst 4, 1), (120, .goto 4, 3), (123, .iconst 0, 1), (124, .ireturn, 1)])
set_option maxRecDepth 100000 in
theorem eX6_strength : zdec mX6_strength := by unfold zdec; decide +kernel
theorem fX6_strength : zMF mX6_strength 1 := ⟨ztb_t (zt3 _ (List.mem_of_getElem? (i := 132) rfl)) rfl, ztb_t (zt1 _ (List.mem_of_getElem? (i := 16) rfl)) rfl, by decide +kernel, by decide⟩
def mX7_init : zM := (yX7_init, cX7_init, 1, none, [(0, .aload_n 0, 1), (1, .invokespecial 3, 3), (4, .aload_n 0, 1), (5, .iconst 4, 1), (6, .newarray .int, 2), (8, .putfield 9, 3), (11, .aload_n 0, 1), (12, .iconst 4, 1), (13, .bipush 8, 2), (15, .multianewarray 15 2, 4), (19, .putfield 17, 3), (22, .aload_n 0, 1), (23, .bipush 6, 2), (25, .newarray .int, 2), (27, .putfield 20, 3), (30, .aload_n 0, 1), (31, .bipush 8, 2), (33, .newarray .boolean, 2), (35, .putfield 23, 3), (38, .aload_n 0, 1), (39, .bipush 8, 2), (41, .bipush 6, 2), (43, .multianewarray 15 2, 4), (47, .putfield 27, 3), (50, .aload_n 0, 1), (51, .bipush 6, 2), (53, .newarray .int, 2), (55, .putfield 30, 3), (58, .aload_n 0, 1), (59, .iconst 5, 1), (60, .newarray .int, 2), (62, .putfield 33, 3), (65, .aload_n 0, 1), (66, .iconst 5, 1), (67, .newarray .int, 2), (69, .putfield 36, 3), (72, .aload_n 0, 1), (73, .new 39, 3), (76, .dup, 1), (77, .invokespecial 41, 3), (80, .putfield 42, 3), (83, .return_, 1)])
set_option maxRecDepth 100000 in
theorem eX7_init : zdec mX7_init := by unfold zdec; decide +kernel
theorem fX7_init : zMF mX7_init 0 := ⟨ztb_t (zt1 _ (List.mem_of_getElem? (i := 127) rfl)) rfl, ztb_t (zt1 _ (List.mem_of_getElem? (i := 8) rfl)) rfl, by decide +kernel, by decide⟩
def mX7_clear : zM := (yX7_clear, cX7_clear, 3, none, [(0, .iconst 0, 1), (1, .istore_n 1, 1), (2, .iload_n 1, 1), (3, .aload_n 0, 1), (4, .getfield 9, 3), (7, .arraylength, 1), (8, .if_icmp .ge 16, 3), (11, .aload_n 0, 1), (12, .getfield 9, 3), (15, .iload_n 1, 1), (16, .iconst 0, 1), (17, .iastore, 1), (18, .iinc 1 1, 3), (21, .goto (-19), 3), (24, .iconst 0, 1), (25, .istore_n 1, 1), (26, .iload_n 1, 1), (27, .bipush 8, 2), (29, .if_icmp .ge 39, 3), (32, .aload_n 0, 1), (33, .getfield 23, 3), (36, .iload_n 1, 1), (37, .iconst 0, 1), (38, .bastore, 1), (39, .iconst 0, 1), (40, .istore_n 2, 1), (41, .iload_n 2, 1), (42, .bipush 6, 2), (44, .if_icmp .ge 18, 3), (47, .aload_n 0, 1), (48, .getfield 27, 3), (51, .iload_n 1, 1), (52, .aaload, 1), (53, .iload_n 2, 1), (54, .iconst 0, 1), (55, .iastore, 1), (56, .iinc 2 1, 3), (59, .goto (-18), 3), (62, .iinc 1 1, 3), (65, .goto (-39), 3), (68, .aload_n 0, 1), (69, .getfield 42, 3), (72, .invokevirtual 46, 3), (75, .aload_n 0, 1), (76, .iconst 0, 1), (77, .putfield 49, 3), (80, .aload_n 0, 1), (81, .iconst 0, 1), (82, .putfield 53, 3), (85, .aload_n 0, 1), (86, .iconst 0, 1), (87, .putfield 56, 3), (90, .aload_n 0, 1), (91, .iconst 0, 1), (92, .putfield 60, 3), (95, .return_, 1)])
set_option maxRecDepth 100000 in
theorem eX7_clear : zdec mX7_clear := by unfold zdec; decide +kernel
theorem fX7_clear : zMF mX7_clear 0 := ⟨ztb_t (zt2 _ (List.mem_of_getElem? (i := 231) rfl)) rfl, ztb_t (zt1 _ (List.mem_of_getElem? (i := 8) rfl)) rfl, by decide +kernel, by decide⟩
def mX7_numberOf : zM := (yX7_numberOf, cX7_numberOf, 4, (some FieldType.int), [(0, .iconst 0, 1), (1, .istore_n 3, 1), (2, .iload_n 3, 1), (3, .aload_n 0, 1), (4, .getfield 9, 3), (7, .iload_n 1, 1), (8, .iaload, 1), (9, .if_icmp .ge 23, 3), (12, .aload_n 0, 1), (13, .getfield 17, 3), (16, .iload_n 1, 1), (17, .aaload, 1), (18, .iload_n 3, 1), (19, .iaload, 1), (20, .iload_n 2, 1), (21, .if_icmp .ne 5, 3), (24, .iload_n 3, 1), (25, .ireturn, 1), (26, .iinc 3 1, 3), (29, .goto (-27), 3), (32, .iconst (-1), 1), (33, .ireturn, 1)])
set_option maxRecDepth 100000 in
theorem eX7_numberOf : zdec mX7_numberOf := by unfold zdec; decide +kernel
theorem fX7_numberOf : zMF mX7_numberOf 2 := ⟨ztb_t (zt3 _ (List.mem_of_getElem? (i := 56) rfl)) rfl, ztb_t (zt1 _ (List.mem_of_getElem? (i := 8) rfl)) rfl, by decide +kernel, by decide⟩
def mX7_mixedOn : zM := (yX7_mixedOn, cX7_mixedOn, 4, (some FieldType.int), [(0, .aload_n 0, 1), (1, .getfield 9, 3), (4, .iconst 1, 1), (5, .iaload, 1), (6, .istore_n 3, 1), (7, .iload_n 3, 1), (8, .ifCond .le 16, 3), (11, .aload_n 0, 1), (12, .getfield 27, 3), (15, .iload_n 1, 1), (16, .iload_n 3, 1), (17, .irem, 1), (18, .aaload, 1), (19, .iload_n 2, 1), (20, .iaload, 1), (21, .goto 4, 3), (24, .iconst 0, 1), (25, .ireturn, 1)])
set_option maxRecDepth 100000 in
theorem eX7_mixedOn : zdec mX7_mixedOn := by unfold zdec; decide +kernel
theorem fX7_mixedOn : zMF mX7_mixedOn 2 := ⟨ztb_t (zt4 _ (List.mem_of_getElem? (i := 55) rfl)) rfl, ztb_t (zt1 _ (List.mem_of_getElem? (i := 8) rfl)) rfl, by decide +kernel, by decide⟩
def mX7_smelt : zM := (yX7_smelt, cX7_smelt, 7, (some FieldType.int), [(0, .iconst 0, 1), (1, .istore 5, 2), (3, .iconst 0, 1), (4, .istore 6, 2), (6, .iload 6, 2), (8, .aload_n 0, 1), (9, .getfield 9, 3), (12, .iconst 0, 1), (13, .iaload, 1), (14, .if_icmp .ge 31, 3), (17, .aload_n 1, 1), (18, .iload 6, 2), (20, .iaload, 1), (21, .iload_n 2, 1), (22, .imul, 1), (23, .bipush 100, 2), (25, .idiv, 1), (26, .iload_n 3, 1), (27, .if_icmp .lt 12, 3), (30, .iload 5, 2), (32, .iconst 1, 1), (33, .iload 6, 2), (35, .ishl, 1), (36, .ior, 1), (37, .istore 5, 2), (39, .iinc 6 1, 3), (42, .goto (-36), 3), (45, .iload 5, 2), (47, .iload 4, 2), (49, .iconst (-1), 1), (50, .ixor, 1), (51, .iand, 1), (52, .ireturn, 1)])
set_option maxRecDepth 100000 in
theorem eX7_smelt : zdec mX7_smelt := by unfold zdec; decide +kernel
theorem fX7_smelt : zMF mX7_smelt 4 := ⟨ztb_t (zt4 _ (List.mem_of_getElem? (i := 4) rfl)) rfl, ztb_t (zt1 _ (List.mem_of_getElem? (i := 8) rfl)) rfl, by decide +kernel, by decide⟩
def mX8_init : zM := (yX8_init, cX8_init, 1, none, [(0, .aload_n 0, 1), (1, .invokespecial 3, 3), (4, .aload_n 0, 1), (5, .bipush 20, 2), (7, .newarray .int, 2), (9, .putfield 9, 3), (12, .aload_n 0, 1), (13, .bipush 20, 2), (15, .newarray .int, 2), (17, .putfield 15, 3), (20, .aload_n 0, 1), (21, .bipush 20, 2), (23, .newarray .int, 2), (25, .putfield 18, 3), (28, .return_, 1)])
set_option maxRecDepth 100000 in
theorem eX8_init : zdec mX8_init := by unfold zdec; decide +kernel
theorem fX8_init : zMF mX8_init 0 := ⟨ztb_t (zt2 _ (List.mem_of_getElem? (i := 63) rfl)) rfl, ztb_t (zt1 _ (List.mem_of_getElem? (i := 11) rfl)) rfl, by decide +kernel, by decide⟩
def mX8_clear : zM := (yX8_clear, cX8_clear, 1, none, [(0, .aload_n 0, 1), (1, .iconst 0, 1), (2, .putfield 21, 3), (5, .return_, 1)])
set_option maxRecDepth 100000 in
theorem eX8_clear : zdec mX8_clear := by unfold zdec; decide +kernel
theorem fX8_clear : zMF mX8_clear 0 := ⟨ztb_t (zt3 _ (List.mem_of_getElem? (i := 156) rfl)) rfl, ztb_t (zt1 _ (List.mem_of_getElem? (i := 11) rfl)) rfl, by decide +kernel, by decide⟩
def mX8_add : zM := (yX8_add, cX8_add, 4, none, [(0, .aload_n 0, 1), (1, .getfield 21, 3), (4, .bipush 20, 2), (6, .if_icmp .ne 7, 3), (9, .aload_n 0, 1), (10, .invokevirtual 25, 3), (13, .aload_n 0, 1), (14, .getfield 9, 3), (17, .aload_n 0, 1), (18, .getfield 21, 3), (21, .iload_n 1, 1), (22, .iastore, 1), (23, .aload_n 0, 1), (24, .getfield 15, 3), (27, .aload_n 0, 1), (28, .getfield 21, 3), (31, .iload_n 2, 1), (32, .iastore, 1), (33, .aload_n 0, 1), (34, .getfield 18, 3), (37, .aload_n 0, 1), (38, .getfield 21, 3), (41, .iload_n 3, 1), (42, .iastore, 1), (43, .aload_n 0, 1), (44, .dup, 1), (45, .getfield 21, 3), (48, .iconst 1, 1), (49, .iadd, 1), (50, .putfield 21, 3), (53, .return_, 1)])
set_option maxRecDepth 100000 in
theorem eX8_add : zdec mX8_add := by unfold zdec; decide +kernel
theorem fX8_add : zMF mX8_add 3 := ⟨ztb_t (zt4 _ (List.mem_of_getElem? (i := 23) rfl)) rfl, ztb_t (zt1 _ (List.mem_of_getElem? (i := 11) rfl)) rfl, by decide +kernel, by decide⟩
def mX8_forgetOldest : zM := (yX8_forgetOldest, cX8_forgetOldest, 2, none, [(0, .iconst 1, 1), (1, .istore_n 1, 1), (2, .iload_n 1, 1), (3, .aload_n 0, 1), (4, .getfield 21, 3), (7, .if_icmp .ge 51, 3), (10, .aload_n 0, 1), (11, .getfield 9, 3), (14, .iload_n 1, 1), (15, .iconst 1, 1), (16, .isub, 1), (17, .aload_n 0, 1), (18, .getfield 9, 3), (21, .iload_n 1, 1), (22, .iaload, 1), (23, .iastore, 1), (24, .aload_n 0, 1), (25, .getfield 15, 3), (28, .iload_n 1, 1), (29, .iconst 1, 1), (30, .isub, 1), (31, .aload_n 0, 1), (32, .getfield 15, 3), (35, .iload_n 1, 1), (36, .iaload, 1), (37, .iastore, 1), (38, .aload_n 0, 1), (39, .getfield 18, 3), (42, .iload_n 1, 1), (43, .iconst 1, 1), (44, .isub, 1), (45, .aload_n 0, 1), (46, .getfield 18, 3), (49, .iload_n 1, 1), (50, .iaload, 1), (51, .iastore, 1), (52, .iinc 1 1, 3), (55, .goto (-53), 3), (58, .aload_n 0, 1), (59, .dup, 1), (60, .getfield 21, 3), (63, .iconst 1, 1), (64, .isub, 1), (65, .putfield 21, 3), (68, .return_, 1)])
set_option maxRecDepth 100000 in
theorem eX8_forgetOldest : zdec mX8_forgetOldest := by unfold zdec; decide +kernel
theorem fX8_forgetOldest : zMF mX8_forgetOldest 0 := ⟨ztb_t (zt4 _ (List.mem_of_getElem? (i := 27) rfl)) rfl, ztb_t (zt1 _ (List.mem_of_getElem? (i := 11) rfl)) rfl, by decide +kernel, by decide⟩
def mX8_takeBack : zM := (yX8_takeBack, cX8_takeBack, 3, (some FieldType.int), [(0, .aload_n 0, 1), (1, .getfield 21, 3), (4, .ifCond .ne 5, 3), (7, .iconst (-1), 1), (8, .ireturn, 1), (9, .aload_n 0, 1), (10, .dup, 1), (11, .getfield 21, 3), (14, .iconst 1, 1), (15, .isub, 1), (16, .putfield 21, 3), (19, .aload_n 0, 1), (20, .getfield 15, 3), (23, .aload_n 0, 1), (24, .getfield 21, 3), (27, .iaload, 1), (28, .istore_n 2, 1), (29, .aload_n 0, 1), (30, .getfield 9, 3), (33, .aload_n 0, 1), (34, .getfield 21, 3), (37, .iaload, 1), (38, .tableswitch 80 0 2 #[26, 44, 62], 26), (64, .aload_n 1, 1), (65, .getfield 28, 3), (68, .iload_n 2, 1), (69, .aload_n 0, 1), (70, .getfield 18, 3), (73, .aload_n 0, 1), (74, .getfield 21, 3), (77, .iaload, 1), (78, .iastore, 1), (79, .goto 54, 3), (82, .aload_n 1, 1), (83, .getfield 33, 3), (86, .iload_n 2, 1), (87, .aload_n 0, 1), (88, .getfield 18, 3), (91, .aload_n 0, 1), (92, .getfield 21, 3), (95, .iaload, 1), (96, .iastore, 1), (97, .goto 36, 3), (100, .aload_n 1, 1), (101, .getfield 36, 3), (104, .iload_n 2, 1), (105, .aload_n 0, 1), (106, .getfield 18, 3), (109, .aload_n 0, 1), (110, .getfield 21, 3), (113, .iaload, 1), (114, .iastore, 1), (115, .goto 18, 3), (118, .aload_n 1, 1), (119, .getfield 39, 3), (122, .iload_n 2, 1), (123, .aload_n 0, 1), (124, .getfield 18, 3), (127, .aload_n 0, 1), (128, .getfield 21, 3), (131, .iaload, 1), (132, .iastore, 1), (133, .aload_n 0, 1), (134, .getfield 21, 3), (137, .ireturn, 1)])
set_option maxRecDepth 100000 in
theorem eX8_takeBack : zdec mX8_takeBack := by unfold zdec; decide +kernel
theorem fX8_takeBack : zMF mX8_takeBack 1 := ⟨ztb_t (zt5 _ (List.mem_of_getElem? (i := 24) rfl)) rfl, ztb_t (zt1 _ (List.mem_of_getElem? (i := 11) rfl)) rfl, by decide +kernel, by decide⟩
def mX9_init : zM := (yX9_init, cX9_init, 1, none, [(0, .aload_n 0, 1), (1, .invokespecial 1, 3), (4, .aload_n 0, 1), (5, .sipush 700, 3), (8, .newarray .byte, 2), (10, .putfield 9, 3), (13, .aload_n 0, 1), (14, .new 13, 3), (17, .dup, 1), (18, .invokespecial 15, 3), (21, .putfield 16, 3), (24, .aload_n 0, 1), (25, .new 20, 3), (28, .dup, 1), (29, .invokespecial 22, 3), (32, .putfield 23, 3), (35, .aload_n 0, 1), (36, .new 27, 3), (39, .dup, 1), (40, .invokespecial 29, 3), (43, .putfield 30, 3), (46, .aload_n 0, 1), (47, .new 34, 3), (50, .dup, 1), (51, .invokespecial 36, 3), (54, .putfield 37, 3), (57, .aload_n 0, 1), (58, .new 34, 3), (61, .dup, 1), (62, .invokespecial 36, 3), (65, .putfield 41, 3), (68, .aload_n 0, 1), (69, .new 34, 3), (72, .dup, 1), (73, .invokespecial 36, 3), (76, .putfield 44, 3), (79, .aload_n 0, 1), (80, .new 47, 3), (83, .dup, 1), (84, .invokespecial 49, 3), (87, .putfield 50, 3), (90, .aload_n 0, 1), (91, .bipush 36, 2), (93, .newarray .int, 2), (95, .putfield 54, 3), (98, .aload_n 0, 1), (99, .bipush 6, 2), (101, .newarray .int, 2), (103, .putfield 58, 3), (106, .aload_n 0, 1), (107, .bipush 8, 2), (109, .newarray .int, 2), (111, .putfield 61, 3), (114, .aload_n 0, 1), (115, .new 64, 3), (118, .dup, 1), (119, .invokespecial 66, 3), (122, .putfield 67, 3), (125, .aload_n 0, 1), (126, .getfield 37, 3), (129, .aload_n 0, 1), (130, .getfield 67, 3), (133, .invokevirtual 71, 3), (136, .return_, 1)])
set_option maxRecDepth 100000 in
theorem eX9_init : zdec mX9_init := by unfold zdec; decide +kernel
theorem fX9_init : zMF mX9_init 0 := ⟨ztb_t (zt1 _ (List.mem_of_getElem? (i := 27) rfl)) rfl, ztb_t (zt1 _ (List.mem_of_getElem? (i := 1) rfl)) rfl, by decide +kernel, by decide⟩
def mX9_feed : zM := (yX9_feed, cX9_feed, 6, (some FieldType.int), [(0, .aload_n 0, 1), (1, .getfield 75, 3), (4, .bipush 20, 2), (6, .iadd, 1), (7, .sipush 700, 3), (10, .if_icmp .le 5, 3), (13, .iconst (-1), 1), (14, .ireturn, 1), (15, .aload_n 0, 1), (16, .iload_n 1, 1), (17, .invokevirtual 79, 3), (20, .aload_n 0, 1), (21, .iload_n 2, 1), (22, .invokevirtual 79, 3), (25, .aload_n 0, 1), (26, .iload_n 3, 1), (27, .invokevirtual 79, 3), (30, .aload_n 0, 1), (31, .iload 4, 2), (33, .invokevirtual 79, 3), (36, .aload_n 0, 1), (37, .iload 5, 2), (39, .invokevirtual 79, 3), (42, .aload_n 0, 1), (43, .getfield 75, 3), (46, .ireturn, 1)])
set_option maxRecDepth 100000 in
theorem eX9_feed : zdec mX9_feed := by unfold zdec; decide +kernel
theorem fX9_feed : zMF mX9_feed 5 := ⟨ztb_t (zt2 _ (List.mem_of_getElem? (i := 215) rfl)) rfl, ztb_t (zt1 _ (List.mem_of_getElem? (i := 1) rfl)) rfl, by decide +kernel, by decide⟩
def mX9_tapeNumber : zM := (yX9_tapeNumber, cX9_tapeNumber, 3, none, [(0, .bipush 24, 2), (2, .istore_n 2, 1), (3, .iload_n 2, 1), (4, .ifCond .lt 32, 3), (7, .aload_n 0, 1), (8, .getfield 9, 3), (11, .aload_n 0, 1), (12, .getfield 75, 3), (15, .iload_n 1, 1), (16, .iload_n 2, 1), (17, .ishr, 1), (18, .i2b, 1), (19, .bastore, 1), (20, .aload_n 0, 1), (21, .dup, 1), (22, .getfield 75, 3), (25, .iconst 1, 1), (26, .iadd, 1), (27, .putfield 75, 3), (30, .iinc 2 (-8), 3), (33, .goto (-30), 3), (36, .return_, 1)])
set_option maxRecDepth 100000 in
theorem eX9_tapeNumber : zdec mX9_tapeNumber := by unfold zdec; decide +kernel
theorem fX9_tapeNumber : zMF mX9_tapeNumber 1 := ⟨ztb_t (zt2 _ (List.mem_of_getElem? (i := 219) rfl)) rfl, ztb_t (zt1 _ (List.mem_of_getElem? (i := 1) rfl)) rfl, by decide +kernel, by decide⟩
def mX9_text : zM := (yX9_text, cX9_text, 3, (some FieldType.int), [(0, .iload_n 1, 1), (1, .ifCond .lt 11, 3), (4, .iload_n 1, 1), (5, .aload_n 0, 1), (6, .getfield 75, 3), (9, .if_icmp .le 6, 3), (12, .bipush (-2), 2), (14, .ireturn, 1), (15, .aload_n 0, 1), (16, .iconst 0, 1), (17, .putfield 75, 3), (20, .iconst 0, 1), (21, .istore_n 2, 1), (22, .aload_n 0, 1), (23, .getfield 16, 3), (26, .aload_n 0, 1), (27, .getfield 9, 3), (30, .iload_n 1, 1), (31, .invokevirtual 83, 3), (34, .iload_n 2, 1), (35, .iload_n 1, 1), (36, .if_icmp .ge 32, 3), (39, .aload_n 0, 1), (40, .getfield 16, 3), (43, .invokevirtual 87, 3), (46, .ifCond .eq 22, 3), (49, .aload_n 0, 1), (50, .getfield 16, 3), (53, .invokevirtual 91, 3), (56, .iconst (-1), 1), (57, .if_icmp .ne 5, 3), (60, .iconst (-1), 1), (61, .ireturn, 1), (62, .iinc 2 1, 3), (65, .goto (-31), 3), (68, .aload_n 0, 1), (69, .aload_n 0, 1), (70, .getfield 16, 3), (73, .aload_n 0, 1), (74, .getfield 67, 3), (77, .invokevirtual 95, 3), (80, .putfield 67, 3), (83, .aload_n 0, 1), (84, .getfield 37, 3), (87, .aload_n 0, 1), (88, .getfield 67, 3), (91, .invokevirtual 71, 3), (94, .aload_n 0, 1), (95, .getfield 23, 3), (98, .invokevirtual 99, 3), (101, .aload_n 0, 1), (102, .getfield 30, 3), (105, .invokevirtual 102, 3), (108, .aload_n 0, 1), (109, .iconst 0, 1), (110, .putfield 103, 3), (113, .iload_n 2, 1), (114, .ireturn, 1)])
set_option maxRecDepth 100000 in
theorem eX9_text : zdec mX9_text := by unfold zdec; decide +kernel
theorem fX9_text : zMF mX9_text 1 := ⟨ztb_t (zt2 _ (List.mem_of_getElem? (i := 223) rfl)) rfl, ztb_t (zt1 _ (List.mem_of_getElem? (i := 1) rfl)) rfl, by decide +kernel, by decide⟩
def mX9_fault : zM := (yX9_fault, cX9_fault, 2, (some FieldType.int), [(0, .iload_n 1, 1), (1, .lookupswitch 43 #[(0, 27), (1, 35)], 27), (28, .aload_n 0, 1), (29, .getfield 16, 3), (32, .getfield 107, 3), (35, .ireturn, 1), (36, .aload_n 0, 1), (37, .getfield 16, 3), (40, .getfield 110, 3), (43, .ireturn, 1), (44, .iconst (-1), 1), (45, .ireturn, 1)])
set_option maxRecDepth 100000 in
theorem eX9_fault : zdec mX9_fault := by unfold zdec; decide +kernel
theorem fX9_fault : zMF mX9_fault 1 := ⟨ztb_t (zt3 _ (List.mem_of_getElem? (i := 160) rfl)) rfl, ztb_t (zt1 _ (List.mem_of_getElem? (i := 1) rfl)) rfl, by decide +kernel, by decide⟩
def mX9_named : zM := (yX9_named, cX9_named, 3, (some FieldType.int), [(0, .iload_n 1, 1), (1, .ifCond .lt 8, 3), (4, .iload_n 1, 1), (5, .iconst 3, 1), (6, .if_icmp .le 7, 3), (9, .iconst (-1), 1), (10, .goto 12, 3), (13, .aload_n 0, 1), (14, .getfield 67, 3), (17, .iload_n 1, 1), (18, .iload_n 2, 1), (19, .invokevirtual 113, 3), (22, .ireturn, 1)])
set_option maxRecDepth 100000 in
theorem eX9_named : zdec mX9_named := by unfold zdec; decide +kernel
theorem fX9_named : zMF mX9_named 2 := ⟨ztb_t (zt3 _ (List.mem_of_getElem? (i := 164) rfl)) rfl, ztb_t (zt1 _ (List.mem_of_getElem? (i := 1) rfl)) rfl, by decide +kernel, by decide⟩
def mX9_monk : zM := (yX9_monk, cX9_monk, 3, (some FieldType.int), [(0, .aload_n 0, 1), (1, .iconst 3, 1), (2, .iload_n 1, 1), (3, .invokevirtual 117, 3), (6, .ifCond .ne 13, 3), (9, .new 121, 3), (12, .dup, 1), (13, .ldc 123, 2), (15, .invokespecial 125, 3), (18, .athrow, 1), (19, .iload_n 2, 1), (20, .tableswitch 86 0 4 #[36, 46, 56, 66, 76], 36), (56, .aload_n 0, 1), (57, .getfield 37, 3), (60, .getfield 128, 3), (63, .iload_n 1, 1), (64, .iaload, 1), (65, .ireturn, 1), (66, .aload_n 0, 1), (67, .getfield 67, 3), (70, .getfield 131, 3), (73, .iload_n 1, 1), (74, .iaload, 1), (75, .ireturn, 1), (76, .aload_n 0, 1), (77, .getfield 37, 3), (80, .getfield 134, 3), (83, .iload_n 1, 1), (84, .iaload, 1), (85, .ireturn, 1), (86, .aload_n 0, 1), (87, .getfield 37, 3), (90, .getfield 137, 3), (93, .iload_n 1, 1), (94, .iaload, 1), (95, .ireturn, 1), (96, .aload_n 0, 1), (97, .getfield 37, 3), (100, .getfield 140, 3), (103, .iload_n 1, 1), (104, .iaload, 1), (105, .ireturn, 1), (106, .new 143, 3), (109, .dup, 1), (110, .ldc 145, 2), (112, .invokespecial 147, 3), (115, .athrow, 1)])
set_option maxRecDepth 100000 in
theorem eX9_monk : zdec mX9_monk := by unfold zdec; decide +kernel
theorem fX9_monk : zMF mX9_monk 2 := ⟨ztb_t (zt5 _ (List.mem_of_getElem? (i := 50) rfl)) rfl, ztb_t (zt1 _ (List.mem_of_getElem? (i := 1) rfl)) rfl, by decide +kernel, by decide⟩
def mX9_stuff : zM := (yX9_stuff, cX9_stuff, 3, (some FieldType.int), [(0, .aload_n 0, 1), (1, .iconst 0, 1), (2, .iload_n 1, 1), (3, .invokevirtual 117, 3), (6, .ifCond .ne 5, 3), (9, .iconst (-1), 1), (10, .ireturn, 1), (11, .iload_n 2, 1), (12, .tableswitch 61 0 2 #[28, 38, 51], 28), (40, .aload_n 0, 1), (41, .getfield 37, 3), (44, .getfield 148, 3), (47, .iload_n 1, 1), (48, .iaload, 1), (49, .ireturn, 1), (50, .aload_n 0, 1), (51, .getfield 37, 3), (54, .aload_n 0, 1), (55, .getfield 67, 3), (58, .iload_n 1, 1), (59, .invokevirtual 151, 3), (62, .ireturn, 1), (63, .aload_n 0, 1), (64, .getfield 37, 3), (67, .getfield 155, 3), (70, .iload_n 1, 1), (71, .iaload, 1), (72, .ireturn, 1), (73, .iconst (-1), 1), (74, .ireturn, 1)])
set_option maxRecDepth 100000 in
theorem eX9_stuff : zdec mX9_stuff := by unfold zdec; decide +kernel
theorem fX9_stuff : zMF mX9_stuff 2 := ⟨ztb_t (zt3 _ (List.mem_of_getElem? (i := 169) rfl)) rfl, ztb_t (zt1 _ (List.mem_of_getElem? (i := 1) rfl)) rfl, by decide +kernel, by decide⟩
def mX9_mix : zM := (yX9_mix, cX9_mix, 3, (some FieldType.int), [(0, .aload_n 0, 1), (1, .iconst 1, 1), (2, .iload_n 1, 1), (3, .invokevirtual 117, 3), (6, .ifCond .eq 26, 3), (9, .aload_n 0, 1), (10, .iconst 0, 1), (11, .iload_n 2, 1), (12, .invokevirtual 117, 3), (15, .ifCond .eq 17, 3), (18, .aload_n 0, 1), (19, .getfield 67, 3), (22, .getfield 158, 3), (25, .iload_n 1, 1), (26, .aaload, 1), (27, .iload_n 2, 1), (28, .iaload, 1), (29, .goto 4, 3), (32, .iconst (-1), 1), (33, .ireturn, 1)])
set_option maxRecDepth 100000 in
theorem eX9_mix : zdec mX9_mix := by unfold zdec; decide +kernel
theorem fX9_mix : zMF mX9_mix 2 := ⟨ztb_t (zt3 _ (List.mem_of_getElem? (i := 212) rfl)) rfl, ztb_t (zt1 _ (List.mem_of_getElem? (i := 1) rfl)) rfl, by decide +kernel, by decide⟩
def mX9_feast : zM := (yX9_feast, cX9_feast, 2, (some FieldType.int), [(0, .aload_n 0, 1), (1, .iconst 1, 1), (2, .iload_n 1, 1), (3, .invokevirtual 117, 3), (6, .ifCond .ne 5, 3), (9, .iconst (-1), 1), (10, .ireturn, 1), (11, .aload_n 0, 1), (12, .getfield 67, 3), (15, .getfield 162, 3), (18, .iload_n 1, 1), (19, .baload, 1), (20, .ifCond .eq 7, 3), (23, .iconst 1, 1), (24, .goto 4, 3), (27, .iconst 0, 1), (28, .ireturn, 1)])
set_option maxRecDepth 100000 in
theorem eX9_feast : zdec mX9_feast := by unfold zdec; decide +kernel
theorem fX9_feast : zMF mX9_feast 1 := ⟨ztb_t (zt3 _ (List.mem_of_getElem? (i := 216) rfl)) rfl, ztb_t (zt1 _ (List.mem_of_getElem? (i := 1) rfl)) rfl, by decide +kernel, by decide⟩
def mX9_air : zM := (yX9_air, cX9_air, 3, (some FieldType.int), [(0, .aload_n 0, 1), (1, .iconst 2, 1), (2, .iload_n 1, 1), (3, .invokevirtual 117, 3), (6, .ifCond .eq 26, 3), (9, .aload_n 0, 1), (10, .iconst 0, 1), (11, .iload_n 2, 1), (12, .invokevirtual 117, 3), (15, .ifCond .eq 17, 3), (18, .aload_n 0, 1), (19, .getfield 37, 3), (22, .getfield 166, 3), (25, .iload_n 1, 1), (26, .aaload, 1), (27, .iload_n 2, 1), (28, .iaload, 1), (29, .goto 4, 3), (32, .iconst (-1), 1), (33, .ireturn, 1)])
set_option maxRecDepth 100000 in
theorem eX9_air : zdec mX9_air := by unfold zdec; decide +kernel
theorem fX9_air : zMF mX9_air 2 := ⟨ztb_t (zt3 _ (List.mem_of_getElem? (i := 220) rfl)) rfl, ztb_t (zt1 _ (List.mem_of_getElem? (i := 1) rfl)) rfl, by decide +kernel, by decide⟩
def mX9_mark : zM := (yX9_mark, cX9_mark, 3, (some FieldType.int), [(0, .aload_n 0, 1), (1, .iconst 3, 1), (2, .iload_n 1, 1), (3, .invokevirtual 117, 3), (6, .ifCond .eq 12, 3), (9, .aload_n 0, 1), (10, .iconst 1, 1), (11, .iload_n 2, 1), (12, .invokevirtual 117, 3), (15, .ifCond .ne 5, 3), (18, .iconst (-1), 1), (19, .ireturn, 1), (20, .aload_n 0, 1), (21, .getfield 37, 3), (24, .aload_n 0, 1), (25, .getfield 67, 3), (28, .iload_n 1, 1), (29, .iload_n 2, 1), (30, .aload_n 0, 1), (31, .iload_n 1, 1), (32, .invokevirtual 169, 3), (35, .invokevirtual 173, 3), (38, .ireturn, 1)])
set_option maxRecDepth 100000 in
theorem eX9_mark : zdec mX9_mark := by unfold zdec; decide +kernel
theorem fX9_mark : zMF mX9_mark 2 := ⟨ztb_t (zt3 _ (List.mem_of_getElem? (i := 224) rfl)) rfl, ztb_t (zt1 _ (List.mem_of_getElem? (i := 1) rfl)) rfl, by decide +kernel, by decide⟩
def mX9_law : zM := (yX9_law, cX9_law, 4, (some FieldType.long), [(0, .iload_n 1, 1), (1, .tableswitch 131 0 2 #[27, 66, 103], 27), (28, .aload_n 0, 1), (29, .iconst 2, 1), (30, .iload_n 2, 1), (31, .invokevirtual 117, 3), (34, .ifCond .eq 29, 3), (37, .aload_n 0, 1), (38, .iconst 0, 1), (39, .iload_n 3, 1), (40, .invokevirtual 117, 3), (43, .ifCond .eq 20, 3), (46, .aload_n 0, 1), (47, .getfield 37, 3), (50, .aload_n 0, 1), (51, .getfield 67, 3), (54, .iload_n 2, 1), (55, .iload_n 3, 1), (56, .iconst 0, 1), (57, .invokevirtual 177, 3), (60, .goto 6, 3), (63, .ldc2_w 181, 3), (66, .lreturn, 1), (67, .aload_n 0, 1), (68, .iconst 3, 1), (69, .iload_n 2, 1), (70, .invokevirtual 117, 3), (73, .ifCond .eq 27, 3), (76, .aload_n 0, 1), (77, .getfield 37, 3), (80, .aload_n 0, 1), (81, .getfield 67, 3), (84, .iload_n 2, 1), (85, .aload_n 0, 1), (86, .getfield 37, 3), (89, .getfield 128, 3), (92, .iload_n 2, 1), (93, .iaload, 1), (94, .invokevirtual 183, 3), (97, .goto 6, 3), (100, .ldc2_w 181, 3), (103, .lreturn, 1), (104, .aload_n 0, 1), (105, .iconst 0, 1), (106, .iload_n 3, 1), (107, .invokevirtual 117, 3), (110, .ifCond .eq 18, 3), (113, .aload_n 0, 1), (114, .getfield 37, 3), (117, .aload_n 0, 1), (118, .getfield 67, 3), (121, .iload_n 3, 1), (122, .invokevirtual 187, 3), (125, .goto 6, 3), (128, .ldc2_w 181, 3), (131, .lreturn, 1), (132, .ldc2_w 181, 3), (135, .lreturn, 1)])
set_option maxRecDepth 100000 in
theorem eX9_law : zdec mX9_law := by unfold zdec; decide +kernel
theorem fX9_law : zMF mX9_law 3 := ⟨ztb_t (zt4 _ (List.mem_of_getElem? (i := 8) rfl)) rfl, ztb_t (zt1 _ (List.mem_of_getElem? (i := 1) rfl)) rfl, by decide +kernel, by decide⟩
def mX9_cold : zM := (yX9_cold, cX9_cold, 6, (some FieldType.boolean), [(0, .aload_n 0, 1), (1, .iconst 3, 1), (2, .iload_n 1, 1), (3, .invokevirtual 117, 3), (6, .ifCond .eq 12, 3), (9, .aload_n 0, 1), (10, .iconst 0, 1), (11, .iload_n 2, 1), (12, .invokevirtual 117, 3), (15, .ifCond .ne 5, 3), (18, .iconst 0, 1), (19, .ireturn, 1), (20, .aload_n 0, 1), (21, .getfield 37, 3), (24, .getfield 134, 3), (27, .iload_n 1, 1), (28, .iaload, 1), (29, .istore 4, 2), (31, .iload_n 3, 1), (32, .ifCond .eq 12, 3), (35, .iload 4, 2), (37, .iconst 1, 1), (38, .iload_n 2, 1), (39, .ishl, 1), (40, .ior, 1), (41, .goto 11, 3), (44, .iload 4, 2), (46, .iconst 1, 1), (47, .iload_n 2, 1), (48, .ishl, 1), (49, .iconst (-1), 1), (50, .ixor, 1), (51, .iand, 1), (52, .istore 5, 2), (54, .iload 5, 2), (56, .iload 4, 2), (58, .if_icmp .ne 5, 3), (61, .iconst 0, 1), (62, .ireturn, 1), (63, .aload_n 0, 1), (64, .getfield 30, 3), (67, .iconst 0, 1), (68, .iload_n 1, 1), (69, .iload 4, 2), (71, .invokevirtual 191, 3), (74, .aload_n 0, 1), (75, .getfield 37, 3), (78, .getfield 134, 3), (81, .iload_n 1, 1), (82, .iload 5, 2), (84, .iastore, 1), (85, .iconst 1, 1), (86, .ireturn, 1)])
set_option maxRecDepth 100000 in
theorem eX9_cold : zdec mX9_cold := by unfold zdec; decide +kernel
theorem fX9_cold : zMF mX9_cold 3 := ⟨ztb_t (zt4 _ (List.mem_of_getElem? (i := 19) rfl)) rfl, ztb_t (zt1 _ (List.mem_of_getElem? (i := 1) rfl)) rfl, by decide +kernel, by decide⟩
def mX9_wind : zM := (yX9_wind, cX9_wind, 3, (some FieldType.boolean), [(0, .aload_n 0, 1), (1, .iconst 0, 1), (2, .iload_n 1, 1), (3, .invokevirtual 117, 3), (6, .ifCond .eq 26, 3), (9, .iload_n 2, 1), (10, .ifCond .lt 22, 3), (13, .iload_n 2, 1), (14, .bipush 99, 2), (16, .if_icmp .gt 16, 3), (19, .aload_n 0, 1), (20, .getfield 37, 3), (23, .getfield 155, 3), (26, .iload_n 1, 1), (27, .iaload, 1), (28, .iload_n 2, 1), (29, .if_icmp .ne 5, 3), (32, .iconst 0, 1), (33, .ireturn, 1), (34, .aload_n 0, 1), (35, .getfield 30, 3), (38, .iconst 1, 1), (39, .iload_n 1, 1), (40, .aload_n 0, 1), (41, .getfield 37, 3), (44, .getfield 155, 3), (47, .iload_n 1, 1), (48, .iaload, 1), (49, .invokevirtual 191, 3), (52, .aload_n 0, 1), (53, .getfield 37, 3), (56, .getfield 155, 3), (59, .iload_n 1, 1), (60, .iload_n 2, 1), (61, .iastore, 1), (62, .iconst 1, 1), (63, .ireturn, 1)])
set_option maxRecDepth 100000 in
theorem eX9_wind : zdec mX9_wind := by unfold zdec; decide +kernel
theorem fX9_wind : zMF mX9_wind 2 := ⟨ztb_t (zt4 _ (List.mem_of_getElem? (i := 31) rfl)) rfl, ztb_t (zt1 _ (List.mem_of_getElem? (i := 1) rfl)) rfl, by decide +kernel, by decide⟩
def mX9_buy : zM := (yX9_buy, cX9_buy, 3, (some FieldType.int), [(0, .aload_n 0, 1), (1, .iconst 0, 1), (2, .iload_n 1, 1), (3, .invokevirtual 117, 3), (6, .ifCond .eq 32, 3), (9, .iload_n 2, 1), (10, .iconst 1, 1), (11, .if_icmp .lt 27, 3), (14, .iload_n 2, 1), (15, .sipush 999, 3), (18, .if_icmp .gt 20, 3), (21, .aload_n 0, 1), (22, .getfield 37, 3), (25, .getfield 148, 3), (28, .iload_n 1, 1), (29, .iaload, 1), (30, .iload_n 2, 1), (31, .iadd, 1), (32, .sipush 9999, 3), (35, .if_icmp .le 5, 3), (38, .iconst (-1), 1), (39, .ireturn, 1), (40, .aload_n 0, 1), (41, .getfield 30, 3), (44, .iconst 2, 1), (45, .iload_n 1, 1), (46, .aload_n 0, 1), (47, .getfield 37, 3), (50, .getfield 148, 3), (53, .iload_n 1, 1), (54, .iaload, 1), (55, .invokevirtual 191, 3), (58, .aload_n 0, 1), (59, .getfield 37, 3), (62, .getfield 148, 3), (65, .iload_n 1, 1), (66, .dup2, 1), (67, .iaload, 1), (68, .iload_n 2, 1), (69, .iadd, 1), (70, .iastore, 1), (71, .aload_n 0, 1), (72, .getfield 37, 3), (75, .getfield 148, 3), (78, .iload_n 1, 1), (79, .iaload, 1), (80, .ireturn, 1)])
set_option maxRecDepth 100000 in
theorem eX9_buy : zdec mX9_buy := by unfold zdec; decide +kernel
theorem fX9_buy : zMF mX9_buy 2 := ⟨ztb_t (zt4 _ (List.mem_of_getElem? (i := 35) rfl)) rfl, ztb_t (zt1 _ (List.mem_of_getElem? (i := 1) rfl)) rfl, by decide +kernel, by decide⟩
def mX9_goes : zM := (yX9_goes, cX9_goes, 3, (some FieldType.boolean), [(0, .aload_n 0, 1), (1, .iconst 3, 1), (2, .iload_n 1, 1), (3, .invokevirtual 117, 3), (6, .ifCond .eq 25, 3), (9, .aload_n 0, 1), (10, .iconst 2, 1), (11, .iload_n 2, 1), (12, .invokevirtual 117, 3), (15, .ifCond .eq 16, 3), (18, .aload_n 0, 1), (19, .getfield 37, 3), (22, .getfield 128, 3), (25, .iload_n 1, 1), (26, .iaload, 1), (27, .iload_n 2, 1), (28, .if_icmp .ne 5, 3), (31, .iconst 0, 1), (32, .ireturn, 1), (33, .aload_n 0, 1), (34, .getfield 30, 3), (37, .iconst 3, 1), (38, .iload_n 1, 1), (39, .aload_n 0, 1), (40, .getfield 37, 3), (43, .getfield 128, 3), (46, .iload_n 1, 1), (47, .iaload, 1), (48, .invokevirtual 191, 3), (51, .aload_n 0, 1), (52, .getfield 37, 3), (55, .getfield 128, 3), (58, .iload_n 1, 1), (59, .iload_n 2, 1), (60, .iastore, 1), (61, .iconst 1, 1), (62, .ireturn, 1)])
set_option maxRecDepth 100000 in
theorem eX9_goes : zdec mX9_goes := by unfold zdec; decide +kernel
theorem fX9_goes : zMF mX9_goes 2 := ⟨ztb_t (zt4 _ (List.mem_of_getElem? (i := 39) rfl)) rfl, ztb_t (zt1 _ (List.mem_of_getElem? (i := 1) rfl)) rfl, by decide +kernel, by decide⟩
def mX9_go : zM := (yX9_go, cX9_go, 3, (some FieldType.int), [(0, .iload_n 1, 1), (1, .ifCond .lt 24, 3), (4, .iload_n 1, 1), (5, .bipush 99, 2), (7, .if_icmp .gt 18, 3), (10, .aload_n 0, 1), (11, .getfield 37, 3), (14, .getfield 195, 3), (17, .iload_n 1, 1), (18, .iadd, 1), (19, .sipush 9999, 3), (22, .if_icmp .le 5, 3), (25, .iconst (-1), 1), (26, .ireturn, 1), (27, .iconst 0, 1), (28, .istore_n 2, 1), (29, .iload_n 2, 1), (30, .iload_n 1, 1), (31, .if_icmp .ge 20, 3), (34, .aload_n 0, 1), (35, .getfield 37, 3), (38, .aload_n 0, 1), (39, .getfield 67, 3), (42, .invokevirtual 198, 3), (45, .iinc 2 1, 3), (48, .goto (-19), 3), (51, .iload_n 1, 1), (52, .ifCond .le 10, 3), (55, .aload_n 0, 1), (56, .getfield 30, 3), (59, .invokevirtual 102, 3), (62, .aload_n 0, 1), (63, .getfield 37, 3), (66, .getfield 195, 3), (69, .ireturn, 1)])
set_option maxRecDepth 100000 in
theorem eX9_go : zdec mX9_go := by unfold zdec; decide +kernel
theorem fX9_go : zMF mX9_go 1 := ⟨ztb_t (zt4 _ (List.mem_of_getElem? (i := 43) rfl)) rfl, ztb_t (zt1 _ (List.mem_of_getElem? (i := 1) rfl)) rfl, by decide +kernel, by decide⟩
def mX9_mixedUp : zM := (yX9_mixedUp, cX9_mixedUp, 2, (some FieldType.int), [(0, .aload_n 0, 1), (1, .iconst 3, 1), (2, .iload_n 1, 1), (3, .invokevirtual 117, 3), (6, .ifCond .ne 5, 3), (9, .iconst (-1), 1), (10, .ireturn, 1), (11, .aload_n 0, 1), (12, .iload_n 1, 1), (13, .aload_n 0, 1), (14, .getfield 37, 3), (17, .getfield 128, 3), (20, .iload_n 1, 1), (21, .iaload, 1), (22, .invokevirtual 201, 3), (25, .aload_n 0, 1), (26, .invokevirtual 205, 3), (29, .ireturn, 1)])
set_option maxRecDepth 100000 in
theorem eX9_mixedUp : zdec mX9_mixedUp := by unfold zdec; decide +kernel
theorem fX9_mixedUp : zMF mX9_mixedUp 1 := ⟨ztb_t (zt4 _ (List.mem_of_getElem? (i := 79) rfl)) rfl, ztb_t (zt1 _ (List.mem_of_getElem? (i := 1) rfl)) rfl, by decide +kernel, by decide⟩
def mX9_pair : zM := (yX9_pair, cX9_pair, 6, (some FieldType.int), [(0, .aload_n 0, 1), (1, .iconst 3, 1), (2, .iload_n 1, 1), (3, .invokevirtual 117, 3), (6, .ifCond .eq 7, 3), (9, .iload_n 2, 1), (10, .ifCond .ge 5, 3), (13, .iconst (-1), 1), (14, .ireturn, 1), (15, .aload_n 0, 1), (16, .iload_n 1, 1), (17, .aload_n 0, 1), (18, .getfield 37, 3), (21, .getfield 128, 3), (24, .iload_n 1, 1), (25, .iaload, 1), (26, .invokevirtual 201, 3), (29, .iload_n 2, 1), (30, .istore_n 3, 1), (31, .iconst 0, 1), (32, .istore 4, 2), (34, .iload 4, 2), (36, .aload_n 0, 1), (37, .getfield 67, 3), (40, .getfield 208, 3), (43, .iconst 1, 1), (44, .iaload, 1), (45, .if_icmp .ge 68, 3), (48, .iload 4, 2), (50, .iconst 1, 1), (51, .iadd, 1), (52, .istore 5, 2), (54, .iload 5, 2), (56, .aload_n 0, 1), (57, .getfield 67, 3), (60, .getfield 208, 3), (63, .iconst 1, 1), (64, .iaload, 1), (65, .if_icmp .ge 42, 3), (68, .aload_n 0, 1), (69, .getfield 61, 3), (72, .iload 4, 2), (74, .iaload, 1), (75, .aload_n 0, 1), (76, .getfield 61, 3), (79, .iload 5, 2), (81, .iaload, 1), (82, .if_icmp .ne 19, 3), (85, .iload_n 3, 1), (86, .ifCond .ne 12, 3), (89, .bipush 10, 2), (91, .iload 4, 2), (93, .imul, 1), (94, .iload 5, 2), (96, .iadd, 1), (97, .ireturn, 1), (98, .iinc 3 (-1), 3), (101, .iinc 5 1, 3), (104, .goto (-50), 3), (107, .iinc 4 1, 3), (110, .goto (-76), 3), (113, .bipush (-2), 2), (115, .ireturn, 1)])
set_option maxRecDepth 100000 in
theorem eX9_pair : zdec mX9_pair := by unfold zdec; decide +kernel
theorem fX9_pair : zMF mX9_pair 2 := ⟨ztb_t (zt4 _ (List.mem_of_getElem? (i := 92) rfl)) rfl, ztb_t (zt1 _ (List.mem_of_getElem? (i := 1) rfl)) rfl, by decide +kernel, by decide⟩
end
section
def mX9_mending : zM := (yX9_mending, cX9_mending, 11, (some FieldType.int), [(0, .aload_n 0, 1), (1, .iconst 3, 1), (2, .iload_n 1, 1), (3, .invokevirtual 117, 3), (6, .ifCond .eq 37, 3), (9, .aload_n 0, 1), (10, .iconst 1, 1), (11, .iload_n 2, 1), (12, .invokevirtual 117, 3), (15, .ifCond .eq 28, 3), (18, .aload_n 0, 1), (19, .iconst 1, 1), (20, .iload_n 3, 1), (21, .invokevirtual 117, 3), (24, .ifCond .eq 19, 3), (27, .iload_n 2, 1), (28, .iload_n 3, 1), (29, .if_icmp .eq 14, 3), (32, .iload 4, 2), (34, .ifCond .lt 9, 3), (37, .iload 4, 2), (39, .iconst 1, 1), (40, .if_icmp .le 5, 3), (43, .iconst (-1), 1), (44, .ireturn, 1), (45, .aload_n 0, 1), (46, .iload_n 1, 1), (47, .invokevirtual 169, 3), (50, .istore 5, 2), (52, .aload_n 0, 1), (53, .getfield 37, 3), (56, .aload_n 0, 1), (57, .getfield 67, 3), (60, .iload_n 1, 1), (61, .iload_n 2, 1), (62, .iload 5, 2), (64, .invokevirtual 173, 3), (67, .aload_n 0, 1), (68, .getfield 37, 3), (71, .aload_n 0, 1), (72, .getfield 67, 3), (75, .iload_n 1, 1), (76, .iload_n 3, 1), (77, .iload 5, 2), (79, .invokevirtual 173, 3), (82, .if_icmp .eq 6, 3), (85, .bipush (-3), 2), (87, .ireturn, 1), (88, .iload_n 2, 1), (89, .iload_n 3, 1), (90, .invokestatic 211, 3), (93, .istore 6, 2), (95, .bipush (-2), 2), (97, .istore 7, 2), (99, .bipush 100, 2), (101, .istore 8, 2), (103, .iconst 0, 1), (104, .istore 9, 2), (106, .iload 9, 2), (108, .aload_n 0, 1), (109, .getfield 67, 3), (112, .getfield 208, 3), (115, .iconst 0, 1), (116, .iaload, 1), (117, .if_icmp .ge 37, 3), (120, .aload_n 0, 1), (121, .iload_n 1, 1), (122, .iload 6, 2), (124, .iload 9, 2), (126, .iload 5, 2), (128, .invokevirtual 216, 3), (131, .istore 10, 2), (133, .iload 10, 2), (135, .iload 8, 2), (137, .if_icmp .ge 11, 3), (140, .iload 10, 2), (142, .istore 8, 2), (144, .iload 9, 2), (146, .istore 7, 2), (148, .iinc 9 1, 3), (151, .goto (-45), 3), (154, .iload 4, 2), (156, .ifCond .eq 10, 3), (159, .iload 7, 2), (161, .bipush (-2), 2), (163, .if_icmp .ne 8, 3), (166, .iload 7, 2), (168, .goto 5, 3), (171, .iload 8, 2), (173, .ireturn, 1)])
set_option maxRecDepth 100000 in
theorem eX9_mending : zdec mX9_mending := by unfold zdec; decide +kernel
theorem fX9_mending : zMF mX9_mending 4 := ⟨ztb_t (zt4 _ (List.mem_of_getElem? (i := 96) rfl)) rfl, ztb_t (zt1 _ (List.mem_of_getElem? (i := 1) rfl)) rfl, by decide +kernel, by decide⟩
def mX9_moreThatIsSmelled : zM := (yX9_moreThatIsSmelled, cX9_moreThatIsSmelled, 9, (some FieldType.int), [(0, .aload_n 0, 1), (1, .getfield 37, 3), (4, .getfield 220, 3), (7, .aload_n 0, 1), (8, .getfield 37, 3), (11, .getfield 128, 3), (14, .iload_n 1, 1), (15, .iaload, 1), (16, .iaload, 1), (17, .istore 5, 2), (19, .aload_n 0, 1), (20, .getfield 67, 3), (23, .getfield 158, 3), (26, .iload_n 2, 1), (27, .aaload, 1), (28, .iload_n 3, 1), (29, .iaload, 1), (30, .istore 6, 2), (32, .aload_n 0, 1), (33, .getfield 37, 3), (36, .getfield 134, 3), (39, .iload_n 1, 1), (40, .iaload, 1), (41, .iload_n 3, 1), (42, .ishr, 1), (43, .iconst 1, 1), (44, .iand, 1), (45, .iconst 1, 1), (46, .if_icmp .ne 7, 3), (49, .iconst 1, 1), (50, .goto 4, 3), (53, .iconst 0, 1), (54, .istore 7, 2), (56, .iload 7, 2), (58, .ifCond .ne 16, 3), (61, .iload 6, 2), (63, .iload 5, 2), (65, .imul, 1), (66, .bipush 100, 2), (68, .idiv, 1), (69, .iload 4, 2), (71, .if_icmp .lt 6, 3), (74, .bipush 100, 2), (76, .ireturn, 1), (77, .iconst 1, 1), (78, .istore 8, 2), (80, .iload 8, 2), (82, .bipush 99, 2), (84, .if_icmp .gt 28, 3), (87, .iload 6, 2), (89, .iload 8, 2), (91, .iadd, 1), (92, .iload 5, 2), (94, .imul, 1), (95, .bipush 100, 2), (97, .idiv, 1), (98, .iload 4, 2), (100, .if_icmp .lt 6, 3), (103, .iload 8, 2), (105, .ireturn, 1), (106, .iinc 8 1, 3), (109, .goto (-29), 3), (112, .bipush 100, 2), (114, .ireturn, 1)])
set_option maxRecDepth 100000 in
theorem eX9_moreThatIsSmelled : zdec mX9_moreThatIsSmelled := by unfold zdec; decide +kernel
theorem fX9_moreThatIsSmelled : zMF mX9_moreThatIsSmelled 4 := ⟨ztb_t (zt4 _ (List.mem_of_getElem? (i := 103) rfl)) rfl, ztb_t (zt1 _ (List.mem_of_getElem? (i := 1) rfl)) rfl, by decide +kernel, by decide⟩
def mX9_placeTo : zM := (yX9_placeTo, cX9_placeTo, 7, (some FieldType.int), [(0, .aload_n 0, 1), (1, .iconst 3, 1), (2, .iload_n 1, 1), (3, .invokevirtual 117, 3), (6, .ifCond .eq 12, 3), (9, .iload_n 2, 1), (10, .ifCond .lt 8, 3), (13, .iload_n 2, 1), (14, .iconst 1, 1), (15, .if_icmp .le 5, 3), (18, .iconst (-1), 1), (19, .ireturn, 1), (20, .iconst 0, 1), (21, .istore_n 3, 1), (22, .iconst (-1), 1), (23, .istore 4, 2), (25, .iconst 0, 1), (26, .istore 5, 2), (28, .iload 5, 2), (30, .aload_n 0, 1), (31, .getfield 67, 3), (34, .getfield 208, 3), (37, .iconst 2, 1), (38, .iaload, 1), (39, .if_icmp .ge 36, 3), (42, .aload_n 0, 1), (43, .iload_n 1, 1), (44, .iload 5, 2), (46, .invokevirtual 201, 3), (49, .aload_n 0, 1), (50, .invokevirtual 223, 3), (53, .istore 6, 2), (55, .iload 6, 2), (57, .iload 4, 2), (59, .if_icmp .le 10, 3), (62, .iload 6, 2), (64, .istore 4, 2), (66, .iload 5, 2), (68, .istore_n 3, 1), (69, .iinc 5 1, 3), (72, .goto (-44), 3), (75, .iload_n 2, 1), (76, .ifCond .ne 7, 3), (79, .iload_n 3, 1), (80, .goto 5, 3), (83, .iload 4, 2), (85, .ireturn, 1)])
set_option maxRecDepth 100000 in
theorem eX9_placeTo : zdec mX9_placeTo := by unfold zdec; decide +kernel
theorem fX9_placeTo : zMF mX9_placeTo 2 := ⟨ztb_t (zt4 _ (List.mem_of_getElem? (i := 107) rfl)) rfl, ztb_t (zt1 _ (List.mem_of_getElem? (i := 1) rfl)) rfl, by decide +kernel, by decide⟩
def mX9_lasts : zM := (yX9_lasts, cX9_lasts, 4, (some FieldType.int), [(0, .iload_n 1, 1), (1, .ifCond .lt 8, 3), (4, .iload_n 1, 1), (5, .iconst 1, 1), (6, .if_icmp .le 5, 3), (9, .iconst (-1), 1), (10, .ireturn, 1), (11, .aload_n 0, 1), (12, .getfield 44, 3), (15, .aload_n 0, 1), (16, .getfield 37, 3), (19, .invokevirtual 226, 3), (22, .iconst 0, 1), (23, .istore_n 2, 1), (24, .iload_n 2, 1), (25, .sipush 200, 3), (28, .if_icmp .ge 60, 3), (31, .aload_n 0, 1), (32, .getfield 44, 3), (35, .aload_n 0, 1), (36, .getfield 67, 3), (39, .invokevirtual 230, 3), (42, .istore_n 3, 1), (43, .iload_n 3, 1), (44, .iconst (-1), 1), (45, .if_icmp .eq 13, 3), (48, .iload_n 1, 1), (49, .ifCond .ne 7, 3), (52, .iload_n 2, 1), (53, .goto 4, 3), (56, .iload_n 3, 1), (57, .ireturn, 1), (58, .aload_n 0, 1), (59, .getfield 44, 3), (62, .aload_n 0, 1), (63, .getfield 67, 3), (66, .invokevirtual 234, 3), (69, .aload_n 0, 1), (70, .getfield 44, 3), (73, .dup, 1), (74, .getfield 195, 3), (77, .iconst 1, 1), (78, .iadd, 1), (79, .putfield 195, 3), (82, .iinc 2 1, 3), (85, .goto (-61), 3), (88, .iload_n 1, 1), (89, .ifCond .ne 9, 3), (92, .sipush 200, 3), (95, .goto 5, 3), (98, .bipush (-2), 2), (100, .ireturn, 1)])
set_option maxRecDepth 100000 in
theorem eX9_lasts : zdec mX9_lasts := by unfold zdec; decide +kernel
theorem fX9_lasts : zMF mX9_lasts 1 := ⟨ztb_t (zt4 _ (List.mem_of_getElem? (i := 115) rfl)) rfl, ztb_t (zt1 _ (List.mem_of_getElem? (i := 1) rfl)) rfl, by decide +kernel, by decide⟩
def mX9_needs : zM := (yX9_needs, cX9_needs, 5, (some FieldType.int), [(0, .aload_n 0, 1), (1, .iconst 0, 1), (2, .iload_n 1, 1), (3, .invokevirtual 117, 3), (6, .ifCond .eq 13, 3), (9, .iload_n 2, 1), (10, .ifCond .lt 9, 3), (13, .iload_n 2, 1), (14, .bipush 99, 2), (16, .if_icmp .le 5, 3), (19, .iconst (-1), 1), (20, .ireturn, 1), (21, .iconst 0, 1), (22, .istore_n 3, 1), (23, .iconst 0, 1), (24, .istore 4, 2), (26, .iload 4, 2), (28, .iload_n 2, 1), (29, .if_icmp .ge 30, 3), (32, .iload_n 3, 1), (33, .aload_n 0, 1), (34, .getfield 67, 3), (37, .aload_n 0, 1), (38, .getfield 37, 3), (41, .getfield 195, 3), (44, .iload 4, 2), (46, .iadd, 1), (47, .iload_n 1, 1), (48, .invokevirtual 237, 3), (51, .iadd, 1), (52, .istore_n 3, 1), (53, .iinc 4 1, 3), (56, .goto (-30), 3), (59, .iconst 0, 1), (60, .iload_n 3, 1), (61, .aload_n 0, 1), (62, .getfield 37, 3), (65, .getfield 148, 3), (68, .iload_n 1, 1), (69, .iaload, 1), (70, .isub, 1), (71, .invokestatic 211, 3), (74, .ireturn, 1)])
set_option maxRecDepth 100000 in
theorem eX9_needs : zdec mX9_needs := by unfold zdec; decide +kernel
theorem fX9_needs : zMF mX9_needs 2 := ⟨ztb_t (zt4 _ (List.mem_of_getElem? (i := 131) rfl)) rfl, ztb_t (zt1 _ (List.mem_of_getElem? (i := 1) rfl)) rfl, by decide +kernel, by decide⟩
def mX9_dearest : zM := (yX9_dearest, cX9_dearest, 7, (some FieldType.int), [(0, .iload_n 1, 1), (1, .ifCond .lt 20, 3), (4, .iload_n 1, 1), (5, .iconst 1, 1), (6, .if_icmp .gt 15, 3), (9, .aload_n 0, 1), (10, .getfield 67, 3), (13, .getfield 208, 3), (16, .iconst 1, 1), (17, .iaload, 1), (18, .ifCond .ne 5, 3), (21, .iconst (-1), 1), (22, .ireturn, 1), (23, .iconst 0, 1), (24, .istore_n 2, 1), (25, .iconst (-1), 1), (26, .istore_n 3, 1), (27, .iconst 0, 1), (28, .istore 4, 2), (30, .iload 4, 2), (32, .aload_n 0, 1), (33, .getfield 67, 3), (36, .getfield 208, 3), (39, .iconst 1, 1), (40, .iaload, 1), (41, .if_icmp .ge 79, 3), (44, .iconst 0, 1), (45, .istore 5, 2), (47, .iconst 0, 1), (48, .istore 6, 2), (50, .iload 6, 2), (52, .aload_n 0, 1), (53, .getfield 67, 3), (56, .getfield 208, 3), (59, .iconst 0, 1), (60, .iaload, 1), (61, .if_icmp .ge 41, 3), (64, .iload 5, 2), (66, .aload_n 0, 1), (67, .getfield 67, 3), (70, .getfield 158, 3), (73, .iload 4, 2), (75, .aaload, 1), (76, .iload 6, 2), (78, .iaload, 1), (79, .aload_n 0, 1), (80, .getfield 37, 3), (83, .aload_n 0, 1), (84, .getfield 67, 3), (87, .iload 6, 2), (89, .invokevirtual 151, 3), (92, .imul, 1), (93, .iadd, 1), (94, .istore 5, 2), (96, .iinc 6 1, 3), (99, .goto (-49), 3), (102, .iload 5, 2), (104, .iload_n 3, 1), (105, .if_icmp .le 9, 3), (108, .iload 5, 2), (110, .istore_n 3, 1), (111, .iload 4, 2), (113, .istore_n 2, 1), (114, .iinc 4 1, 3), (117, .goto (-87), 3), (120, .iload_n 1, 1), (121, .ifCond .ne 7, 3), (124, .iload_n 2, 1), (125, .goto 4, 3), (128, .iload_n 3, 1), (129, .ireturn, 1)])
set_option maxRecDepth 100000 in
theorem eX9_dearest : zdec mX9_dearest := by unfold zdec; decide +kernel
theorem fX9_dearest : zMF mX9_dearest 1 := ⟨ztb_t (zt4 _ (List.mem_of_getElem? (i := 136) rfl)) rfl, ztb_t (zt1 _ (List.mem_of_getElem? (i := 1) rfl)) rfl, by decide +kernel, by decide⟩
def mX9_inPlace : zM := (yX9_inPlace, cX9_inPlace, 5, (some FieldType.int), [(0, .aload_n 0, 1), (1, .iconst 0, 1), (2, .iload_n 1, 1), (3, .invokevirtual 117, 3), (6, .ifCond .eq 17, 3), (9, .aload_n 0, 1), (10, .iconst 0, 1), (11, .iload_n 2, 1), (12, .invokevirtual 117, 3), (15, .ifCond .eq 8, 3), (18, .iload_n 1, 1), (19, .iload_n 2, 1), (20, .if_icmp .ne 5, 3), (23, .iconst (-1), 1), (24, .ireturn, 1), (25, .iconst 0, 1), (26, .istore_n 3, 1), (27, .iconst 0, 1), (28, .istore 4, 2), (30, .iload 4, 2), (32, .aload_n 0, 1), (33, .getfield 67, 3), (36, .getfield 208, 3), (39, .iconst 3, 1), (40, .iaload, 1), (41, .if_icmp .ge 27, 3), (44, .aload_n 0, 1), (45, .iload 4, 2), (47, .iload_n 1, 1), (48, .iload_n 2, 1), (49, .invokevirtual 240, 3), (52, .aload_n 0, 1), (53, .invokevirtual 205, 3), (56, .ifCond .ne 6, 3), (59, .iinc 3 1, 3), (62, .iinc 4 1, 3), (65, .goto (-35), 3), (68, .iload_n 3, 1), (69, .ireturn, 1)])
set_option maxRecDepth 100000 in
theorem eX9_inPlace : zdec mX9_inPlace := by unfold zdec; decide +kernel
theorem fX9_inPlace : zMF mX9_inPlace 2 := ⟨ztb_t (zt4 _ (List.mem_of_getElem? (i := 140) rfl)) rfl, ztb_t (zt1 _ (List.mem_of_getElem? (i := 1) rfl)) rfl, by decide +kernel, by decide⟩
def mX9_markDaysInPlace : zM := (yX9_markDaysInPlace, cX9_markDaysInPlace, 7, none, [(0, .aload_n 0, 1), (1, .iload_n 1, 1), (2, .invokevirtual 169, 3), (5, .istore 4, 2), (7, .aload_n 0, 1), (8, .getfield 37, 3), (11, .getfield 220, 3), (14, .aload_n 0, 1), (15, .getfield 37, 3), (18, .getfield 128, 3), (21, .iload_n 1, 1), (22, .iaload, 1), (23, .iaload, 1), (24, .istore 5, 2), (26, .iconst 0, 1), (27, .istore 6, 2), (29, .iload 6, 2), (31, .aload_n 0, 1), (32, .getfield 67, 3), (35, .getfield 208, 3), (38, .iconst 1, 1), (39, .iaload, 1), (40, .if_icmp .ge 80, 3), (43, .aload_n 0, 1), (44, .getfield 67, 3), (47, .getfield 158, 3), (50, .iload 6, 2), (52, .aaload, 1), (53, .iconst 0, 1), (54, .aload_n 0, 1), (55, .getfield 58, 3), (58, .iconst 0, 1), (59, .bipush 6, 2), (61, .invokestatic 243, 3), (64, .aload_n 0, 1), (65, .getfield 58, 3), (68, .iload_n 3, 1), (69, .aload_n 0, 1), (70, .getfield 58, 3), (73, .iload_n 2, 1), (74, .iaload, 1), (75, .iastore, 1), (76, .aload_n 0, 1), (77, .getfield 58, 3), (80, .iload_n 2, 1), (81, .iconst 0, 1), (82, .iastore, 1), (83, .aload_n 0, 1), (84, .getfield 61, 3), (87, .iload 6, 2), (89, .aload_n 0, 1), (90, .getfield 67, 3), (93, .aload_n 0, 1), (94, .getfield 58, 3), (97, .iload 5, 2), (99, .iload 4, 2), (101, .aload_n 0, 1), (102, .getfield 37, 3), (105, .getfield 134, 3), (108, .iload_n 1, 1), (109, .iaload, 1), (110, .invokevirtual 249, 3), (113, .iastore, 1), (114, .iinc 6 1, 3), (117, .goto (-88), 3), (120, .return_, 1)])
set_option maxRecDepth 100000 in
theorem eX9_markDaysInPlace : zdec mX9_markDaysInPlace := by unfold zdec; decide +kernel
theorem fX9_markDaysInPlace : zMF mX9_markDaysInPlace 3 := ⟨ztb_t (zt4 _ (List.mem_of_getElem? (i := 144) rfl)) rfl, ztb_t (zt1 _ (List.mem_of_getElem? (i := 1) rfl)) rfl, by decide +kernel, by decide⟩
def mX9_letter : zM := (yX9_letter, cX9_letter, 7, (some FieldType.int), [(0, .aload_n 0, 1), (1, .iconst 1, 1), (2, .iload_n 1, 1), (3, .invokevirtual 117, 3), (6, .ifCond .eq 22, 3), (9, .aload_n 0, 1), (10, .iconst 3, 1), (11, .iload_n 2, 1), (12, .invokevirtual 117, 3), (15, .ifCond .eq 13, 3), (18, .iload_n 3, 1), (19, .ifCond .lt 9, 3), (22, .iload_n 3, 1), (23, .bipush 10, 2), (25, .if_icmp .le 5, 3), (28, .iconst (-1), 1), (29, .ireturn, 1), (30, .aload_n 0, 1), (31, .iload_n 2, 1), (32, .invokevirtual 169, 3), (35, .istore 4, 2), (37, .aload_n 0, 1), (38, .getfield 67, 3), (41, .aload_n 0, 1), (42, .getfield 67, 3), (45, .getfield 158, 3), (48, .iload_n 1, 1), (49, .aaload, 1), (50, .bipush 100, 2), (52, .bipush 10, 2), (54, .iload_n 3, 1), (55, .imul, 1), (56, .isub, 1), (57, .iload 4, 2), (59, .iconst 0, 1), (60, .invokevirtual 249, 3), (63, .istore 5, 2), (65, .iconst 0, 1), (66, .istore 6, 2), (68, .iload 6, 2), (70, .aload_n 0, 1), (71, .getfield 67, 3), (74, .getfield 208, 3), (77, .iconst 1, 1), (78, .iaload, 1), (79, .if_icmp .ge 39, 3), (82, .aload_n 0, 1), (83, .getfield 67, 3), (86, .aload_n 0, 1), (87, .getfield 67, 3), (90, .getfield 158, 3), (93, .iload 6, 2), (95, .aaload, 1), (96, .bipush 100, 2), (98, .iload 4, 2), (100, .iconst 0, 1), (101, .invokevirtual 249, 3), (104, .iload 5, 2), (106, .if_icmp .ne 6, 3), (109, .iload 6, 2), (111, .ireturn, 1), (112, .iinc 6 1, 3), (115, .goto (-47), 3), (118, .bipush (-2), 2), (120, .ireturn, 1)])
set_option maxRecDepth 100000 in
theorem eX9_letter : zdec mX9_letter := by unfold zdec; decide +kernel
theorem fX9_letter : zMF mX9_letter 3 := ⟨ztb_t (zt4 _ (List.mem_of_getElem? (i := 149) rfl)) rfl, ztb_t (zt1 _ (List.mem_of_getElem? (i := 1) rfl)) rfl, by decide +kernel, by decide⟩
def mX9_firstWrong : zM := (yX9_firstWrong, cX9_firstWrong, 3, (some FieldType.int), [(0, .iload_n 1, 1), (1, .iconst 1, 1), (2, .if_icmp .lt 9, 3), (5, .iload_n 1, 1), (6, .bipush 99, 2), (8, .if_icmp .le 5, 3), (11, .iconst (-1), 1), (12, .ireturn, 1), (13, .aload_n 0, 1), (14, .getfield 44, 3), (17, .aload_n 0, 1), (18, .getfield 37, 3), (21, .invokevirtual 226, 3), (24, .iconst 1, 1), (25, .istore_n 2, 1), (26, .iload_n 2, 1), (27, .iload_n 1, 1), (28, .if_icmp .gt 39, 3), (31, .aload_n 0, 1), (32, .getfield 44, 3), (35, .aload_n 0, 1), (36, .getfield 67, 3), (39, .invokevirtual 198, 3), (42, .aload_n 0, 1), (43, .getfield 44, 3), (46, .getfield 253, 3), (49, .aload_n 0, 1), (50, .getfield 37, 3), (53, .getfield 253, 3), (56, .if_icmp .le 5, 3), (59, .iload_n 2, 1), (60, .ireturn, 1), (61, .iinc 2 1, 3), (64, .goto (-38), 3), (67, .bipush (-2), 2), (69, .ireturn, 1)])
set_option maxRecDepth 100000 in
theorem eX9_firstWrong : zdec mX9_firstWrong := by unfold zdec; decide +kernel
theorem fX9_firstWrong : zMF mX9_firstWrong 1 := ⟨ztb_t (zt4 _ (List.mem_of_getElem? (i := 153) rfl)) rfl, ztb_t (zt1 _ (List.mem_of_getElem? (i := 1) rfl)) rfl, by decide +kernel, by decide⟩
def mX9_rests : zM := (yX9_rests, cX9_rests, 5, (some FieldType.int), [(0, .aload_n 0, 1), (1, .iload_n 1, 1), (2, .invokevirtual 256, 3), (5, .ifCond .ne 5, 3), (8, .iconst (-1), 1), (9, .ireturn, 1), (10, .aload_n 0, 1), (11, .iload_n 1, 1), (12, .invokevirtual 260, 3), (15, .iconst 0, 1), (16, .istore_n 2, 1), (17, .iconst 0, 1), (18, .istore_n 3, 1), (19, .iload_n 3, 1), (20, .aload_n 0, 1), (21, .getfield 67, 3), (24, .getfield 208, 3), (27, .iconst 0, 1), (28, .iaload, 1), (29, .if_icmp .ge 45, 3), (32, .iconst 0, 1), (33, .istore 4, 2), (35, .iload 4, 2), (37, .aload_n 0, 1), (38, .getfield 67, 3), (41, .getfield 208, 3), (44, .iconst 0, 1), (45, .iaload, 1), (46, .if_icmp .ge 22, 3), (49, .aload_n 0, 1), (50, .iload_n 3, 1), (51, .iload 4, 2), (53, .invokevirtual 263, 3), (56, .ifCond .eq 6, 3), (59, .iinc 2 1, 3), (62, .iinc 4 1, 3), (65, .goto (-30), 3), (68, .iinc 3 1, 3), (71, .goto (-52), 3), (74, .iload_n 2, 1), (75, .ireturn, 1)])
set_option maxRecDepth 100000 in
theorem eX9_rests : zdec mX9_rests := by unfold zdec; decide +kernel
theorem fX9_rests : zMF mX9_rests 1 := ⟨ztb_t (zt4 _ (List.mem_of_getElem? (i := 157) rfl)) rfl, ztb_t (zt1 _ (List.mem_of_getElem? (i := 1) rfl)) rfl, by decide +kernel, by decide⟩
def mX9_rest : zM := (yX9_rest, cX9_rest, 6, (some FieldType.int), [(0, .aload_n 0, 1), (1, .iload_n 1, 1), (2, .invokevirtual 256, 3), (5, .ifCond .eq 7, 3), (8, .iload_n 2, 1), (9, .ifCond .ge 5, 3), (12, .iconst (-1), 1), (13, .ireturn, 1), (14, .aload_n 0, 1), (15, .iload_n 1, 1), (16, .invokevirtual 260, 3), (19, .iload_n 2, 1), (20, .istore_n 3, 1), (21, .iconst 0, 1), (22, .istore 4, 2), (24, .iload 4, 2), (26, .aload_n 0, 1), (27, .getfield 67, 3), (30, .getfield 208, 3), (33, .iconst 0, 1), (34, .iaload, 1), (35, .if_icmp .ge 59, 3), (38, .iconst 0, 1), (39, .istore 5, 2), (41, .iload 5, 2), (43, .aload_n 0, 1), (44, .getfield 67, 3), (47, .getfield 208, 3), (50, .iconst 0, 1), (51, .iaload, 1), (52, .if_icmp .ge 36, 3), (55, .aload_n 0, 1), (56, .iload 4, 2), (58, .iload 5, 2), (60, .invokevirtual 263, 3), (63, .ifCond .eq 19, 3), (66, .iload_n 3, 1), (67, .ifCond .ne 12, 3), (70, .bipush 10, 2), (72, .iload 4, 2), (74, .imul, 1), (75, .iload 5, 2), (77, .iadd, 1), (78, .ireturn, 1), (79, .iinc 3 (-1), 3), (82, .iinc 5 1, 3), (85, .goto (-44), 3), (88, .iinc 4 1, 3), (91, .goto (-67), 3), (94, .bipush (-2), 2), (96, .ireturn, 1)])
set_option maxRecDepth 100000 in
theorem eX9_rest : zdec mX9_rest := by unfold zdec; decide +kernel
theorem fX9_rest : zMF mX9_rest 2 := ⟨ztb_t (zt4 _ (List.mem_of_getElem? (i := 177) rfl)) rfl, ztb_t (zt1 _ (List.mem_of_getElem? (i := 1) rfl)) rfl, by decide +kernel, by decide⟩
def mX9_canBurn : zM := (yX9_canBurn, cX9_canBurn, 2, (some FieldType.boolean), [(0, .iload_n 1, 1), (1, .iconst 1, 1), (2, .if_icmp .lt 37, 3), (5, .iload_n 1, 1), (6, .bipush 99, 2), (8, .if_icmp .gt 31, 3), (11, .aload_n 0, 1), (12, .getfield 67, 3), (15, .getfield 208, 3), (18, .iconst 0, 1), (19, .iaload, 1), (20, .ifCond .le 19, 3), (23, .aload_n 0, 1), (24, .getfield 67, 3), (27, .getfield 208, 3), (30, .iconst 1, 1), (31, .iaload, 1), (32, .ifCond .le 7, 3), (35, .iconst 1, 1), (36, .goto 4, 3), (39, .iconst 0, 1), (40, .ireturn, 1)])
set_option maxRecDepth 100000 in
theorem eX9_canBurn : zdec mX9_canBurn := by unfold zdec; decide +kernel
theorem fX9_canBurn : zMF mX9_canBurn 1 := ⟨ztb_t (zt4 _ (List.mem_of_getElem? (i := 161) rfl)) rfl, ztb_t (zt1 _ (List.mem_of_getElem? (i := 1) rfl)) rfl, by decide +kernel, by decide⟩
def mX9_countFeastThinkers : zM := (yX9_countFeastThinkers, cX9_countFeastThinkers, 4, none, [(0, .iconst 0, 1), (1, .istore_n 2, 1), (2, .iload_n 2, 1), (3, .aload_n 0, 1), (4, .getfield 67, 3), (7, .getfield 208, 3), (10, .iconst 0, 1), (11, .iaload, 1), (12, .if_icmp .ge 100, 3), (15, .iconst 0, 1), (16, .istore_n 3, 1), (17, .iload_n 3, 1), (18, .aload_n 0, 1), (19, .getfield 67, 3), (22, .getfield 208, 3), (25, .iconst 0, 1), (26, .iaload, 1), (27, .if_icmp .ge 79, 3), (30, .aload_n 0, 1), (31, .getfield 44, 3), (34, .aload_n 0, 1), (35, .getfield 37, 3), (38, .invokevirtual 226, 3), (41, .aload_n 0, 1), (42, .getfield 44, 3), (45, .getfield 155, 3), (48, .iload_n 2, 1), (49, .dup2, 1), (50, .iaload, 1), (51, .iload_n 1, 1), (52, .iadd, 1), (53, .iastore, 1), (54, .aload_n 0, 1), (55, .getfield 44, 3), (58, .getfield 155, 3), (61, .iload_n 3, 1), (62, .dup2, 1), (63, .iaload, 1), (64, .iload_n 1, 1), (65, .iadd, 1), (66, .iastore, 1), (67, .aload_n 0, 1), (68, .getfield 44, 3), (71, .aload_n 0, 1), (72, .getfield 67, 3), (75, .invokevirtual 198, 3), (78, .aload_n 0, 1), (79, .getfield 54, 3), (82, .iload_n 2, 1), (83, .bipush 6, 2), (85, .imul, 1), (86, .iload_n 3, 1), (87, .iadd, 1), (88, .aload_n 0, 1), (89, .getfield 44, 3), (92, .aload_n 0, 1), (93, .getfield 67, 3), (96, .invokevirtual 266, 3), (99, .iastore, 1), (100, .iinc 3 1, 3), (103, .goto (-86), 3), (106, .iinc 2 1, 3), (109, .goto (-107), 3), (112, .return_, 1)])
set_option maxRecDepth 100000 in
theorem eX9_countFeastThinkers : zdec mX9_countFeastThinkers := by unfold zdec; decide +kernel
theorem fX9_countFeastThinkers : zMF mX9_countFeastThinkers 1 := ⟨ztb_t (zt4 _ (List.mem_of_getElem? (i := 165) rfl)) rfl, ztb_t (zt1 _ (List.mem_of_getElem? (i := 1) rfl)) rfl, by decide +kernel, by decide⟩
def mX9_isRest : zM := (yX9_isRest, cX9_isRest, 7, (some FieldType.boolean), [(0, .aload_n 0, 1), (1, .getfield 54, 3), (4, .iload_n 1, 1), (5, .bipush 6, 2), (7, .imul, 1), (8, .iload_n 2, 1), (9, .iadd, 1), (10, .iaload, 1), (11, .istore_n 3, 1), (12, .iconst 0, 1), (13, .istore 4, 2), (15, .iload 4, 2), (17, .aload_n 0, 1), (18, .getfield 67, 3), (21, .getfield 208, 3), (24, .iconst 0, 1), (25, .iaload, 1), (26, .if_icmp .ge 67, 3), (29, .aload_n 0, 1), (30, .getfield 54, 3), (33, .iload 4, 2), (35, .bipush 6, 2), (37, .imul, 1), (38, .iload_n 2, 1), (39, .iadd, 1), (40, .iaload, 1), (41, .iload_n 3, 1), (42, .if_icmp .le 7, 3), (45, .iconst 1, 1), (46, .goto 4, 3), (49, .iconst 0, 1), (50, .istore 5, 2), (52, .aload_n 0, 1), (53, .getfield 54, 3), (56, .iload_n 1, 1), (57, .bipush 6, 2), (59, .imul, 1), (60, .iload 4, 2), (62, .iadd, 1), (63, .iaload, 1), (64, .iload_n 3, 1), (65, .if_icmp .ge 7, 3), (68, .iconst 1, 1), (69, .goto 4, 3), (72, .iconst 0, 1), (73, .istore 6, 2), (75, .iload 5, 2), (77, .ifCond .ne 8, 3), (80, .iload 6, 2), (82, .ifCond .eq 5, 3), (85, .iconst 0, 1), (86, .ireturn, 1), (87, .iinc 4 1, 3), (90, .goto (-75), 3), (93, .iconst 1, 1), (94, .ireturn, 1)])
set_option maxRecDepth 100000 in
theorem eX9_isRest : zdec mX9_isRest := by unfold zdec; decide +kernel
theorem fX9_isRest : zMF mX9_isRest 2 := ⟨ztb_t (zt4 _ (List.mem_of_getElem? (i := 173) rfl)) rfl, ztb_t (zt1 _ (List.mem_of_getElem? (i := 1) rfl)) rfl, by decide +kernel, by decide⟩
def mX9_note : zM := (yX9_note, cX9_note, 5, (some FieldType.int), [(0, .iload_n 1, 1), (1, .iconst 1, 1), (2, .if_icmp .lt 27, 3), (5, .iload_n 1, 1), (6, .bipush 40, 2), (8, .if_icmp .gt 21, 3), (11, .aload_n 0, 1), (12, .iconst 3, 1), (13, .iload_n 2, 1), (14, .invokevirtual 117, 3), (17, .ifCond .eq 12, 3), (20, .aload_n 0, 1), (21, .iconst 1, 1), (22, .iload_n 3, 1), (23, .invokevirtual 117, 3), (26, .ifCond .ne 5, 3), (29, .iconst (-1), 1), (30, .ireturn, 1), (31, .aload_n 0, 1), (32, .getfield 23, 3), (35, .iload_n 1, 1), (36, .iload_n 2, 1), (37, .iload_n 3, 1), (38, .iload 4, 2), (40, .invokevirtual 268, 3), (43, .ireturn, 1)])
set_option maxRecDepth 100000 in
theorem eX9_note : zdec mX9_note := by unfold zdec; decide +kernel
theorem fX9_note : zMF mX9_note 4 := ⟨ztb_t (zt4 _ (List.mem_of_getElem? (i := 181) rfl)) rfl, ztb_t (zt1 _ (List.mem_of_getElem? (i := 1) rfl)) rfl, by decide +kernel, by decide⟩
def mX9_out : zM := (yX9_out, cX9_out, 2, (some FieldType.int), [(0, .aload_n 0, 1), (1, .getfield 23, 3), (4, .iload_n 1, 1), (5, .invokevirtual 271, 3), (8, .ireturn, 1)])
set_option maxRecDepth 100000 in
theorem eX9_out : zdec mX9_out := by unfold zdec; decide +kernel
theorem fX9_out : zMF mX9_out 1 := ⟨ztb_t (zt4 _ (List.mem_of_getElem? (i := 189) rfl)) rfl, ztb_t (zt1 _ (List.mem_of_getElem? (i := 1) rfl)) rfl, by decide +kernel, by decide⟩
def mX9_known : zM := (yX9_known, cX9_known, 2, (some FieldType.boolean), [(0, .iload_n 1, 1), (1, .iconst (-1), 1), (2, .if_icmp .lt 14, 3), (5, .iload_n 1, 1), (6, .aload_n 0, 1), (7, .getfield 23, 3), (10, .getfield 274, 3), (13, .if_icmp .le 5, 3), (16, .iconst 0, 1), (17, .ireturn, 1), (18, .aload_n 0, 1), (19, .getfield 23, 3), (22, .iload_n 1, 1), (23, .putfield 277, 3), (26, .iconst 1, 1), (27, .ireturn, 1)])
set_option maxRecDepth 100000 in
theorem eX9_known : zdec mX9_known := by unfold zdec; decide +kernel
theorem fX9_known : zMF mX9_known 1 := ⟨ztb_t (zt4 _ (List.mem_of_getElem? (i := 197) rfl)) rfl, ztb_t (zt1 _ (List.mem_of_getElem? (i := 1) rfl)) rfl, by decide +kernel, by decide⟩
def mX9_colds : zM := (yX9_colds, cX9_colds, 4, (some FieldType.int), [(0, .aload_n 0, 1), (1, .iconst 3, 1), (2, .iload_n 1, 1), (3, .invokevirtual 117, 3), (6, .ifCond .ne 5, 3), (9, .iconst (-1), 1), (10, .ireturn, 1), (11, .aload_n 0, 1), (12, .getfield 23, 3), (15, .invokevirtual 280, 3), (18, .iconst 0, 1), (19, .istore_n 2, 1), (20, .iconst 0, 1), (21, .istore_n 3, 1), (22, .iload_n 3, 1), (23, .aload_n 0, 1), (24, .getfield 67, 3), (27, .getfield 208, 3), (30, .iconst 0, 1), (31, .iaload, 1), (32, .if_icmp .gt 58, 3), (35, .aload_n 0, 1), (36, .getfield 44, 3), (39, .aload_n 0, 1), (40, .getfield 67, 3), (43, .invokevirtual 71, 3), (46, .iload_n 3, 1), (47, .aload_n 0, 1), (48, .getfield 67, 3), (51, .getfield 208, 3), (54, .iconst 0, 1), (55, .iaload, 1), (56, .if_icmp .ge 15, 3), (59, .aload_n 0, 1), (60, .getfield 44, 3), (63, .getfield 134, 3), (66, .iload_n 1, 1), (67, .iconst 1, 1), (68, .iload_n 3, 1), (69, .ishl, 1), (70, .iastore, 1), (71, .aload_n 0, 1), (72, .invokevirtual 283, 3), (75, .ifCond .eq 9, 3), (78, .iload_n 2, 1), (79, .iconst 1, 1), (80, .iload_n 3, 1), (81, .ishl, 1), (82, .ior, 1), (83, .istore_n 2, 1), (84, .iinc 3 1, 3), (87, .goto (-65), 3), (90, .iload_n 2, 1), (91, .ireturn, 1)])
set_option maxRecDepth 100000 in
theorem eX9_colds : zdec mX9_colds := by unfold zdec; decide +kernel
theorem fX9_colds : zMF mX9_colds 1 := ⟨ztb_t (zt4 _ (List.mem_of_getElem? (i := 201) rfl)) rfl, ztb_t (zt1 _ (List.mem_of_getElem? (i := 1) rfl)) rfl, by decide +kernel, by decide⟩
def mX9_agreesWithNotes : zM := (yX9_agreesWithNotes, cX9_agreesWithNotes, 3, (some FieldType.boolean), [(0, .aload_n 0, 1), (1, .getfield 23, 3), (4, .invokevirtual 286, 3), (7, .istore_n 1, 1), (8, .iconst 1, 1), (9, .istore_n 2, 1), (10, .iload_n 2, 1), (11, .iload_n 1, 1), (12, .if_icmp .gt 40, 3), (15, .aload_n 0, 1), (16, .getfield 44, 3), (19, .aload_n 0, 1), (20, .getfield 67, 3), (23, .invokevirtual 198, 3), (26, .aload_n 0, 1), (27, .getfield 23, 3), (30, .iload_n 2, 1), (31, .aload_n 0, 1), (32, .getfield 44, 3), (35, .getfield 140, 3), (38, .invokevirtual 289, 3), (41, .ifCond .ne 5, 3), (44, .iconst 0, 1), (45, .ireturn, 1), (46, .iinc 2 1, 3), (49, .goto (-39), 3), (52, .iconst 1, 1), (53, .ireturn, 1)])
set_option maxRecDepth 100000 in
theorem eX9_agreesWithNotes : zdec mX9_agreesWithNotes := by unfold zdec; decide +kernel
theorem fX9_agreesWithNotes : zMF mX9_agreesWithNotes 0 := ⟨ztb_t (zt4 _ (List.mem_of_getElem? (i := 213) rfl)) rfl, ztb_t (zt1 _ (List.mem_of_getElem? (i := 1) rfl)) rfl, by decide +kernel, by decide⟩
def mX9_chance : zM := (yX9_chance, cX9_chance, 7, (some FieldType.int), [(0, .iload_n 1, 1), (1, .ifCond .lt 36, 3), (4, .iload_n 2, 1), (5, .iconst 1, 1), (6, .if_icmp .lt 31, 3), (9, .iload_n 2, 1), (10, .bipush 40, 2), (12, .if_icmp .gt 25, 3), (15, .iload_n 3, 1), (16, .ifCond .lt 21, 3), (19, .iload_n 3, 1), (20, .bipush 40, 2), (22, .if_icmp .gt 15, 3), (25, .aload_n 0, 1), (26, .getfield 67, 3), (29, .getfield 208, 3), (32, .iconst 0, 1), (33, .iaload, 1), (34, .ifCond .ne 5, 3), (37, .iconst (-1), 1), (38, .ireturn, 1), (39, .aload_n 0, 1), (40, .getfield 50, 3), (43, .iload_n 1, 1), (44, .invokevirtual 293, 3), (47, .iconst 0, 1), (48, .istore 4, 2), (50, .iconst 0, 1), (51, .istore 5, 2), (53, .iload 5, 2), (55, .bipush 10, 2), (57, .if_icmp .ge 72, 3), (60, .aload_n 0, 1), (61, .getfield 44, 3), (64, .aload_n 0, 1), (65, .getfield 37, 3), (68, .invokevirtual 226, 3), (71, .iconst 0, 1), (72, .istore 6, 2), (74, .iload 6, 2), (76, .iload_n 2, 1), (77, .if_icmp .ge 24, 3), (80, .aload_n 0, 1), (81, .invokevirtual 295, 3), (84, .aload_n 0, 1), (85, .getfield 44, 3), (88, .aload_n 0, 1), (89, .getfield 67, 3), (92, .invokevirtual 198, 3), (95, .iinc 6 1, 3), (98, .goto (-24), 3), (101, .aload_n 0, 1), (102, .getfield 44, 3), (105, .getfield 298, 3), (108, .aload_n 0, 1), (109, .getfield 37, 3), (112, .getfield 298, 3), (115, .isub, 1), (116, .iload_n 3, 1), (117, .if_icmp .lt 6, 3), (120, .iinc 4 1, 3), (123, .iinc 5 1, 3), (126, .goto (-73), 3), (129, .iload 4, 2), (131, .ireturn, 1)])
set_option maxRecDepth 100000 in
theorem eX9_chance : zdec mX9_chance := by unfold zdec; decide +kernel
theorem fX9_chance : zMF mX9_chance 3 := ⟨ztb_t (zt4 _ (List.mem_of_getElem? (i := 230) rfl)) rfl, ztb_t (zt1 _ (List.mem_of_getElem? (i := 1) rfl)) rfl, by decide +kernel, by decide⟩
def mX9_blowByChance : zM := (yX9_blowByChance, cX9_blowByChance, 2, none, [(0, .aload_n 0, 1), (1, .getfield 67, 3), (4, .getfield 208, 3), (7, .iconst 0, 1), (8, .iaload, 1), (9, .istore_n 1, 1), (10, .aload_n 0, 1), (11, .getfield 50, 3), (14, .invokevirtual 301, 3), (17, .iconst 4, 1), (18, .irem, 1), (19, .ifCond .ne 26, 3), (22, .iload_n 1, 1), (23, .ifCond .le 22, 3), (26, .aload_n 0, 1), (27, .getfield 44, 3), (30, .getfield 155, 3), (33, .aload_n 0, 1), (34, .getfield 50, 3), (37, .invokevirtual 301, 3), (40, .iload_n 1, 1), (41, .irem, 1), (42, .bipush 9, 2), (44, .iastore, 1), (45, .return_, 1)])
set_option maxRecDepth 100000 in
theorem eX9_blowByChance : zdec mX9_blowByChance := by unfold zdec; decide +kernel
theorem fX9_blowByChance : zMF mX9_blowByChance 0 := ⟨ztb_t (zt4 _ (List.mem_of_getElem? (i := 238) rfl)) rfl, ztb_t (zt1 _ (List.mem_of_getElem? (i := 1) rfl)) rfl, by decide +kernel, by decide⟩
def mX9_tried : zM := (yX9_tried, cX9_tried, 6, (some FieldType.int), [(0, .iload_n 1, 1), (1, .iconst 3, 1), (2, .if_icmp .ne 12, 3), (5, .aload_n 0, 1), (6, .iconst 3, 1), (7, .iload_n 2, 1), (8, .invokevirtual 117, 3), (11, .goto 12, 3), (14, .iload_n 2, 1), (15, .ifCond .ne 7, 3), (18, .iconst 1, 1), (19, .goto 4, 3), (22, .iconst 0, 1), (23, .istore 4, 2), (25, .iload_n 1, 1), (26, .ifCond .lt 23, 3), (29, .iload_n 1, 1), (30, .iconst 5, 1), (31, .if_icmp .gt 18, 3), (34, .iload 4, 2), (36, .ifCond .eq 13, 3), (39, .iload_n 3, 1), (40, .ifCond .lt 9, 3), (43, .iload_n 3, 1), (44, .bipush 99, 2), (46, .if_icmp .le 5, 3), (49, .iconst (-1), 1), (50, .ireturn, 1), (51, .aload_n 0, 1), (52, .getfield 44, 3), (55, .aload_n 0, 1), (56, .getfield 37, 3), (59, .invokevirtual 226, 3), (62, .aload_n 0, 1), (63, .iload_n 1, 1), (64, .iload_n 2, 1), (65, .invokevirtual 304, 3), (68, .iconst 0, 1), (69, .istore 5, 2), (71, .iload 5, 2), (73, .iload_n 3, 1), (74, .if_icmp .ge 32, 3), (77, .iload_n 1, 1), (78, .iconst 1, 1), (79, .if_icmp .ne 10, 3), (82, .aload_n 0, 1), (83, .getfield 44, 3), (86, .invokevirtual 307, 3), (89, .aload_n 0, 1), (90, .getfield 44, 3), (93, .aload_n 0, 1), (94, .getfield 67, 3), (97, .invokevirtual 198, 3), (100, .iinc 5 1, 3), (103, .goto (-32), 3), (106, .aload_n 0, 1), (107, .getfield 44, 3), (110, .getfield 298, 3), (113, .aload_n 0, 1), (114, .getfield 37, 3), (117, .getfield 298, 3), (120, .isub, 1), (121, .ireturn, 1)])
set_option maxRecDepth 100000 in
theorem eX9_tried : zdec mX9_tried := by unfold zdec; decide +kernel
theorem fX9_tried : zMF mX9_tried 3 := ⟨ztb_t (zt5 _ (List.mem_of_getElem? (i := 10) rfl)) rfl, ztb_t (zt1 _ (List.mem_of_getElem? (i := 1) rfl)) rfl, by decide +kernel, by decide⟩
def mX9_changeTrial : zM := (yX9_changeTrial, cX9_changeTrial, 4, none, [(0, .iconst 0, 1), (1, .istore_n 3, 1), (2, .iload_n 1, 1), (3, .iconst 2, 1), (4, .if_icmp .ne 24, 3), (7, .iload_n 3, 1), (8, .iconst 5, 1), (9, .if_icmp .ge 19, 3), (12, .aload_n 0, 1), (13, .getfield 44, 3), (16, .getfield 134, 3), (19, .iload_n 3, 1), (20, .iconst 0, 1), (21, .iastore, 1), (22, .iinc 3 1, 3), (25, .goto (-23), 3), (28, .iload_n 1, 1), (29, .iconst 3, 1), (30, .if_icmp .ne 11, 3), (33, .aload_n 0, 1), (34, .getfield 44, 3), (37, .iload_n 2, 1), (38, .putfield 310, 3), (41, .iconst 0, 1), (42, .istore_n 3, 1), (43, .iload_n 1, 1), (44, .iconst 4, 1), (45, .if_icmp .ne 27, 3), (48, .iload_n 3, 1), (49, .bipush 6, 2), (51, .if_icmp .ge 21, 3), (54, .aload_n 0, 1), (55, .getfield 44, 3), (58, .getfield 148, 3), (61, .iload_n 3, 1), (62, .ldc_w 313, 3), (65, .iastore, 1), (66, .iinc 3 1, 3), (69, .goto (-26), 3), (72, .iconst 0, 1), (73, .istore_n 3, 1), (74, .iload_n 1, 1), (75, .iconst 5, 1), (76, .if_icmp .ne 26, 3), (79, .iload_n 3, 1), (80, .bipush 6, 2), (82, .if_icmp .ge 20, 3), (85, .aload_n 0, 1), (86, .getfield 44, 3), (89, .getfield 220, 3), (92, .iload_n 3, 1), (93, .bipush 100, 2), (95, .iastore, 1), (96, .iinc 3 1, 3), (99, .goto (-25), 3), (102, .return_, 1)])
set_option maxRecDepth 100000 in
theorem eX9_changeTrial : zdec mX9_changeTrial := by unfold zdec; decide +kernel
theorem fX9_changeTrial : zMF mX9_changeTrial 2 := ⟨ztb_t (zt5 _ (List.mem_of_getElem? (i := 14) rfl)) rfl, ztb_t (zt1 _ (List.mem_of_getElem? (i := 1) rfl)) rfl, by decide +kernel, by decide⟩
def mX9_undo : zM := (yX9_undo, cX9_undo, 1, (some FieldType.int), [(0, .aload_n 0, 1), (1, .getfield 30, 3), (4, .aload_n 0, 1), (5, .getfield 37, 3), (8, .invokevirtual 314, 3), (11, .ireturn, 1)])
set_option maxRecDepth 100000 in
theorem eX9_undo : zdec mX9_undo := by unfold zdec; decide +kernel
theorem fX9_undo : zMF mX9_undo 0 := ⟨ztb_t (zt5 _ (List.mem_of_getElem? (i := 20) rfl)) rfl, ztb_t (zt1 _ (List.mem_of_getElem? (i := 1) rfl)) rfl, by decide +kernel, by decide⟩
def mX9_keep : zM := (yX9_keep, cX9_keep, 1, (some FieldType.int), [(0, .aload_n 0, 1), (1, .getfield 41, 3), (4, .aload_n 0, 1), (5, .getfield 37, 3), (8, .invokevirtual 226, 3), (11, .aload_n 0, 1), (12, .iconst 1, 1), (13, .putfield 103, 3), (16, .aload_n 0, 1), (17, .getfield 37, 3), (20, .getfield 195, 3), (23, .ireturn, 1)])
set_option maxRecDepth 100000 in
theorem eX9_keep : zdec mX9_keep := by unfold zdec; decide +kernel
theorem fX9_keep : zMF mX9_keep 0 := ⟨ztb_t (zt5 _ (List.mem_of_getElem? (i := 28) rfl)) rfl, ztb_t (zt1 _ (List.mem_of_getElem? (i := 1) rfl)) rfl, by decide +kernel, by decide⟩
def mX9_back : zM := (yX9_back, cX9_back, 1, (some FieldType.int), [(0, .aload_n 0, 1), (1, .getfield 103, 3), (4, .ifCond .ne 5, 3), (7, .iconst (-1), 1), (8, .ireturn, 1), (9, .aload_n 0, 1), (10, .getfield 37, 3), (13, .aload_n 0, 1), (14, .getfield 41, 3), (17, .invokevirtual 226, 3), (20, .aload_n 0, 1), (21, .getfield 30, 3), (24, .invokevirtual 102, 3), (27, .aload_n 0, 1), (28, .getfield 37, 3), (31, .getfield 195, 3), (34, .ireturn, 1)])
set_option maxRecDepth 100000 in
theorem eX9_back : zdec mX9_back := by unfold zdec; decide +kernel
theorem fX9_back : zMF mX9_back 0 := ⟨ztb_t (zt5 _ (List.mem_of_getElem? (i := 32) rfl)) rfl, ztb_t (zt1 _ (List.mem_of_getElem? (i := 1) rfl)) rfl, by decide +kernel, by decide⟩
def mX9_count : zM := (yX9_count, cX9_count, 2, (some FieldType.int), [(0, .iload_n 1, 1), (1, .ifCond .lt 18, 3), (4, .iload_n 1, 1), (5, .iconst 3, 1), (6, .if_icmp .gt 13, 3), (9, .aload_n 0, 1), (10, .getfield 67, 3), (13, .getfield 208, 3), (16, .iload_n 1, 1), (17, .iaload, 1), (18, .ireturn, 1), (19, .iload_n 1, 1), (20, .tableswitch 136 4 13 #[56, 64, 75, 83, 91, 99, 107, 112, 120, 128], 56), (76, .aload_n 0, 1), (77, .getfield 67, 3), (80, .getfield 318, 3), (83, .ireturn, 1), (84, .aload_n 0, 1), (85, .getfield 67, 3), (88, .getfield 321, 3), (91, .getfield 325, 3), (94, .ireturn, 1), (95, .aload_n 0, 1), (96, .getfield 37, 3), (99, .getfield 195, 3), (102, .ireturn, 1), (103, .aload_n 0, 1), (104, .getfield 37, 3), (107, .getfield 330, 3), (110, .ireturn, 1), (111, .aload_n 0, 1), (112, .getfield 37, 3), (115, .getfield 298, 3), (118, .ireturn, 1), (119, .aload_n 0, 1), (120, .getfield 37, 3), (123, .getfield 253, 3), (126, .ireturn, 1), (127, .aload_n 0, 1), (128, .invokevirtual 333, 3), (131, .ireturn, 1), (132, .aload_n 0, 1), (133, .getfield 23, 3), (136, .getfield 274, 3), (139, .ireturn, 1), (140, .aload_n 0, 1), (141, .getfield 23, 3), (144, .invokevirtual 336, 3), (147, .ireturn, 1), (148, .aload_n 0, 1), (149, .getfield 30, 3), (152, .getfield 339, 3), (155, .ireturn, 1), (156, .iconst (-1), 1), (157, .ireturn, 1)])
set_option maxRecDepth 100000 in
theorem eX9_count : zdec mX9_count := by unfold zdec; decide +kernel
theorem fX9_count : zMF mX9_count 1 := ⟨ztb_t (zt5 _ (List.mem_of_getElem? (i := 36) rfl)) rfl, ztb_t (zt1 _ (List.mem_of_getElem? (i := 1) rfl)) rfl, by decide +kernel, by decide⟩
def mX9_allStores : zM := (yX9_allStores, cX9_allStores, 3, (some FieldType.int), [(0, .iconst 0, 1), (1, .istore_n 1, 1), (2, .iconst 0, 1), (3, .istore_n 2, 1), (4, .iload_n 2, 1), (5, .aload_n 0, 1), (6, .getfield 67, 3), (9, .getfield 208, 3), (12, .iconst 0, 1), (13, .iaload, 1), (14, .if_icmp .ge 21, 3), (17, .iload_n 1, 1), (18, .aload_n 0, 1), (19, .getfield 37, 3), (22, .getfield 148, 3), (25, .iload_n 2, 1), (26, .iaload, 1), (27, .iadd, 1), (28, .istore_n 1, 1), (29, .iinc 2 1, 3), (32, .goto (-28), 3), (35, .iload_n 1, 1), (36, .ireturn, 1)])
set_option maxRecDepth 100000 in
theorem eX9_allStores : zdec mX9_allStores := by unfold zdec; decide +kernel
theorem fX9_allStores : zMF mX9_allStores 0 := ⟨ztb_t (zt5 _ (List.mem_of_getElem? (i := 40) rfl)) rfl, ztb_t (zt1 _ (List.mem_of_getElem? (i := 1) rfl)) rfl, by decide +kernel, by decide⟩
def mX9_has : zM := (yX9_has, cX9_has, 3, (some FieldType.boolean), [(0, .iload_n 2, 1), (1, .ifCond .lt 20, 3), (4, .iload_n 2, 1), (5, .aload_n 0, 1), (6, .getfield 67, 3), (9, .getfield 208, 3), (12, .iload_n 1, 1), (13, .iaload, 1), (14, .if_icmp .ge 7, 3), (17, .iconst 1, 1), (18, .goto 4, 3), (21, .iconst 0, 1), (22, .ireturn, 1)])
set_option maxRecDepth 100000 in
theorem eX9_has : zdec mX9_has := by unfold zdec; decide +kernel
theorem fX9_has : zMF mX9_has 2 := ⟨ztb_t (zt3 _ (List.mem_of_getElem? (i := 173) rfl)) rfl, ztb_t (zt1 _ (List.mem_of_getElem? (i := 1) rfl)) rfl, by decide +kernel, by decide⟩
def mX9_keenNow : zM := (yX9_keenNow, cX9_keenNow, 2, (some FieldType.int), [(0, .aload_n 0, 1), (1, .getfield 37, 3), (4, .aload_n 0, 1), (5, .getfield 67, 3), (8, .iload_n 1, 1), (9, .aload_n 0, 1), (10, .getfield 37, 3), (13, .getfield 128, 3), (16, .iload_n 1, 1), (17, .iaload, 1), (18, .invokevirtual 340, 3), (21, .ireturn, 1)])
set_option maxRecDepth 100000 in
theorem eX9_keenNow : zdec mX9_keenNow := by unfold zdec; decide +kernel
theorem fX9_keenNow : zMF mX9_keenNow 1 := ⟨ztb_t (zt3 _ (List.mem_of_getElem? (i := 228) rfl)) rfl, ztb_t (zt1 _ (List.mem_of_getElem? (i := 1) rfl)) rfl, by decide +kernel, by decide⟩
def mX9_markDays : zM := (yX9_markDays, cX9_markDays, 5, none, [(0, .aload_n 0, 1), (1, .getfield 37, 3), (4, .aload_n 0, 1), (5, .getfield 67, 3), (8, .iload_n 1, 1), (9, .iload_n 2, 1), (10, .invokevirtual 340, 3), (13, .istore_n 3, 1), (14, .iconst 0, 1), (15, .istore 4, 2), (17, .iload 4, 2), (19, .aload_n 0, 1), (20, .getfield 67, 3), (23, .getfield 208, 3), (26, .iconst 1, 1), (27, .iaload, 1), (28, .if_icmp .ge 52, 3), (31, .aload_n 0, 1), (32, .getfield 61, 3), (35, .iload 4, 2), (37, .aload_n 0, 1), (38, .getfield 67, 3), (41, .aload_n 0, 1), (42, .getfield 67, 3), (45, .getfield 158, 3), (48, .iload 4, 2), (50, .aaload, 1), (51, .aload_n 0, 1), (52, .getfield 37, 3), (55, .getfield 220, 3), (58, .iload_n 2, 1), (59, .iaload, 1), (60, .iload_n 3, 1), (61, .aload_n 0, 1), (62, .getfield 37, 3), (65, .getfield 134, 3), (68, .iload_n 1, 1), (69, .iaload, 1), (70, .invokevirtual 249, 3), (73, .iastore, 1), (74, .iinc 4 1, 3), (77, .goto (-60), 3), (80, .return_, 1)])
set_option maxRecDepth 100000 in
theorem eX9_markDays : zdec mX9_markDays := by unfold zdec; decide +kernel
theorem fX9_markDays : zMF mX9_markDays 2 := ⟨ztb_t (zt4 _ (List.mem_of_getElem? (i := 83) rfl)) rfl, ztb_t (zt1 _ (List.mem_of_getElem? (i := 1) rfl)) rfl, by decide +kernel, by decide⟩
def mX9_alikePairs : zM := (yX9_alikePairs, cX9_alikePairs, 4, (some FieldType.int), [(0, .iconst 0, 1), (1, .istore_n 1, 1), (2, .iconst 0, 1), (3, .istore_n 2, 1), (4, .iload_n 2, 1), (5, .aload_n 0, 1), (6, .getfield 67, 3), (9, .getfield 208, 3), (12, .iconst 1, 1), (13, .iaload, 1), (14, .if_icmp .ge 50, 3), (17, .iload_n 2, 1), (18, .iconst 1, 1), (19, .iadd, 1), (20, .istore_n 3, 1), (21, .iload_n 3, 1), (22, .aload_n 0, 1), (23, .getfield 67, 3), (26, .getfield 208, 3), (29, .iconst 1, 1), (30, .iaload, 1), (31, .if_icmp .ge 27, 3), (34, .aload_n 0, 1), (35, .getfield 61, 3), (38, .iload_n 2, 1), (39, .iaload, 1), (40, .aload_n 0, 1), (41, .getfield 61, 3), (44, .iload_n 3, 1), (45, .iaload, 1), (46, .if_icmp .ne 6, 3), (49, .iinc 1 1, 3), (52, .iinc 3 1, 3), (55, .goto (-34), 3), (58, .iinc 2 1, 3), (61, .goto (-57), 3), (64, .iload_n 1, 1), (65, .ireturn, 1)])
set_option maxRecDepth 100000 in
theorem eX9_alikePairs : zdec mX9_alikePairs := by unfold zdec; decide +kernel
theorem fX9_alikePairs : zMF mX9_alikePairs 0 := ⟨ztb_t (zt4 _ (List.mem_of_getElem? (i := 88) rfl)) rfl, ztb_t (zt1 _ (List.mem_of_getElem? (i := 1) rfl)) rfl, by decide +kernel, by decide⟩
def mX9_unlikeMarks : zM := (yX9_unlikeMarks, cX9_unlikeMarks, 5, (some FieldType.int), [(0, .iconst 0, 1), (1, .istore_n 1, 1), (2, .iconst 0, 1), (3, .istore_n 2, 1), (4, .iload_n 2, 1), (5, .aload_n 0, 1), (6, .getfield 67, 3), (9, .getfield 208, 3), (12, .iconst 1, 1), (13, .iaload, 1), (14, .if_icmp .ge 59, 3), (17, .iconst 1, 1), (18, .istore_n 3, 1), (19, .iconst 0, 1), (20, .istore 4, 2), (22, .iload 4, 2), (24, .iload_n 2, 1), (25, .if_icmp .ge 35, 3), (28, .iload_n 3, 1), (29, .ifCond .eq 23, 3), (32, .aload_n 0, 1), (33, .getfield 61, 3), (36, .iload 4, 2), (38, .iaload, 1), (39, .aload_n 0, 1), (40, .getfield 61, 3), (43, .iload_n 2, 1), (44, .iaload, 1), (45, .if_icmp .eq 7, 3), (48, .iconst 1, 1), (49, .goto 4, 3), (52, .iconst 0, 1), (53, .istore_n 3, 1), (54, .iinc 4 1, 3), (57, .goto (-35), 3), (60, .iload_n 3, 1), (61, .ifCond .eq 6, 3), (64, .iinc 1 1, 3), (67, .iinc 2 1, 3), (70, .goto (-66), 3), (73, .iload_n 1, 1), (74, .ireturn, 1)])
set_option maxRecDepth 100000 in
theorem eX9_unlikeMarks : zdec mX9_unlikeMarks := by unfold zdec; decide +kernel
theorem fX9_unlikeMarks : zMF mX9_unlikeMarks 0 := ⟨ztb_t (zt4 _ (List.mem_of_getElem? (i := 111) rfl)) rfl, ztb_t (zt1 _ (List.mem_of_getElem? (i := 1) rfl)) rfl, by decide +kernel, by decide⟩
def mX10_init : zM := (yX10_init, cX10_init, 1, none, [(0, .aload_n 0, 1), (1, .invokespecial 1, 3), (4, .aload_n 0, 1), (5, .sipush 700, 3), (8, .newarray .int, 2), (10, .putfield 7, 3), (13, .aload_n 0, 1), (14, .bipush 16, 2), (16, .newarray .int, 2), (18, .putfield 13, 3), (21, .aload_n 0, 1), (22, .bipush 12, 2), (24, .newarray .int, 2), (26, .putfield 16, 3), (29, .aload_n 0, 1), (30, .bipush 12, 2), (32, .newarray .int, 2), (34, .putfield 19, 3), (37, .aload_n 0, 1), (38, .bipush 16, 2), (40, .newarray .int, 2), (42, .putfield 22, 3), (45, .aload_n 0, 1), (46, .bipush 16, 2), (48, .newarray .int, 2), (50, .putfield 25, 3), (53, .aload_n 0, 1), (54, .bipush 96, 2), (56, .newarray .int, 2), (58, .putfield 28, 3), (61, .aload_n 0, 1), (62, .bipush 12, 2), (64, .newarray .int, 2), (66, .putfield 31, 3), (69, .aload_n 0, 1), (70, .bipush 12, 2), (72, .newarray .int, 2), (74, .putfield 34, 3), (77, .aload_n 0, 1), (78, .bipush 10, 2), (80, .newarray .int, 2), (82, .putfield 37, 3), (85, .aload_n 0, 1), (86, .bipush 10, 2), (88, .newarray .int, 2), (90, .putfield 40, 3), (93, .aload_n 0, 1), (94, .bipush 10, 2), (96, .newarray .int, 2), (98, .putfield 43, 3), (101, .aload_n 0, 1), (102, .bipush 6, 2), (104, .newarray .int, 2), (106, .putfield 46, 3), (109, .aload_n 0, 1), (110, .bipush 6, 2), (112, .newarray .int, 2), (114, .putfield 49, 3), (117, .aload_n 0, 1), (118, .sipush 128, 3), (121, .newarray .int, 2), (123, .putfield 52, 3), (126, .aload_n 0, 1), (127, .sipush 128, 3), (130, .newarray .int, 2), (132, .putfield 55, 3), (135, .aload_n 0, 1), (136, .iconst (-1), 1), (137, .putfield 58, 3), (140, .aload_n 0, 1), (141, .bipush 7, 2), (143, .newarray .long, 2), (145, .putfield 62, 3), (148, .aload_n 0, 1), (149, .bipush 64, 2), (151, .newarray .long, 2), (153, .putfield 66, 3), (156, .aload_n 0, 1), (157, .bipush 23, 2), (159, .newarray .int, 2), (161, .putfield 69, 3), (164, .aload_n 0, 1), (165, .bipush 23, 2), (167, .newarray .int, 2), (169, .putfield 72, 3), (172, .aload_n 0, 1), (173, .bipush 23, 2), (175, .newarray .int, 2), (177, .putfield 75, 3), (180, .aload_n 0, 1), (181, .bipush 23, 2), (183, .newarray .int, 2), (185, .putfield 78, 3), (188, .aload_n 0, 1), (189, .bipush 23, 2), (191, .newarray .int, 2), (193, .putfield 81, 3), (196, .aload_n 0, 1), (197, .sipush 138, 3), (200, .newarray .int, 2), (202, .putfield 84, 3), (205, .aload_n 0, 1), (206, .sipush 138, 3), (209, .newarray .int, 2), (211, .putfield 87, 3), (214, .aload_n 0, 1), (215, .sipush 828, 3), (218, .newarray .int, 2), (220, .putfield 90, 3), (223, .aload_n 0, 1), (224, .bipush 115, 2), (226, .newarray .int, 2), (228, .putfield 93, 3), (231, .aload_n 0, 1), (232, .bipush 115, 2), (234, .newarray .int, 2), (236, .putfield 96, 3), (239, .aload_n 0, 1), (240, .bipush 115, 2), (242, .newarray .int, 2), (244, .putfield 99, 3), (247, .aload_n 0, 1), (248, .bipush 115, 2), (250, .newarray .int, 2), (252, .putfield 102, 3), (255, .aload_n 0, 1), (256, .iconst (-1), 1), (257, .putfield 105, 3), (260, .aload_n 0, 1), (261, .iconst (-1), 1), (262, .putfield 108, 3), (265, .aload_n 0, 1), (266, .iconst (-1), 1), (267, .putfield 111, 3), (270, .aload_n 0, 1), (271, .iconst (-1), 1), (272, .putfield 114, 3), (275, .aload_n 0, 1), (276, .iconst (-1), 1), (277, .putfield 117, 3), (280, .aload_n 0, 1), (281, .bipush 8, 2), (283, .newarray .int, 2), (285, .putfield 120, 3), (288, .aload_n 0, 1), (289, .bipush 6, 2), (291, .newarray .int, 2), (293, .putfield 123, 3), (296, .aload_n 0, 1), (297, .bipush 8, 2), (299, .newarray .int, 2), (301, .putfield 126, 3), (304, .aload_n 0, 1), (305, .bipush 36, 2), (307, .newarray .int, 2), (309, .putfield 129, 3), (312, .aload_n 0, 1), (313, .bipush 36, 2), (315, .newarray .int, 2), (317, .putfield 132, 3), (320, .aload_n 0, 1), (321, .iconst (-1), 1), (322, .putfield 135, 3), (325, .aload_n 0, 1), (326, .bipush 24, 2), (328, .newarray .int, 2), (330, .putfield 138, 3), (333, .aload_n 0, 1), (334, .bipush 24, 2), (336, .newarray .int, 2), (338, .putfield 141, 3), (341, .aload_n 0, 1), (342, .bipush 24, 2), (344, .newarray .int, 2), (346, .putfield 144, 3), (349, .aload_n 0, 1), (350, .bipush 24, 2), (352, .newarray .boolean, 2), (354, .putfield 147, 3), (357, .aload_n 0, 1), (358, .bipush 24, 2), (360, .newarray .int, 2), (362, .putfield 151, 3), (365, .aload_n 0, 1), (366, .bipush 24, 2), (368, .newarray .boolean, 2), (370, .putfield 154, 3), (373, .aload_n 0, 1), (374, .invokevirtual 157, 3), (377, .return_, 1)])
set_option maxRecDepth 100000 in
theorem eX10_init : zdec mX10_init := by unfold zdec; decide +kernel
theorem fX10_init : zMF mX10_init 0 := ⟨ztb_t (zt5 _ (List.mem_of_getElem? (i := 137) rfl)) rfl, ztb_t (zt1 _ (List.mem_of_getElem? (i := 14) rfl)) rfl, by decide +kernel, by decide⟩
def mX10_thrown : zM := (yX10_thrown, cX10_thrown, 1, (some FieldType.int), [(0, .aload_n 0, 1), (1, .getfield 160, 3), (4, .ireturn, 1)])
set_option maxRecDepth 100000 in
theorem eX10_thrown : zdec mX10_thrown := by unfold zdec; decide +kernel
theorem fX10_thrown : zMF mX10_thrown 0 := ⟨ztb_t (zt6 _ (List.mem_of_getElem? (i := 115) rfl)) rfl, ztb_t (zt1 _ (List.mem_of_getElem? (i := 14) rfl)) rfl, by decide +kernel, by decide⟩
def mX10_feed : zM := (yX10_feed, cX10_feed, 8, (some FieldType.int), [(0, .aload_n 0, 1), (1, .iconst 0, 1), (2, .putfield 160, 3), (5, .aload_n 0, 1), (6, .getfield 163, 3), (9, .sipush 680, 3), (12, .if_icmp .le 5, 3), (15, .iconst (-1), 1), (16, .ireturn, 1), (17, .iconst 0, 1), (18, .istore 6, 2), (20, .iload 6, 2), (22, .bipush 20, 2), (24, .if_icmp .ge 86, 3), (27, .iload 6, 2), (29, .iconst 4, 1), (30, .if_icmp .ge 7, 3), (33, .iload_n 1, 1), (34, .goto 39, 3), (37, .iload 6, 2), (39, .bipush 8, 2), (41, .if_icmp .ge 7, 3), (44, .iload_n 2, 1), (45, .goto 28, 3), (48, .iload 6, 2), (50, .bipush 12, 2), (52, .if_icmp .ge 7, 3), (55, .iload_n 3, 1), (56, .goto 17, 3), (59, .iload 6, 2), (61, .bipush 16, 2), (63, .if_icmp .ge 8, 3), (66, .iload 4, 2), (68, .goto 5, 3), (71, .iload 5, 2), (73, .istore 7, 2), (75, .aload_n 0, 1), (76, .getfield 7, 3), (79, .aload_n 0, 1), (80, .getfield 163, 3), (83, .iload 6, 2), (85, .iadd, 1), (86, .iload 7, 2), (88, .bipush 24, 2), (90, .bipush 8, 2), (92, .iload 6, 2), (94, .iconst 4, 1), (95, .irem, 1), (96, .imul, 1), (97, .isub, 1), (98, .ishr, 1), (99, .sipush 255, 3), (102, .iand, 1), (103, .iastore, 1), (104, .iinc 6 1, 3), (107, .goto (-87), 3), (110, .aload_n 0, 1), (111, .dup, 1), (112, .getfield 163, 3), (115, .bipush 20, 2), (117, .iadd, 1), (118, .putfield 163, 3), (121, .aload_n 0, 1), (122, .getfield 163, 3), (125, .ireturn, 1)])
set_option maxRecDepth 100000 in
theorem eX10_feed : zdec mX10_feed := by unfold zdec; decide +kernel
theorem fX10_feed : zMF mX10_feed 5 := ⟨ztb_t (zt6 _ (List.mem_of_getElem? (i := 119) rfl)) rfl, ztb_t (zt1 _ (List.mem_of_getElem? (i := 14) rfl)) rfl, by decide +kernel, by decide⟩
def mX10_here : zM := (yX10_here, cX10_here, 1, (some FieldType.int), [(0, .aload_n 0, 1), (1, .getfield 166, 3), (4, .aload_n 0, 1), (5, .getfield 169, 3), (8, .if_icmp .ge 15, 3), (11, .aload_n 0, 1), (12, .getfield 7, 3), (15, .aload_n 0, 1), (16, .getfield 166, 3), (19, .iaload, 1), (20, .goto 4, 3), (23, .iconst (-1), 1), (24, .ireturn, 1)])
set_option maxRecDepth 100000 in
theorem eX10_here : zdec mX10_here := by unfold zdec; decide +kernel
theorem fX10_here : zMF mX10_here 0 := ⟨ztb_t (zt6 _ (List.mem_of_getElem? (i := 135) rfl)) rfl, ztb_t (zt1 _ (List.mem_of_getElem? (i := 14) rfl)) rfl, by decide +kernel, by decide⟩
def mX10_isSmall : zM := (yX10_isSmall, cX10_isSmall, 1, (some FieldType.boolean), [(0, .iload_n 0, 1), (1, .bipush 97, 2), (3, .if_icmp .lt 13, 3), (6, .iload_n 0, 1), (7, .bipush 122, 2), (9, .if_icmp .gt 7, 3), (12, .iconst 1, 1), (13, .goto 4, 3), (16, .iconst 0, 1), (17, .ireturn, 1)])
set_option maxRecDepth 100000 in
theorem eX10_isSmall : zdec mX10_isSmall := by unfold zdec; decide +kernel
theorem fX10_isSmall : zMF mX10_isSmall 1 := ⟨ztb_t (zt6 _ (List.mem_of_getElem? (i := 138) rfl)) rfl, ztb_t (zt1 _ (List.mem_of_getElem? (i := 14) rfl)) rfl, by decide +kernel, by decide⟩
def mX10_isDigit : zM := (yX10_isDigit, cX10_isDigit, 1, (some FieldType.boolean), [(0, .iload_n 0, 1), (1, .bipush 48, 2), (3, .if_icmp .lt 13, 3), (6, .iload_n 0, 1), (7, .bipush 57, 2), (9, .if_icmp .gt 7, 3), (12, .iconst 1, 1), (13, .goto 4, 3), (16, .iconst 0, 1), (17, .ireturn, 1)])
set_option maxRecDepth 100000 in
theorem eX10_isDigit : zdec mX10_isDigit := by unfold zdec; decide +kernel
theorem fX10_isDigit : zMF mX10_isDigit 1 := ⟨ztb_t (zt6 _ (List.mem_of_getElem? (i := 152) rfl)) rfl, ztb_t (zt1 _ (List.mem_of_getElem? (i := 14) rfl)) rfl, by decide +kernel, by decide⟩
def mX10_token : zM := (yX10_token, cX10_token, 2, none, [(0, .aload_n 0, 1), (1, .invokevirtual 172, 3), (4, .bipush 10, 2), (6, .if_icmp .eq 12, 3), (9, .aload_n 0, 1), (10, .invokevirtual 172, 3), (13, .bipush 32, 2), (15, .if_icmp .ne 16, 3), (18, .aload_n 0, 1), (19, .dup, 1), (20, .getfield 166, 3), (23, .iconst 1, 1), (24, .iadd, 1), (25, .putfield 166, 3), (28, .goto (-28), 3), (31, .aload_n 0, 1), (32, .aload_n 0, 1), (33, .getfield 166, 3), (36, .putfield 176, 3), (39, .aload_n 0, 1), (40, .invokevirtual 172, 3), (43, .istore_n 1, 1), (44, .iload_n 1, 1), (45, .iconst (-1), 1), (46, .if_icmp .ne 11, 3), (49, .aload_n 0, 1), (50, .iconst 4, 1), (51, .putfield 179, 3), (54, .goto 171, 3), (57, .iload_n 1, 1), (58, .invokestatic 182, 3), (61, .ifCond .eq 84, 3), (64, .aload_n 0, 1), (65, .invokevirtual 172, 3), (68, .invokestatic 182, 3), (71, .ifCond .eq 16, 3), (74, .aload_n 0, 1), (75, .dup, 1), (76, .getfield 166, 3), (79, .iconst 1, 1), (80, .iadd, 1), (81, .putfield 166, 3), (84, .goto (-20), 3), (87, .aload_n 0, 1), (88, .aload_n 0, 1), (89, .invokevirtual 186, 3), (92, .putfield 189, 3), (95, .aload_n 0, 1), (96, .aload_n 0, 1), (97, .getfield 189, 3), (100, .iconst (-1), 1), (101, .if_icmp .eq 7, 3), (104, .iconst 0, 1), (105, .goto 22, 3), (108, .aload_n 0, 1), (109, .getfield 166, 3), (112, .aload_n 0, 1), (113, .getfield 176, 3), (116, .isub, 1), (117, .bipush 6, 2), (119, .if_icmp .le 7, 3), (122, .iconst 5, 1), (123, .goto 4, 3), (126, .iconst 1, 1), (127, .putfield 179, 3), (130, .aload_n 0, 1), (131, .getfield 179, 3), (134, .iconst 1, 1), (135, .if_icmp .ne 90, 3), (138, .aload_n 0, 1), (139, .invokevirtual 192, 3), (142, .goto 83, 3), (145, .iload_n 1, 1), (146, .invokestatic 195, 3), (149, .ifCond .eq 71, 3), (152, .aload_n 0, 1), (153, .iconst 2, 1), (154, .putfield 179, 3), (157, .aload_n 0, 1), (158, .iconst 0, 1), (159, .putfield 189, 3), (162, .aload_n 0, 1), (163, .invokevirtual 172, 3), (166, .invokestatic 195, 3), (169, .ifCond .eq 56, 3), (172, .aload_n 0, 1), (173, .aload_n 0, 1), (174, .getfield 189, 3), (177, .ldc 198, 2), (179, .if_icmp .le 10, 3), (182, .aload_n 0, 1), (183, .getfield 189, 3), (186, .goto 18, 3), (189, .bipush 10, 2), (191, .aload_n 0, 1), (192, .getfield 189, 3), (195, .imul, 1), (196, .aload_n 0, 1), (197, .invokevirtual 172, 3), (200, .iadd, 1), (201, .bipush 48, 2), (203, .isub, 1), (204, .putfield 189, 3), (207, .aload_n 0, 1), (208, .dup, 1), (209, .getfield 166, 3), (212, .iconst 1, 1), (213, .iadd, 1), (214, .putfield 166, 3), (217, .goto (-55), 3), (220, .aload_n 0, 1), (221, .iload_n 1, 1), (222, .invokevirtual 199, 3), (225, .return_, 1)])
set_option maxRecDepth 100000 in
theorem eX10_token : zdec mX10_token := by unfold zdec; decide +kernel
theorem fX10_token : zMF mX10_token 0 := ⟨ztb_t (zt6 _ (List.mem_of_getElem? (i := 131) rfl)) rfl, ztb_t (zt1 _ (List.mem_of_getElem? (i := 14) rfl)) rfl, by decide +kernel, by decide⟩
def mX10_sign : zM := (yX10_sign, cX10_sign, 2, none, [(0, .aload_n 0, 1), (1, .dup, 1), (2, .getfield 166, 3), (5, .iconst 1, 1), (6, .iadd, 1), (7, .putfield 166, 3), (10, .aload_n 0, 1), (11, .iload_n 1, 1), (12, .bipush 59, 2), (14, .if_icmp .eq 57, 3), (17, .iload_n 1, 1), (18, .bipush 40, 2), (20, .if_icmp .eq 51, 3), (23, .iload_n 1, 1), (24, .bipush 41, 2), (26, .if_icmp .eq 45, 3), (29, .iload_n 1, 1), (30, .bipush 43, 2), (32, .if_icmp .eq 39, 3), (35, .iload_n 1, 1), (36, .bipush 45, 2), (38, .if_icmp .eq 33, 3), (41, .iload_n 1, 1), (42, .bipush 42, 2), (44, .if_icmp .eq 27, 3), (47, .iload_n 1, 1), (48, .bipush 47, 2), (50, .if_icmp .eq 21, 3), (53, .iload_n 1, 1), (54, .bipush 60, 2), (56, .if_icmp .eq 15, 3), (59, .iload_n 1, 1), (60, .bipush 61, 2), (62, .if_icmp .eq 9, 3), (65, .iload_n 1, 1), (66, .bipush 62, 2), (68, .if_icmp .ne 7, 3), (71, .iconst 3, 1), (72, .goto 4, 3), (75, .iconst 5, 1), (76, .putfield 179, 3), (79, .aload_n 0, 1), (80, .iload_n 1, 1), (81, .putfield 189, 3), (84, .iload_n 1, 1), (85, .bipush 60, 2), (87, .if_icmp .ne 19, 3), (90, .aload_n 0, 1), (91, .invokevirtual 172, 3), (94, .bipush 61, 2), (96, .if_icmp .ne 10, 3), (99, .aload_n 0, 1), (100, .sipush 256, 3), (103, .putfield 189, 3), (106, .iload_n 1, 1), (107, .bipush 60, 2), (109, .if_icmp .ne 19, 3), (112, .aload_n 0, 1), (113, .invokevirtual 172, 3), (116, .bipush 62, 2), (118, .if_icmp .ne 10, 3), (121, .aload_n 0, 1), (122, .sipush 257, 3), (125, .putfield 189, 3), (128, .iload_n 1, 1), (129, .bipush 62, 2), (131, .if_icmp .ne 19, 3), (134, .aload_n 0, 1), (135, .invokevirtual 172, 3), (138, .bipush 61, 2), (140, .if_icmp .ne 10, 3), (143, .aload_n 0, 1), (144, .sipush 258, 3), (147, .putfield 189, 3), (150, .aload_n 0, 1), (151, .getfield 189, 3), (154, .sipush 256, 3), (157, .if_icmp .lt 13, 3), (160, .aload_n 0, 1), (161, .dup, 1), (162, .getfield 166, 3), (165, .iconst 1, 1), (166, .iadd, 1), (167, .putfield 166, 3), (170, .return_, 1)])
set_option maxRecDepth 100000 in
theorem eX10_sign : zdec mX10_sign := by unfold zdec; decide +kernel
theorem fX10_sign : zMF mX10_sign 1 := ⟨ztb_t (zt6 _ (List.mem_of_getElem? (i := 157) rfl)) rfl, ztb_t (zt1 _ (List.mem_of_getElem? (i := 14) rfl)) rfl, by decide +kernel, by decide⟩
def mX10_word : zM := (yX10_word, cX10_word, 4, (some FieldType.int), [(0, .iconst 0, 1), (1, .istore_n 1, 1), (2, .iconst 0, 1), (3, .istore_n 2, 1), (4, .iload_n 2, 1), (5, .ldc 203, 2), (7, .invokevirtual 205, 3), (10, .if_icmp .ge 113, 3), (13, .iconst 0, 1), (14, .istore_n 3, 1), (15, .ldc 203, 2), (17, .iload_n 2, 1), (18, .iload_n 3, 1), (19, .iadd, 1), (20, .invokevirtual 210, 3), (23, .bipush 32, 2), (25, .if_icmp .eq 44, 3), (28, .aload_n 0, 1), (29, .getfield 176, 3), (32, .iload_n 3, 1), (33, .iadd, 1), (34, .aload_n 0, 1), (35, .getfield 166, 3), (38, .if_icmp .ge 31, 3), (41, .aload_n 0, 1), (42, .getfield 7, 3), (45, .aload_n 0, 1), (46, .getfield 176, 3), (49, .iload_n 3, 1), (50, .iadd, 1), (51, .iaload, 1), (52, .ldc 203, 2), (54, .iload_n 2, 1), (55, .iload_n 3, 1), (56, .iadd, 1), (57, .invokevirtual 210, 3), (60, .if_icmp .ne 9, 3), (63, .iinc 3 1, 3), (66, .goto (-51), 3), (69, .ldc 203, 2), (71, .iload_n 2, 1), (72, .iload_n 3, 1), (73, .iadd, 1), (74, .invokevirtual 210, 3), (77, .bipush 32, 2), (79, .if_icmp .ne 18, 3), (82, .aload_n 0, 1), (83, .getfield 176, 3), (86, .iload_n 3, 1), (87, .iadd, 1), (88, .aload_n 0, 1), (89, .getfield 166, 3), (92, .if_icmp .ne 5, 3), (95, .iload_n 1, 1), (96, .ireturn, 1), (97, .ldc 203, 2), (99, .iload_n 2, 1), (100, .invokevirtual 210, 3), (103, .bipush 32, 2), (105, .if_icmp .eq 9, 3), (108, .iinc 2 1, 3), (111, .goto (-14), 3), (114, .iinc 2 1, 3), (117, .iinc 1 1, 3), (120, .goto (-116), 3), (123, .iconst (-1), 1), (124, .ireturn, 1)])
set_option maxRecDepth 100000 in
theorem eX10_word : zdec mX10_word := by unfold zdec; decide +kernel
theorem fX10_word : zMF mX10_word 0 := ⟨ztb_t (zt6 _ (List.mem_of_getElem? (i := 142) rfl)) rfl, ztb_t (zt1 _ (List.mem_of_getElem? (i := 14) rfl)) rfl, by decide +kernel, by decide⟩
def mX10_name : zM := (yX10_name, cX10_name, 2, none, [(0, .aload_n 0, 1), (1, .iconst 0, 1), (2, .putfield 189, 3), (5, .iconst 0, 1), (6, .istore_n 1, 1), (7, .iload_n 1, 1), (8, .bipush 6, 2), (10, .if_icmp .ge 53, 3), (13, .aload_n 0, 1), (14, .aload_n 0, 1), (15, .getfield 189, 3), (18, .iconst 5, 1), (19, .ishl, 1), (20, .aload_n 0, 1), (21, .getfield 176, 3), (24, .iload_n 1, 1), (25, .iadd, 1), (26, .aload_n 0, 1), (27, .getfield 166, 3), (30, .if_icmp .ge 22, 3), (33, .aload_n 0, 1), (34, .getfield 7, 3), (37, .aload_n 0, 1), (38, .getfield 176, 3), (41, .iload_n 1, 1), (42, .iadd, 1), (43, .iaload, 1), (44, .bipush 97, 2), (46, .isub, 1), (47, .iconst 1, 1), (48, .iadd, 1), (49, .goto 4, 3), (52, .iconst 0, 1), (53, .ior, 1), (54, .putfield 189, 3), (57, .iinc 1 1, 3), (60, .goto (-53), 3), (63, .return_, 1)])
set_option maxRecDepth 100000 in
theorem eX10_name : zdec mX10_name := by unfold zdec; decide +kernel
theorem fX10_name : zMF mX10_name 0 := ⟨ztb_t (zt6 _ (List.mem_of_getElem? (i := 149) rfl)) rfl, ztb_t (zt1 _ (List.mem_of_getElem? (i := 14) rfl)) rfl, by decide +kernel, by decide⟩
end
section
def mX10_wrong : zM := (yX10_wrong, cX10_wrong, 2, none, [(0, .aload_n 0, 1), (1, .getfield 214, 3), (4, .ifCond .eq 4, 3), (7, .return_, 1), (8, .aload_n 0, 1), (9, .iload_n 1, 1), (10, .putfield 214, 3), (13, .aload_n 0, 1), (14, .aload_n 0, 1), (15, .getfield 176, 3), (18, .putfield 217, 3), (21, .return_, 1)])
set_option maxRecDepth 100000 in
theorem eX10_wrong : zdec mX10_wrong := by unfold zdec; decide +kernel
theorem fX10_wrong : zMF mX10_wrong 1 := ⟨ztb_t (zt6 _ (List.mem_of_getElem? (i := 165) rfl)) rfl, ztb_t (zt1 _ (List.mem_of_getElem? (i := 14) rfl)) rfl, by decide +kernel, by decide⟩
def mX10_isWord : zM := (yX10_isWord, cX10_isWord, 2, (some FieldType.boolean), [(0, .aload_n 0, 1), (1, .getfield 214, 3), (4, .ifCond .ne 22, 3), (7, .aload_n 0, 1), (8, .getfield 179, 3), (11, .ifCond .ne 15, 3), (14, .aload_n 0, 1), (15, .getfield 189, 3), (18, .iload_n 1, 1), (19, .if_icmp .ne 7, 3), (22, .iconst 1, 1), (23, .goto 4, 3), (26, .iconst 0, 1), (27, .ireturn, 1)])
set_option maxRecDepth 100000 in
theorem eX10_isWord : zdec mX10_isWord := by unfold zdec; decide +kernel
theorem fX10_isWord : zMF mX10_isWord 1 := ⟨ztb_t (zt6 _ (List.mem_of_getElem? (i := 192) rfl)) rfl, ztb_t (zt1 _ (List.mem_of_getElem? (i := 14) rfl)) rfl, by decide +kernel, by decide⟩
def mX10_isSign : zM := (yX10_isSign, cX10_isSign, 2, (some FieldType.boolean), [(0, .aload_n 0, 1), (1, .getfield 214, 3), (4, .ifCond .ne 23, 3), (7, .aload_n 0, 1), (8, .getfield 179, 3), (11, .iconst 3, 1), (12, .if_icmp .ne 15, 3), (15, .aload_n 0, 1), (16, .getfield 189, 3), (19, .iload_n 1, 1), (20, .if_icmp .ne 7, 3), (23, .iconst 1, 1), (24, .goto 4, 3), (27, .iconst 0, 1), (28, .ireturn, 1)])
set_option maxRecDepth 100000 in
theorem eX10_isSign : zdec mX10_isSign := by unfold zdec; decide +kernel
theorem fX10_isSign : zMF mX10_isSign 1 := ⟨ztb_t (zt7 _ (List.mem_of_getElem? (i := 4) rfl)) rfl, ztb_t (zt1 _ (List.mem_of_getElem? (i := 14) rfl)) rfl, by decide +kernel, by decide⟩
def mX10_goOn : zM := (yX10_goOn, cX10_goOn, 1, none, [(0, .aload_n 0, 1), (1, .getfield 214, 3), (4, .ifCond .ne 7, 3), (7, .aload_n 0, 1), (8, .invokevirtual 220, 3), (11, .return_, 1)])
set_option maxRecDepth 100000 in
theorem eX10_goOn : zdec mX10_goOn := by unfold zdec; decide +kernel
theorem fX10_goOn : zMF mX10_goOn 0 := ⟨ztb_t (zt6 _ (List.mem_of_getElem? (i := 204) rfl)) rfl, ztb_t (zt1 _ (List.mem_of_getElem? (i := 14) rfl)) rfl, by decide +kernel, by decide⟩
def mX10_numeral : zM := (yX10_numeral, cX10_numeral, 4, (some FieldType.int), [(0, .aload_n 0, 1), (1, .getfield 214, 3), (4, .ifCond .eq 5, 3), (7, .iload_n 1, 1), (8, .ireturn, 1), (9, .aload_n 0, 1), (10, .getfield 179, 3), (13, .iconst 2, 1), (14, .if_icmp .eq 11, 3), (17, .aload_n 0, 1), (18, .iconst 1, 1), (19, .invokevirtual 223, 3), (22, .goto 24, 3), (25, .aload_n 0, 1), (26, .getfield 189, 3), (29, .iload_n 1, 1), (30, .if_icmp .lt 11, 3), (33, .aload_n 0, 1), (34, .getfield 189, 3), (37, .iload_n 2, 1), (38, .if_icmp .le 8, 3), (41, .aload_n 0, 1), (42, .iconst 2, 1), (43, .invokevirtual 223, 3), (46, .aload_n 0, 1), (47, .getfield 214, 3), (50, .ifCond .eq 5, 3), (53, .iload_n 1, 1), (54, .ireturn, 1), (55, .aload_n 0, 1), (56, .getfield 189, 3), (59, .istore_n 3, 1), (60, .aload_n 0, 1), (61, .invokevirtual 220, 3), (64, .iload_n 3, 1), (65, .ireturn, 1)])
set_option maxRecDepth 100000 in
theorem eX10_numeral : zdec mX10_numeral := by unfold zdec; decide +kernel
theorem fX10_numeral : zMF mX10_numeral 2 := ⟨ztb_t (zt6 _ (List.mem_of_getElem? (i := 184) rfl)) rfl, ztb_t (zt1 _ (List.mem_of_getElem? (i := 14) rfl)) rfl, by decide +kernel, by decide⟩
def mX10_found : zM := (yX10_found, cX10_found, 5, (some FieldType.int), [(0, .iconst 0, 1), (1, .istore 4, 2), (3, .iload 4, 2), (5, .iload_n 2, 1), (6, .if_icmp .ge 22, 3), (9, .aload_n 0, 1), (10, .iload_n 1, 1), (11, .iload 4, 2), (13, .iadd, 1), (14, .iaload, 1), (15, .iload_n 3, 1), (16, .if_icmp .ne 6, 3), (19, .iload 4, 2), (21, .ireturn, 1), (22, .iinc 4 1, 3), (25, .goto (-22), 3), (28, .iconst (-1), 1), (29, .ireturn, 1)])
set_option maxRecDepth 100000 in
theorem eX10_found : zdec mX10_found := by unfold zdec; decide +kernel
theorem fX10_found : zMF mX10_found 4 := ⟨ztb_t (zt6 _ (List.mem_of_getElem? (i := 180) rfl)) rfl, ztb_t (zt1 _ (List.mem_of_getElem? (i := 14) rfl)) rfl, by decide +kernel, by decide⟩
def mX10_fresh : zM := (yX10_fresh, cX10_fresh, 5, (some FieldType.int), [(0, .aload_n 0, 1), (1, .getfield 214, 3), (4, .ifCond .eq 5, 3), (7, .iconst 0, 1), (8, .ireturn, 1), (9, .aload_n 0, 1), (10, .getfield 179, 3), (13, .iconst 1, 1), (14, .if_icmp .eq 11, 3), (17, .aload_n 0, 1), (18, .iconst 1, 1), (19, .invokevirtual 223, 3), (22, .goto 22, 3), (25, .aload_n 1, 1), (26, .iload_n 2, 1), (27, .iload_n 3, 1), (28, .aload_n 0, 1), (29, .getfield 189, 3), (32, .invokestatic 226, 3), (35, .iconst (-1), 1), (36, .if_icmp .eq 8, 3), (39, .aload_n 0, 1), (40, .iconst 3, 1), (41, .invokevirtual 223, 3), (44, .aload_n 0, 1), (45, .getfield 214, 3), (48, .ifCond .eq 5, 3), (51, .iconst 0, 1), (52, .ireturn, 1), (53, .aload_n 0, 1), (54, .getfield 189, 3), (57, .istore 4, 2), (59, .aload_n 0, 1), (60, .invokevirtual 220, 3), (63, .iload 4, 2), (65, .ireturn, 1)])
set_option maxRecDepth 100000 in
theorem eX10_fresh : zdec mX10_fresh := by unfold zdec; decide +kernel
theorem fX10_fresh : zMF mX10_fresh 3 := ⟨ztb_t (zt6 _ (List.mem_of_getElem? (i := 177) rfl)) rfl, ztb_t (zt1 _ (List.mem_of_getElem? (i := 14) rfl)) rfl, by decide +kernel, by decide⟩
def mX10_fresher : zM := (yX10_fresher, cX10_fresher, 2, (some FieldType.int), [(0, .aload_n 0, 1), (1, .getfield 13, 3), (4, .bipush 8, 2), (6, .iload_n 1, 1), (7, .iadd, 1), (8, .iaload, 1), (9, .ireturn, 1)])
set_option maxRecDepth 100000 in
theorem eX10_fresher : zdec mX10_fresher := by unfold zdec; decide +kernel
theorem fX10_fresher : zMF mX10_fresher 1 := ⟨ztb_t (zt6 _ (List.mem_of_getElem? (i := 173) rfl)) rfl, ztb_t (zt1 _ (List.mem_of_getElem? (i := 14) rfl)) rfl, by decide +kernel, by decide⟩
def mX10_reads : zM := (yX10_reads, cX10_reads, 3, none, [(0, .aload_n 0, 1), (1, .getfield 13, 3), (4, .bipush 8, 2), (6, .iload_n 1, 1), (7, .iadd, 1), (8, .iload_n 2, 1), (9, .iastore, 1), (10, .return_, 1)])
set_option maxRecDepth 100000 in
theorem eX10_reads : zdec mX10_reads := by unfold zdec; decide +kernel
theorem fX10_reads : zMF mX10_reads 2 := ⟨ztb_t (zt6 _ (List.mem_of_getElem? (i := 127) rfl)) rfl, ztb_t (zt1 _ (List.mem_of_getElem? (i := 14) rfl)) rfl, by decide +kernel, by decide⟩
def mX10_isFull : zM := (yX10_isFull, cX10_isFull, 2, (some FieldType.boolean), [(0, .iload_n 1, 1), (1, .ifCond .ne 13, 3), (4, .aload_n 0, 1), (5, .iconst 0, 1), (6, .invokevirtual 230, 3), (9, .bipush 6, 2), (11, .if_icmp .eq 62, 3), (14, .iload_n 1, 1), (15, .iconst 1, 1), (16, .if_icmp .ne 13, 3), (19, .aload_n 0, 1), (20, .iconst 1, 1), (21, .invokevirtual 230, 3), (24, .bipush 8, 2), (26, .if_icmp .eq 47, 3), (29, .iload_n 1, 1), (30, .iconst 2, 1), (31, .if_icmp .ne 13, 3), (34, .aload_n 0, 1), (35, .iconst 2, 1), (36, .invokevirtual 230, 3), (39, .bipush 24, 2), (41, .if_icmp .eq 32, 3), (44, .iload_n 1, 1), (45, .iconst 3, 1), (46, .if_icmp .ne 13, 3), (49, .aload_n 0, 1), (50, .iconst 3, 1), (51, .invokevirtual 230, 3), (54, .bipush 6, 2), (56, .if_icmp .eq 17, 3), (59, .iload_n 1, 1), (60, .iconst 4, 1), (61, .if_icmp .ne 16, 3), (64, .aload_n 0, 1), (65, .iconst 4, 1), (66, .invokevirtual 230, 3), (69, .iconst 5, 1), (70, .if_icmp .ne 7, 3), (73, .iconst 1, 1), (74, .goto 4, 3), (77, .iconst 0, 1), (78, .ireturn, 1)])
set_option maxRecDepth 100000 in
theorem eX10_isFull : zdec mX10_isFull := by unfold zdec; decide +kernel
theorem fX10_isFull : zMF mX10_isFull 1 := ⟨ztb_t (zt6 _ (List.mem_of_getElem? (i := 169) rfl)) rfl, ztb_t (zt1 _ (List.mem_of_getElem? (i := 14) rfl)) rfl, by decide +kernel, by decide⟩
def mX10_line : zM := (yX10_line, cX10_line, 5, none, [(0, .aload_n 0, 1), (1, .getfield 179, 3), (4, .ifCond .ne 12, 3), (7, .aload_n 0, 1), (8, .getfield 189, 3), (11, .bipush 7, 2), (13, .if_icmp .le 9, 3), (16, .aload_n 0, 1), (17, .iconst 1, 1), (18, .invokevirtual 223, 3), (21, .return_, 1), (22, .aload_n 0, 1), (23, .getfield 189, 3), (26, .istore_n 1, 1), (27, .aload_n 0, 1), (28, .iload_n 1, 1), (29, .invokevirtual 234, 3), (32, .ifCond .eq 11, 3), (35, .aload_n 0, 1), (36, .iconst 2, 1), (37, .invokevirtual 223, 3), (40, .goto 31, 3), (43, .iload_n 1, 1), (44, .iconst 5, 1), (45, .if_icmp .eq 9, 3), (48, .iload_n 1, 1), (49, .bipush 6, 2), (51, .if_icmp .ne 20, 3), (54, .aload_n 0, 1), (55, .getfield 237, 3), (58, .iload_n 1, 1), (59, .ishr, 1), (60, .iconst 1, 1), (61, .iand, 1), (62, .iconst 1, 1), (63, .if_icmp .ne 8, 3), (66, .aload_n 0, 1), (67, .iconst 3, 1), (68, .invokevirtual 223, 3), (71, .aload_n 0, 1), (72, .getfield 214, 3), (75, .ifCond .eq 4, 3), (78, .return_, 1), (79, .aload_n 0, 1), (80, .dup, 1), (81, .getfield 237, 3), (84, .iconst 1, 1), (85, .iload_n 1, 1), (86, .ishl, 1), (87, .ior, 1), (88, .putfield 237, 3), (91, .aload_n 0, 1), (92, .invokevirtual 220, 3), (95, .iload_n 1, 1), (96, .tableswitch 299 0 6 #[44, 103, 118, 125, 183, 268, 283], 44), (140, .bipush 6, 2), (142, .aload_n 0, 1), (143, .iconst 0, 1), (144, .invokevirtual 230, 3), (147, .iadd, 1), (148, .istore_n 2, 1), (149, .aload_n 0, 1), (150, .getfield 16, 3), (153, .iload_n 2, 1), (154, .aload_n 0, 1), (155, .aload_n 0, 1), (156, .getfield 16, 3), (159, .bipush 6, 2), (161, .aload_n 0, 1), (162, .iconst 0, 1), (163, .invokevirtual 230, 3), (166, .invokevirtual 240, 3), (169, .iastore, 1), (170, .aload_n 0, 1), (171, .getfield 19, 3), (174, .iload_n 2, 1), (175, .aload_n 0, 1), (176, .iconst 0, 1), (177, .sipush 999, 3), (180, .invokevirtual 244, 3), (183, .iastore, 1), (184, .aload_n 0, 1), (185, .iconst 0, 1), (186, .aload_n 0, 1), (187, .iconst 0, 1), (188, .invokevirtual 230, 3), (191, .iconst 1, 1), (192, .iadd, 1), (193, .invokevirtual 248, 3), (196, .goto 203, 3), (199, .aload_n 0, 1), (200, .bipush 8, 2), (202, .aload_n 0, 1), (203, .iconst 1, 1), (204, .invokevirtual 230, 3), (207, .iadd, 1), (208, .invokevirtual 252, 3), (211, .goto 188, 3), (214, .aload_n 0, 1), (215, .invokevirtual 255, 3), (218, .goto 181, 3), (221, .bipush 6, 2), (223, .aload_n 0, 1), (224, .iconst 3, 1), (225, .invokevirtual 230, 3), (228, .iadd, 1), (229, .istore_n 3, 1), (230, .aload_n 0, 1), (231, .getfield 31, 3), (234, .iload_n 3, 1), (235, .aload_n 0, 1), (236, .aload_n 0, 1), (237, .getfield 31, 3), (240, .bipush 6, 2), (242, .aload_n 0, 1), (243, .iconst 3, 1), (244, .invokevirtual 230, 3), (247, .invokevirtual 240, 3), (250, .iastore, 1), (251, .aload_n 0, 1), (252, .getfield 34, 3), (255, .iload_n 3, 1), (256, .aload_n 0, 1), (257, .iconst 0, 1), (258, .bipush 100, 2), (260, .invokevirtual 244, 3), (263, .iastore, 1), (264, .aload_n 0, 1), (265, .iconst 3, 1), (266, .aload_n 0, 1), (267, .iconst 3, 1), (268, .invokevirtual 230, 3), (271, .iconst 1, 1), (272, .iadd, 1), (273, .invokevirtual 248, 3), (276, .goto 123, 3), (279, .iconst 5, 1), (280, .aload_n 0, 1), (281, .iconst 4, 1), (282, .invokevirtual 230, 3), (285, .iadd, 1), (286, .istore 4, 2), (288, .aload_n 0, 1), (289, .getfield 37, 3), (292, .iload 4, 2), (294, .aload_n 0, 1), (295, .aload_n 0, 1), (296, .getfield 37, 3), (299, .iconst 5, 1), (300, .aload_n 0, 1), (301, .iconst 4, 1), (302, .invokevirtual 230, 3), (305, .invokevirtual 240, 3), (308, .iastore, 1), (309, .aload_n 0, 1), (310, .getfield 40, 3), (313, .iload 4, 2), (315, .aload_n 0, 1), (316, .aload_n 0, 1), (317, .getfield 31, 3), (320, .bipush 6, 2), (322, .aload_n 0, 1), (323, .iconst 3, 1), (324, .invokevirtual 230, 3), (327, .invokevirtual 258, 3), (330, .iastore, 1), (331, .aload_n 0, 1), (332, .invokevirtual 261, 3), (335, .aload_n 0, 1), (336, .getfield 43, 3), (339, .iload 4, 2), (341, .aload_n 0, 1), (342, .iconst 1, 1), (343, .bipush 99, 2), (345, .invokevirtual 244, 3), (348, .iastore, 1), (349, .aload_n 0, 1), (350, .iconst 4, 1), (351, .aload_n 0, 1), (352, .iconst 4, 1), (353, .invokevirtual 230, 3), (356, .iconst 1, 1), (357, .iadd, 1), (358, .invokevirtual 248, 3), (361, .goto 38, 3), (364, .aload_n 0, 1), (365, .iconst 5, 1), (366, .aload_n 0, 1), (367, .iconst 0, 1), (368, .bipush 100, 2), (370, .invokevirtual 244, 3), (373, .invokevirtual 248, 3), (376, .goto 23, 3), (379, .aload_n 0, 1), (380, .bipush 6, 2), (382, .aload_n 0, 1), (383, .iconst 0, 1), (384, .ldc 198, 2), (386, .invokevirtual 244, 3), (389, .invokevirtual 248, 3), (392, .goto 7, 3), (395, .aload_n 0, 1), (396, .invokevirtual 264, 3), (399, .aload_n 0, 1), (400, .getfield 214, 3), (403, .ifCond .eq 4, 3), (406, .return_, 1), (407, .aload_n 0, 1), (408, .bipush 59, 2), (410, .invokevirtual 267, 3), (413, .ifCond .ne 11, 3), (416, .aload_n 0, 1), (417, .iconst 1, 1), (418, .invokevirtual 223, 3), (421, .goto 7, 3), (424, .aload_n 0, 1), (425, .invokevirtual 220, 3), (428, .aload_n 0, 1), (429, .dup, 1), (430, .getfield 270, 3), (433, .iconst 1, 1), (434, .iadd, 1), (435, .putfield 270, 3), (438, .return_, 1)])
set_option maxRecDepth 100000 in
theorem eX10_line : zdec mX10_line := by unfold zdec; decide +kernel
theorem fX10_line : zMF mX10_line 0 := ⟨ztb_t (zt6 _ (List.mem_of_getElem? (i := 161) rfl)) rfl, ztb_t (zt1 _ (List.mem_of_getElem? (i := 14) rfl)) rfl, by decide +kernel, by decide⟩
def mX10_toldAhead : zM := (yX10_toldAhead, cX10_toldAhead, 4, (some FieldType.int), [(0, .aload_n 0, 1), (1, .getfield 214, 3), (4, .ifCond .eq 5, 3), (7, .iconst 0, 1), (8, .ireturn, 1), (9, .aload_n 0, 1), (10, .getfield 179, 3), (13, .iconst 1, 1), (14, .if_icmp .eq 11, 3), (17, .aload_n 0, 1), (18, .iconst 1, 1), (19, .invokevirtual 223, 3), (22, .goto 22, 3), (25, .aload_n 1, 1), (26, .iload_n 2, 1), (27, .iload_n 3, 1), (28, .aload_n 0, 1), (29, .getfield 189, 3), (32, .invokestatic 226, 3), (35, .iconst (-1), 1), (36, .if_icmp .ne 8, 3), (39, .aload_n 0, 1), (40, .iconst 4, 1), (41, .invokevirtual 223, 3), (44, .aload_n 0, 1), (45, .getfield 214, 3), (48, .ifCond .eq 7, 3), (51, .iconst 0, 1), (52, .goto 13, 3), (55, .aload_n 1, 1), (56, .iload_n 2, 1), (57, .iload_n 3, 1), (58, .aload_n 0, 1), (59, .getfield 189, 3), (62, .invokestatic 226, 3), (65, .ireturn, 1)])
set_option maxRecDepth 100000 in
theorem eX10_toldAhead : zdec mX10_toldAhead := by unfold zdec; decide +kernel
theorem fX10_toldAhead : zMF mX10_toldAhead 3 := ⟨ztb_t (zt6 _ (List.mem_of_getElem? (i := 200) rfl)) rfl, ztb_t (zt1 _ (List.mem_of_getElem? (i := 14) rfl)) rfl, by decide +kernel, by decide⟩
def mX10_dayLine : zM := (yX10_dayLine, cX10_dayLine, 3, none, [(0, .aload_n 0, 1), (1, .getfield 22, 3), (4, .iload_n 1, 1), (5, .aload_n 0, 1), (6, .aload_n 0, 1), (7, .getfield 22, 3), (10, .bipush 8, 2), (12, .aload_n 0, 1), (13, .iconst 1, 1), (14, .invokevirtual 230, 3), (17, .invokevirtual 240, 3), (20, .iastore, 1), (21, .aload_n 0, 1), (22, .getfield 214, 3), (25, .ifCond .eq 4, 3), (28, .return_, 1), (29, .aload_n 0, 1), (30, .getfield 25, 3), (33, .iload_n 1, 1), (34, .aload_n 0, 1), (35, .bipush 8, 2), (37, .invokevirtual 273, 3), (40, .ifCond .eq 7, 3), (43, .iconst 1, 1), (44, .goto 4, 3), (47, .iconst 0, 1), (48, .iastore, 1), (49, .aload_n 0, 1), (50, .getfield 25, 3), (53, .iload_n 1, 1), (54, .iaload, 1), (55, .iconst 1, 1), (56, .if_icmp .ne 7, 3), (59, .aload_n 0, 1), (60, .invokevirtual 220, 3), (63, .iconst 0, 1), (64, .istore_n 2, 1), (65, .iload_n 2, 1), (66, .bipush 6, 2), (68, .if_icmp .ge 21, 3), (71, .aload_n 0, 1), (72, .getfield 28, 3), (75, .bipush 6, 2), (77, .iload_n 1, 1), (78, .imul, 1), (79, .iload_n 2, 1), (80, .iadd, 1), (81, .iconst 0, 1), (82, .iastore, 1), (83, .iinc 2 1, 3), (86, .goto (-21), 3), (89, .aload_n 0, 1), (90, .iconst 1, 1), (91, .aload_n 0, 1), (92, .iconst 1, 1), (93, .invokevirtual 230, 3), (96, .iconst 1, 1), (97, .iadd, 1), (98, .invokevirtual 248, 3), (101, .return_, 1)])
set_option maxRecDepth 100000 in
theorem eX10_dayLine : zdec mX10_dayLine := by unfold zdec; decide +kernel
theorem fX10_dayLine : zMF mX10_dayLine 1 := ⟨ztb_t (zt6 _ (List.mem_of_getElem? (i := 188) rfl)) rfl, ztb_t (zt1 _ (List.mem_of_getElem? (i := 14) rfl)) rfl, by decide +kernel, by decide⟩
def mX10_mixLine : zM := (yX10_mixLine, cX10_mixLine, 4, none, [(0, .bipush 8, 2), (2, .aload_n 0, 1), (3, .aload_n 0, 1), (4, .getfield 22, 3), (7, .bipush 8, 2), (9, .aload_n 0, 1), (10, .iconst 1, 1), (11, .invokevirtual 230, 3), (14, .invokevirtual 258, 3), (17, .iadd, 1), (18, .istore_n 1, 1), (19, .aload_n 0, 1), (20, .invokevirtual 261, 3), (23, .aload_n 0, 1), (24, .aload_n 0, 1), (25, .getfield 16, 3), (28, .bipush 6, 2), (30, .aload_n 0, 1), (31, .iconst 0, 1), (32, .invokevirtual 230, 3), (35, .invokevirtual 258, 3), (38, .istore_n 2, 1), (39, .aload_n 0, 1), (40, .getfield 214, 3), (43, .ifCond .ne 22, 3), (46, .aload_n 0, 1), (47, .getfield 28, 3), (50, .bipush 6, 2), (52, .iload_n 1, 1), (53, .imul, 1), (54, .iload_n 2, 1), (55, .iadd, 1), (56, .iaload, 1), (57, .ifCond .le 8, 3), (60, .aload_n 0, 1), (61, .iconst 3, 1), (62, .invokevirtual 223, 3), (65, .aload_n 0, 1), (66, .invokevirtual 261, 3), (69, .aload_n 0, 1), (70, .iconst 1, 1), (71, .bipush 99, 2), (73, .invokevirtual 244, 3), (76, .istore_n 3, 1), (77, .aload_n 0, 1), (78, .getfield 214, 3), (81, .ifCond .eq 4, 3), (84, .return_, 1), (85, .aload_n 0, 1), (86, .getfield 28, 3), (89, .bipush 6, 2), (91, .iload_n 1, 1), (92, .imul, 1), (93, .iload_n 2, 1), (94, .iadd, 1), (95, .iload_n 3, 1), (96, .iastore, 1), (97, .aload_n 0, 1), (98, .iconst 2, 1), (99, .aload_n 0, 1), (100, .iconst 2, 1), (101, .invokevirtual 230, 3), (104, .iconst 1, 1), (105, .iadd, 1), (106, .invokevirtual 248, 3), (109, .return_, 1)])
set_option maxRecDepth 100000 in
theorem eX10_mixLine : zdec mX10_mixLine := by unfold zdec; decide +kernel
theorem fX10_mixLine : zMF mX10_mixLine 0 := ⟨ztb_t (zt6 _ (List.mem_of_getElem? (i := 196) rfl)) rfl, ztb_t (zt1 _ (List.mem_of_getElem? (i := 14) rfl)) rfl, by decide +kernel, by decide⟩
def mX10_lawLine : zM := (yX10_lawLine, cX10_lawLine, 2, none, [(0, .aload_n 0, 1), (1, .getfield 179, 3), (4, .ifCond .ne 21, 3), (7, .aload_n 0, 1), (8, .getfield 189, 3), (11, .bipush 9, 2), (13, .if_icmp .lt 12, 3), (16, .aload_n 0, 1), (17, .getfield 189, 3), (20, .bipush 11, 2), (22, .if_icmp .le 8, 3), (25, .aload_n 0, 1), (26, .iconst 1, 1), (27, .invokevirtual 223, 3), (30, .aload_n 0, 1), (31, .getfield 189, 3), (34, .bipush 9, 2), (36, .isub, 1), (37, .istore_n 1, 1), (38, .aload_n 0, 1), (39, .getfield 214, 3), (42, .ifCond .ne 23, 3), (45, .aload_n 0, 1), (46, .getfield 237, 3), (49, .bipush 16, 2), (51, .iload_n 1, 1), (52, .iadd, 1), (53, .ishr, 1), (54, .iconst 1, 1), (55, .iand, 1), (56, .iconst 1, 1), (57, .if_icmp .ne 8, 3), (60, .aload_n 0, 1), (61, .iconst 3, 1), (62, .invokevirtual 223, 3), (65, .aload_n 0, 1), (66, .getfield 214, 3), (69, .ifCond .eq 4, 3), (72, .return_, 1), (73, .aload_n 0, 1), (74, .dup, 1), (75, .getfield 237, 3), (78, .iconst 1, 1), (79, .bipush 16, 2), (81, .iload_n 1, 1), (82, .iadd, 1), (83, .ishl, 1), (84, .ior, 1), (85, .putfield 237, 3), (88, .aload_n 0, 1), (89, .invokevirtual 220, 3), (92, .aload_n 0, 1), (93, .getfield 46, 3), (96, .iconst 3, 1), (97, .iload_n 1, 1), (98, .iadd, 1), (99, .aload_n 0, 1), (100, .bipush 7, 2), (102, .invokevirtual 230, 3), (105, .iastore, 1), (106, .aload_n 0, 1), (107, .invokevirtual 276, 3), (110, .aload_n 0, 1), (111, .getfield 49, 3), (114, .iconst 3, 1), (115, .iload_n 1, 1), (116, .iadd, 1), (117, .aload_n 0, 1), (118, .bipush 7, 2), (120, .invokevirtual 230, 3), (123, .iastore, 1), (124, .return_, 1)])
set_option maxRecDepth 100000 in
theorem eX10_lawLine : zdec mX10_lawLine := by unfold zdec; decide +kernel
theorem fX10_lawLine : zMF mX10_lawLine 0 := ⟨ztb_t (zt6 _ (List.mem_of_getElem? (i := 208) rfl)) rfl, ztb_t (zt1 _ (List.mem_of_getElem? (i := 14) rfl)) rfl, by decide +kernel, by decide⟩
def mX10_puts : zM := (yX10_puts, cX10_puts, 3, none, [(0, .aload_n 0, 1), (1, .getfield 214, 3), (4, .ifCond .eq 4, 3), (7, .return_, 1), (8, .aload_n 0, 1), (9, .getfield 52, 3), (12, .bipush 64, 2), (14, .aload_n 0, 1), (15, .bipush 7, 2), (17, .invokevirtual 230, 3), (20, .iadd, 1), (21, .iload_n 1, 1), (22, .iastore, 1), (23, .aload_n 0, 1), (24, .getfield 55, 3), (27, .bipush 64, 2), (29, .aload_n 0, 1), (30, .bipush 7, 2), (32, .invokevirtual 230, 3), (35, .iadd, 1), (36, .iload_n 2, 1), (37, .iastore, 1), (38, .aload_n 0, 1), (39, .bipush 7, 2), (41, .aload_n 0, 1), (42, .bipush 7, 2), (44, .invokevirtual 230, 3), (47, .iconst 1, 1), (48, .iadd, 1), (49, .invokevirtual 248, 3), (52, .return_, 1)])
set_option maxRecDepth 100000 in
theorem eX10_puts : zdec mX10_puts := by unfold zdec; decide +kernel
theorem fX10_puts : zMF mX10_puts 2 := ⟨ztb_t (zt6 _ (List.mem_of_getElem? (i := 228) rfl)) rfl, ztb_t (zt1 _ (List.mem_of_getElem? (i := 14) rfl)) rfl, by decide +kernel, by decide⟩
def mX10_knot : zM := (yX10_knot, cX10_knot, 1, none, [(0, .aload_n 0, 1), (1, .getfield 214, 3), (4, .ifCond .eq 4, 3), (7, .return_, 1), (8, .aload_n 0, 1), (9, .getfield 279, 3), (12, .bipush 64, 2), (14, .if_icmp .ne 11, 3), (17, .aload_n 0, 1), (18, .iconst 2, 1), (19, .invokevirtual 223, 3), (22, .goto 13, 3), (25, .aload_n 0, 1), (26, .dup, 1), (27, .getfield 279, 3), (30, .iconst 1, 1), (31, .iadd, 1), (32, .putfield 279, 3), (35, .return_, 1)])
set_option maxRecDepth 100000 in
theorem eX10_knot : zdec mX10_knot := by unfold zdec; decide +kernel
theorem fX10_knot : zMF mX10_knot 0 := ⟨ztb_t (zt6 _ (List.mem_of_getElem? (i := 224) rfl)) rfl, ztb_t (zt1 _ (List.mem_of_getElem? (i := 14) rfl)) rfl, by decide +kernel, by decide⟩
def mX10_expression : zM := (yX10_expression, cX10_expression, 1, none, [(0, .aload_n 0, 1), (1, .invokevirtual 282, 3), (4, .aload_n 0, 1), (5, .bipush 12, 2), (7, .invokevirtual 273, 3), (10, .ifCond .eq 26, 3), (13, .aload_n 0, 1), (14, .invokevirtual 285, 3), (17, .aload_n 0, 1), (18, .invokevirtual 261, 3), (21, .aload_n 0, 1), (22, .invokevirtual 282, 3), (25, .aload_n 0, 1), (26, .iconst 2, 1), (27, .sipush 262, 3), (30, .invokevirtual 288, 3), (33, .goto (-29), 3), (36, .return_, 1)])
set_option maxRecDepth 100000 in
theorem eX10_expression : zdec mX10_expression := by unfold zdec; decide +kernel
theorem fX10_expression : zMF mX10_expression 0 := ⟨ztb_t (zt6 _ (List.mem_of_getElem? (i := 212) rfl)) rfl, ztb_t (zt1 _ (List.mem_of_getElem? (i := 14) rfl)) rfl, by decide +kernel, by decide⟩
def mX10_conjunction : zM := (yX10_conjunction, cX10_conjunction, 1, none, [(0, .aload_n 0, 1), (1, .invokevirtual 291, 3), (4, .aload_n 0, 1), (5, .bipush 13, 2), (7, .invokevirtual 273, 3), (10, .ifCond .eq 26, 3), (13, .aload_n 0, 1), (14, .invokevirtual 285, 3), (17, .aload_n 0, 1), (18, .invokevirtual 261, 3), (21, .aload_n 0, 1), (22, .invokevirtual 291, 3), (25, .aload_n 0, 1), (26, .iconst 2, 1), (27, .sipush 261, 3), (30, .invokevirtual 288, 3), (33, .goto (-29), 3), (36, .return_, 1)])
set_option maxRecDepth 100000 in
theorem eX10_conjunction : zdec mX10_conjunction := by unfold zdec; decide +kernel
theorem fX10_conjunction : zMF mX10_conjunction 0 := ⟨ztb_t (zt6 _ (List.mem_of_getElem? (i := 216) rfl)) rfl, ztb_t (zt1 _ (List.mem_of_getElem? (i := 14) rfl)) rfl, by decide +kernel, by decide⟩
def mX10_negation : zM := (yX10_negation, cX10_negation, 2, none, [(0, .aload_n 0, 1), (1, .bipush 14, 2), (3, .invokevirtual 273, 3), (6, .ifCond .eq 24, 3), (9, .aload_n 0, 1), (10, .invokevirtual 285, 3), (13, .aload_n 0, 1), (14, .invokevirtual 261, 3), (17, .aload_n 0, 1), (18, .invokevirtual 291, 3), (21, .aload_n 0, 1), (22, .iconst 2, 1), (23, .sipush 260, 3), (26, .invokevirtual 288, 3), (29, .return_, 1), (30, .aload_n 0, 1), (31, .invokevirtual 294, 3), (34, .aload_n 0, 1), (35, .getfield 214, 3), (38, .ifCond .ne 48, 3), (41, .aload_n 0, 1), (42, .getfield 179, 3), (45, .iconst 3, 1), (46, .if_icmp .ne 40, 3), (49, .aload_n 0, 1), (50, .getfield 189, 3), (53, .bipush 60, 2), (55, .if_icmp .eq 32, 3), (58, .aload_n 0, 1), (59, .getfield 189, 3), (62, .bipush 62, 2), (64, .if_icmp .eq 23, 3), (67, .aload_n 0, 1), (68, .getfield 189, 3), (71, .bipush 61, 2), (73, .if_icmp .eq 14, 3), (76, .aload_n 0, 1), (77, .getfield 189, 3), (80, .sipush 256, 3), (83, .if_icmp .ge 4, 3), (86, .return_, 1), (87, .aload_n 0, 1), (88, .getfield 189, 3), (91, .istore_n 1, 1), (92, .aload_n 0, 1), (93, .invokevirtual 285, 3), (96, .aload_n 0, 1), (97, .invokevirtual 261, 3), (100, .aload_n 0, 1), (101, .invokevirtual 294, 3), (104, .aload_n 0, 1), (105, .iconst 2, 1), (106, .iload_n 1, 1), (107, .invokevirtual 288, 3), (110, .return_, 1)])
set_option maxRecDepth 100000 in
theorem eX10_negation : zdec mX10_negation := by unfold zdec; decide +kernel
theorem fX10_negation : zMF mX10_negation 0 := ⟨ztb_t (zt6 _ (List.mem_of_getElem? (i := 220) rfl)) rfl, ztb_t (zt1 _ (List.mem_of_getElem? (i := 14) rfl)) rfl, by decide +kernel, by decide⟩
def mX10_sum : zM := (yX10_sum, cX10_sum, 2, none, [(0, .aload_n 0, 1), (1, .invokevirtual 297, 3), (4, .aload_n 0, 1), (5, .bipush 43, 2), (7, .invokevirtual 267, 3), (10, .ifCond .ne 12, 3), (13, .aload_n 0, 1), (14, .bipush 45, 2), (16, .invokevirtual 267, 3), (19, .ifCond .eq 29, 3), (22, .aload_n 0, 1), (23, .getfield 189, 3), (26, .istore_n 1, 1), (27, .aload_n 0, 1), (28, .invokevirtual 285, 3), (31, .aload_n 0, 1), (32, .invokevirtual 261, 3), (35, .aload_n 0, 1), (36, .invokevirtual 297, 3), (39, .aload_n 0, 1), (40, .iconst 2, 1), (41, .iload_n 1, 1), (42, .invokevirtual 288, 3), (45, .goto (-41), 3), (48, .return_, 1)])
set_option maxRecDepth 100000 in
theorem eX10_sum : zdec mX10_sum := by unfold zdec; decide +kernel
theorem fX10_sum : zMF mX10_sum 0 := ⟨ztb_t (zt6 _ (List.mem_of_getElem? (i := 232) rfl)) rfl, ztb_t (zt1 _ (List.mem_of_getElem? (i := 14) rfl)) rfl, by decide +kernel, by decide⟩
def mX10_product : zM := (yX10_product, cX10_product, 2, none, [(0, .aload_n 0, 1), (1, .invokevirtual 300, 3), (4, .aload_n 0, 1), (5, .bipush 42, 2), (7, .invokevirtual 267, 3), (10, .ifCond .ne 12, 3), (13, .aload_n 0, 1), (14, .bipush 47, 2), (16, .invokevirtual 267, 3), (19, .ifCond .eq 29, 3), (22, .aload_n 0, 1), (23, .getfield 189, 3), (26, .istore_n 1, 1), (27, .aload_n 0, 1), (28, .invokevirtual 285, 3), (31, .aload_n 0, 1), (32, .invokevirtual 261, 3), (35, .aload_n 0, 1), (36, .invokevirtual 300, 3), (39, .aload_n 0, 1), (40, .iconst 2, 1), (41, .iload_n 1, 1), (42, .invokevirtual 288, 3), (45, .goto (-41), 3), (48, .return_, 1)])
set_option maxRecDepth 100000 in
theorem eX10_product : zdec mX10_product := by unfold zdec; decide +kernel
theorem fX10_product : zMF mX10_product 0 := ⟨ztb_t (zt6 _ (List.mem_of_getElem? (i := 236) rfl)) rfl, ztb_t (zt1 _ (List.mem_of_getElem? (i := 14) rfl)) rfl, by decide +kernel, by decide⟩
def mX10_primary : zM := (yX10_primary, cX10_primary, 2, none, [(0, .aload_n 0, 1), (1, .getfield 214, 3), (4, .ifCond .eq 4, 3), (7, .return_, 1), (8, .aload_n 0, 1), (9, .bipush 40, 2), (11, .invokevirtual 267, 3), (14, .ifCond .eq 87, 3), (17, .aload_n 0, 1), (18, .getfield 303, 3), (21, .bipush 8, 2), (23, .if_icmp .ne 8, 3), (26, .aload_n 0, 1), (27, .iconst 2, 1), (28, .invokevirtual 223, 3), (31, .aload_n 0, 1), (32, .getfield 214, 3), (35, .ifCond .eq 4, 3), (38, .return_, 1), (39, .aload_n 0, 1), (40, .dup, 1), (41, .getfield 303, 3), (44, .iconst 1, 1), (45, .iadd, 1), (46, .putfield 303, 3), (49, .aload_n 0, 1), (50, .invokevirtual 220, 3), (53, .aload_n 0, 1), (54, .invokevirtual 276, 3), (57, .aload_n 0, 1), (58, .getfield 214, 3), (61, .ifCond .ne 17, 3), (64, .aload_n 0, 1), (65, .bipush 41, 2), (67, .invokevirtual 267, 3), (70, .ifCond .ne 8, 3), (73, .aload_n 0, 1), (74, .iconst 1, 1), (75, .invokevirtual 223, 3), (78, .aload_n 0, 1), (79, .getfield 214, 3), (82, .ifCond .eq 4, 3), (85, .return_, 1), (86, .aload_n 0, 1), (87, .dup, 1), (88, .getfield 303, 3), (91, .iconst 1, 1), (92, .isub, 1), (93, .putfield 303, 3), (96, .aload_n 0, 1), (97, .invokevirtual 220, 3), (100, .return_, 1), (101, .aload_n 0, 1), (102, .getfield 179, 3), (105, .iconst 2, 1), (106, .if_icmp .ne 7, 3), (109, .iconst 1, 1), (110, .goto 4, 3), (113, .iconst 0, 1), (114, .istore_n 1, 1), (115, .iload_n 1, 1), (116, .ifCond .eq 21, 3), (119, .aload_n 0, 1), (120, .getfield 189, 3), (123, .sipush 9999, 3), (126, .if_icmp .le 11, 3), (129, .aload_n 0, 1), (130, .iconst 2, 1), (131, .invokevirtual 223, 3), (134, .goto 28, 3), (137, .iload_n 1, 1), (138, .ifCond .ne 24, 3), (141, .aload_n 0, 1), (142, .getfield 179, 3), (145, .ifCond .ne 12, 3), (148, .aload_n 0, 1), (149, .getfield 189, 3), (152, .bipush 15, 2), (154, .if_icmp .ge 8, 3), (157, .aload_n 0, 1), (158, .iconst 1, 1), (159, .invokevirtual 223, 3), (162, .aload_n 0, 1), (163, .invokevirtual 285, 3), (166, .aload_n 0, 1), (167, .iload_n 1, 1), (168, .ifCond .eq 7, 3), (171, .iconst 0, 1), (172, .goto 4, 3), (175, .iconst 1, 1), (176, .iload_n 1, 1), (177, .ifCond .eq 10, 3), (180, .aload_n 0, 1), (181, .getfield 189, 3), (184, .goto 10, 3), (187, .aload_n 0, 1), (188, .getfield 189, 3), (191, .bipush 15, 2), (193, .isub, 1), (194, .invokevirtual 288, 3), (197, .aload_n 0, 1), (198, .invokevirtual 261, 3), (201, .return_, 1)])
set_option maxRecDepth 100000 in
theorem eX10_primary : zdec mX10_primary := by unfold zdec; decide +kernel
theorem fX10_primary : zMF mX10_primary 0 := ⟨ztb_t (zt7 _ (List.mem_of_getElem? (i := 0) rfl)) rfl, ztb_t (zt1 _ (List.mem_of_getElem? (i := 14) rfl)) rfl, by decide +kernel, by decide⟩
def mX10_half : zM := (yX10_half, cX10_half, 3, none, [(0, .aload_n 0, 1), (1, .arraylength, 1), (2, .iconst 2, 1), (3, .idiv, 1), (4, .istore_n 1, 1), (5, .iconst 0, 1), (6, .istore_n 2, 1), (7, .iload_n 2, 1), (8, .iload_n 1, 1), (9, .if_icmp .ge 17, 3), (12, .aload_n 0, 1), (13, .iload_n 2, 1), (14, .aload_n 0, 1), (15, .iload_n 1, 1), (16, .iload_n 2, 1), (17, .iadd, 1), (18, .iaload, 1), (19, .iastore, 1), (20, .iinc 2 1, 3), (23, .goto (-16), 3), (26, .return_, 1)])
set_option maxRecDepth 100000 in
theorem eX10_half : zdec mX10_half := by unfold zdec; decide +kernel
theorem fX10_half : zMF mX10_half 1 := ⟨ztb_t (zt7 _ (List.mem_of_getElem? (i := 7) rfl)) rfl, ztb_t (zt1 _ (List.mem_of_getElem? (i := 14) rfl)) rfl, by decide +kernel, by decide⟩
def mX10_text : zM := (yX10_text, cX10_text, 3, (some FieldType.int), [(0, .aload_n 0, 1), (1, .iconst 0, 1), (2, .putfield 160, 3), (5, .iload_n 1, 1), (6, .ifCond .lt 11, 3), (9, .iload_n 1, 1), (10, .aload_n 0, 1), (11, .getfield 163, 3), (14, .if_icmp .le 6, 3), (17, .bipush (-2), 2), (19, .ireturn, 1), (20, .aload_n 0, 1), (21, .iload_n 1, 1), (22, .putfield 169, 3), (25, .aload_n 0, 1), (26, .iconst 0, 1), (27, .putfield 163, 3), (30, .aload_n 0, 1), (31, .iconst 0, 1), (32, .putfield 166, 3), (35, .aload_n 0, 1), (36, .iconst 0, 1), (37, .putfield 214, 3), (40, .aload_n 0, 1), (41, .iconst (-1), 1), (42, .putfield 217, 3), (45, .iconst 0, 1), (46, .istore_n 2, 1), (47, .iload_n 2, 1), (48, .bipush 8, 2), (50, .if_icmp .ge 15, 3), (53, .aload_n 0, 1), (54, .iload_n 2, 1), (55, .iconst 0, 1), (56, .invokevirtual 248, 3), (59, .iinc 2 1, 3), (62, .goto (-15), 3), (65, .iconst 3, 1), (66, .istore_n 2, 1), (67, .iload_n 2, 1), (68, .bipush 6, 2), (70, .if_icmp .ge 23, 3), (73, .aload_n 0, 1), (74, .getfield 46, 3), (77, .iload_n 2, 1), (78, .iconst 0, 1), (79, .iastore, 1), (80, .aload_n 0, 1), (81, .getfield 49, 3), (84, .iload_n 2, 1), (85, .iconst 0, 1), (86, .iastore, 1), (87, .iinc 2 1, 3), (90, .goto (-23), 3), (93, .aload_n 0, 1), (94, .iconst 0, 1), (95, .putfield 237, 3), (98, .aload_n 0, 1), (99, .iconst 0, 1), (100, .putfield 270, 3), (103, .aload_n 0, 1), (104, .iconst 0, 1), (105, .putfield 303, 3), (108, .aload_n 0, 1), (109, .iconst 0, 1), (110, .putfield 279, 3), (113, .aload_n 0, 1), (114, .invokevirtual 220, 3), (117, .aload_n 0, 1), (118, .getfield 214, 3), (121, .ifCond .ne 18, 3), (124, .aload_n 0, 1), (125, .getfield 179, 3), (128, .iconst 4, 1), (129, .if_icmp .eq 10, 3), (132, .aload_n 0, 1), (133, .invokevirtual 306, 3), (136, .goto (-19), 3), (139, .aload_n 0, 1), (140, .aload_n 0, 1), (141, .getfield 214, 3), (144, .putfield 309, 3), (147, .aload_n 0, 1), (148, .aload_n 0, 1), (149, .getfield 217, 3), (152, .putfield 58, 3), (155, .aload_n 0, 1), (156, .getfield 214, 3), (159, .ifCond .eq 5, 3), (162, .iconst (-1), 1), (163, .ireturn, 1), (164, .aload_n 0, 1), (165, .getfield 13, 3), (168, .invokestatic 312, 3), (171, .aload_n 0, 1), (172, .getfield 16, 3), (175, .invokestatic 312, 3), (178, .aload_n 0, 1), (179, .getfield 19, 3), (182, .invokestatic 312, 3), (185, .aload_n 0, 1), (186, .getfield 22, 3), (189, .invokestatic 312, 3), (192, .aload_n 0, 1), (193, .getfield 25, 3), (196, .invokestatic 312, 3), (199, .aload_n 0, 1), (200, .getfield 28, 3), (203, .invokestatic 312, 3), (206, .aload_n 0, 1), (207, .getfield 31, 3), (210, .invokestatic 312, 3), (213, .aload_n 0, 1), (214, .getfield 34, 3), (217, .invokestatic 312, 3), (220, .aload_n 0, 1), (221, .getfield 37, 3), (224, .invokestatic 312, 3), (227, .aload_n 0, 1), (228, .getfield 40, 3), (231, .invokestatic 312, 3), (234, .aload_n 0, 1), (235, .getfield 43, 3), (238, .invokestatic 312, 3), (241, .aload_n 0, 1), (242, .getfield 46, 3), (245, .invokestatic 312, 3), (248, .aload_n 0, 1), (249, .getfield 49, 3), (252, .invokestatic 312, 3), (255, .aload_n 0, 1), (256, .getfield 52, 3), (259, .invokestatic 312, 3), (262, .aload_n 0, 1), (263, .getfield 55, 3), (266, .invokestatic 312, 3), (269, .aload_n 0, 1), (270, .iconst 0, 1), (271, .putfield 316, 3), (274, .aload_n 0, 1), (275, .iconst (-1), 1), (276, .putfield 135, 3), (279, .aload_n 0, 1), (280, .iconst 0, 1), (281, .putfield 319, 3), (284, .aload_n 0, 1), (285, .iconst 0, 1), (286, .putfield 323, 3), (289, .aload_n 0, 1), (290, .invokevirtual 157, 3), (293, .aload_n 0, 1), (294, .getfield 270, 3), (297, .ireturn, 1)])
set_option maxRecDepth 100000 in
theorem eX10_text : zdec mX10_text := by unfold zdec; decide +kernel
theorem fX10_text : zMF mX10_text 1 := ⟨ztb_t (zt6 _ (List.mem_of_getElem? (i := 123) rfl)) rfl, ztb_t (zt1 _ (List.mem_of_getElem? (i := 14) rfl)) rfl, by decide +kernel, by decide⟩
def mX10_fault : zM := (yX10_fault, cX10_fault, 2, (some FieldType.int), [(0, .aload_n 0, 1), (1, .iconst 0, 1), (2, .putfield 160, 3), (5, .iload_n 1, 1), (6, .ifCond .ne 10, 3), (9, .aload_n 0, 1), (10, .getfield 309, 3), (13, .goto 16, 3), (16, .iload_n 1, 1), (17, .iconst 1, 1), (18, .if_icmp .ne 10, 3), (21, .aload_n 0, 1), (22, .getfield 58, 3), (25, .goto 4, 3), (28, .iconst (-1), 1), (29, .ireturn, 1)])
set_option maxRecDepth 100000 in
theorem eX10_fault : zdec mX10_fault := by unfold zdec; decide +kernel
theorem fX10_fault : zMF mX10_fault 1 := ⟨ztb_t (zt7 _ (List.mem_of_getElem? (i := 11) rfl)) rfl, ztb_t (zt1 _ (List.mem_of_getElem? (i := 14) rfl)) rfl, by decide +kernel, by decide⟩
def mX10_named : zM := (yX10_named, cX10_named, 3, (some FieldType.int), [(0, .aload_n 0, 1), (1, .iconst 0, 1), (2, .putfield 160, 3), (5, .iload_n 1, 1), (6, .tableswitch 94 0 3 #[30, 46, 62, 78], 30), (36, .aload_n 0, 1), (37, .getfield 16, 3), (40, .iconst 0, 1), (41, .aload_n 0, 1), (42, .getfield 13, 3), (45, .iconst 0, 1), (46, .iaload, 1), (47, .iload_n 2, 1), (48, .invokestatic 226, 3), (51, .ireturn, 1), (52, .aload_n 0, 1), (53, .getfield 22, 3), (56, .iconst 0, 1), (57, .aload_n 0, 1), (58, .getfield 13, 3), (61, .iconst 1, 1), (62, .iaload, 1), (63, .iload_n 2, 1), (64, .invokestatic 226, 3), (67, .ireturn, 1), (68, .aload_n 0, 1), (69, .getfield 31, 3), (72, .iconst 0, 1), (73, .aload_n 0, 1), (74, .getfield 13, 3), (77, .iconst 3, 1), (78, .iaload, 1), (79, .iload_n 2, 1), (80, .invokestatic 226, 3), (83, .ireturn, 1), (84, .aload_n 0, 1), (85, .getfield 37, 3), (88, .iconst 0, 1), (89, .aload_n 0, 1), (90, .getfield 13, 3), (93, .iconst 4, 1), (94, .iaload, 1), (95, .iload_n 2, 1), (96, .invokestatic 226, 3), (99, .ireturn, 1), (100, .iconst (-1), 1), (101, .ireturn, 1)])
set_option maxRecDepth 100000 in
theorem eX10_named : zdec mX10_named := by unfold zdec; decide +kernel
theorem fX10_named : zMF mX10_named 2 := ⟨ztb_t (zt7 _ (List.mem_of_getElem? (i := 15) rfl)) rfl, ztb_t (zt1 _ (List.mem_of_getElem? (i := 14) rfl)) rfl, by decide +kernel, by decide⟩
def mX10_is : zM := (yX10_is, cX10_is, 1, (some FieldType.long), [(0, .iload_n 0, 1), (1, .ifCond .eq 7, 3), (4, .lconst 1, 1), (5, .goto 4, 3), (8, .lconst 0, 1), (9, .lreturn, 1)])
set_option maxRecDepth 100000 in
theorem eX10_is : zdec mX10_is := by unfold zdec; decide +kernel
theorem fX10_is : zMF mX10_is 1 := ⟨ztb_t (zt7 _ (List.mem_of_getElem? (i := 58) rfl)) rfl, ztb_t (zt1 _ (List.mem_of_getElem? (i := 14) rfl)) rfl, by decide +kernel, by decide⟩
def mX10_works : zM := (yX10_works, cX10_works, 8, (some FieldType.boolean), [(0, .aload_n 0, 1), (1, .getfield 66, 3), (4, .aload_n 0, 1), (5, .getfield 326, 3), (8, .iconst 1, 1), (9, .isub, 1), (10, .laload, 1), (11, .lstore_n 2, 1), (12, .iload_n 1, 1), (13, .sipush 260, 3), (16, .if_icmp .ne 30, 3), (19, .aload_n 0, 1), (20, .getfield 66, 3), (23, .aload_n 0, 1), (24, .getfield 326, 3), (27, .iconst 1, 1), (28, .isub, 1), (29, .lload_n 2, 1), (30, .lconst 0, 1), (31, .lcmp, 1), (32, .ifCond .ne 7, 3), (35, .iconst 1, 1), (36, .goto 4, 3), (39, .iconst 0, 1), (40, .invokestatic 329, 3), (43, .lastore, 1), (44, .iconst 1, 1), (45, .ireturn, 1), (46, .aload_n 0, 1), (47, .getfield 66, 3), (50, .aload_n 0, 1), (51, .getfield 326, 3), (54, .iconst 2, 1), (55, .isub, 1), (56, .laload, 1), (57, .lstore 4, 2), (59, .aload_n 0, 1), (60, .dup, 1), (61, .getfield 326, 3), (64, .iconst 1, 1), (65, .isub, 1), (66, .putfield 326, 3), (69, .iload_n 1, 1), (70, .lookupswitch 314 #[(42, 116), (43, 98), (45, 107), (47, 151), (60, 168), (61, 208), (62, 188), (256, 228), (257, 268), (258, 248), (261, 288)], 98), (168, .lload 4, 2), (170, .lload_n 2, 1), (171, .ladd, 1), (172, .lstore 6, 2), (174, .goto 233, 3), (177, .lload 4, 2), (179, .lload_n 2, 1), (180, .lsub, 1), (181, .lstore 6, 2), (183, .goto 224, 3), (186, .lload 4, 2), (188, .lconst 0, 1), (189, .lcmp, 1), (190, .ifCond .eq 22, 3), (193, .lload_n 2, 1), (194, .invokestatic 333, 3), (197, .ldc2_w 339, 3), (200, .lload 4, 2), (202, .invokestatic 333, 3), (205, .ldiv, 1), (206, .lcmp, 1), (207, .ifCond .le 5, 3), (210, .iconst 0, 1), (211, .ireturn, 1), (212, .lload 4, 2), (214, .lload_n 2, 1), (215, .lmul, 1), (216, .lstore 6, 2), (218, .goto 189, 3), (221, .lload_n 2, 1), (222, .lconst 0, 1), (223, .lcmp, 1), (224, .ifCond .ne 5, 3), (227, .iconst 0, 1), (228, .ireturn, 1), (229, .lload 4, 2), (231, .lload_n 2, 1), (232, .ldiv, 1), (233, .lstore 6, 2), (235, .goto 172, 3), (238, .lload 4, 2), (240, .lload_n 2, 1), (241, .lcmp, 1), (242, .ifCond .ge 7, 3), (245, .iconst 1, 1), (246, .goto 4, 3), (249, .iconst 0, 1), (250, .invokestatic 329, 3), (253, .lstore 6, 2), (255, .goto 152, 3), (258, .lload 4, 2), (260, .lload_n 2, 1), (261, .lcmp, 1), (262, .ifCond .le 7, 3), (265, .iconst 1, 1), (266, .goto 4, 3), (269, .iconst 0, 1), (270, .invokestatic 329, 3), (273, .lstore 6, 2), (275, .goto 132, 3), (278, .lload 4, 2), (280, .lload_n 2, 1), (281, .lcmp, 1), (282, .ifCond .ne 7, 3), (285, .iconst 1, 1), (286, .goto 4, 3), (289, .iconst 0, 1), (290, .invokestatic 329, 3), (293, .lstore 6, 2), (295, .goto 112, 3), (298, .lload 4, 2), (300, .lload_n 2, 1), (301, .lcmp, 1), (302, .ifCond .gt 7, 3), (305, .iconst 1, 1), (306, .goto 4, 3), (309, .iconst 0, 1), (310, .invokestatic 329, 3), (313, .lstore 6, 2), (315, .goto 92, 3), (318, .lload 4, 2), (320, .lload_n 2, 1), (321, .lcmp, 1), (322, .ifCond .lt 7, 3), (325, .iconst 1, 1), (326, .goto 4, 3), (329, .iconst 0, 1), (330, .invokestatic 329, 3), (333, .lstore 6, 2), (335, .goto 72, 3), (338, .lload 4, 2), (340, .lload_n 2, 1), (341, .lcmp, 1), (342, .ifCond .eq 7, 3), (345, .iconst 1, 1), (346, .goto 4, 3), (349, .iconst 0, 1), (350, .invokestatic 329, 3), (353, .lstore 6, 2), (355, .goto 52, 3), (358, .lload 4, 2), (360, .lconst 0, 1), (361, .lcmp, 1), (362, .ifCond .eq 13, 3), (365, .lload_n 2, 1), (366, .lconst 0, 1), (367, .lcmp, 1), (368, .ifCond .eq 7, 3), (371, .iconst 1, 1), (372, .goto 4, 3), (375, .iconst 0, 1), (376, .invokestatic 329, 3), (379, .lstore 6, 2), (381, .goto 26, 3), (384, .lload 4, 2), (386, .lconst 0, 1), (387, .lcmp, 1), (388, .ifCond .ne 9, 3), (391, .lload_n 2, 1), (392, .lconst 0, 1), (393, .lcmp, 1), (394, .ifCond .eq 7, 3), (397, .iconst 1, 1), (398, .goto 4, 3), (401, .iconst 0, 1), (402, .invokestatic 329, 3), (405, .lstore 6, 2), (407, .aload_n 0, 1), (408, .getfield 66, 3), (411, .aload_n 0, 1), (412, .getfield 326, 3), (415, .iconst 1, 1), (416, .isub, 1), (417, .lload 6, 2), (419, .lastore, 1), (420, .lload 6, 2), (422, .ldc2_w 339, 3), (425, .lcmp, 1), (426, .ifCond .gt 16, 3), (429, .lload 6, 2), (431, .ldc2_w 341, 3), (434, .lcmp, 1), (435, .ifCond .lt 7, 3), (438, .iconst 1, 1), (439, .goto 4, 3), (442, .iconst 0, 1), (443, .ireturn, 1)])
set_option maxRecDepth 100000 in
theorem eX10_works : zdec mX10_works := by unfold zdec; decide +kernel
theorem fX10_works : zMF mX10_works 1 := ⟨ztb_t (zt7 _ (List.mem_of_getElem? (i := 55) rfl)) rfl, ztb_t (zt1 _ (List.mem_of_getElem? (i := 14) rfl)) rfl, by decide +kernel, by decide⟩
def mX10_comesOut : zM := (yX10_comesOut, cX10_comesOut, 3, (some FieldType.boolean), [(0, .aload_n 0, 1), (1, .iconst 0, 1), (2, .putfield 326, 3), (5, .aload_n 0, 1), (6, .getfield 46, 3), (9, .iload_n 1, 1), (10, .iaload, 1), (11, .istore_n 2, 1), (12, .iload_n 2, 1), (13, .aload_n 0, 1), (14, .getfield 49, 3), (17, .iload_n 1, 1), (18, .iaload, 1), (19, .if_icmp .ge 83, 3), (22, .aload_n 0, 1), (23, .getfield 52, 3), (26, .iload_n 2, 1), (27, .iaload, 1), (28, .iconst 2, 1), (29, .if_icmp .ne 18, 3), (32, .aload_n 0, 1), (33, .aload_n 0, 1), (34, .getfield 55, 3), (37, .iload_n 2, 1), (38, .iaload, 1), (39, .invokevirtual 343, 3), (42, .ifCond .ne 54, 3), (45, .iconst 0, 1), (46, .ireturn, 1), (47, .aload_n 0, 1), (48, .getfield 66, 3), (51, .aload_n 0, 1), (52, .getfield 326, 3), (55, .aload_n 0, 1), (56, .getfield 52, 3), (59, .iload_n 2, 1), (60, .iaload, 1), (61, .ifCond .ne 13, 3), (64, .aload_n 0, 1), (65, .getfield 55, 3), (68, .iload_n 2, 1), (69, .iaload, 1), (70, .i2l, 1), (71, .goto 14, 3), (74, .aload_n 0, 1), (75, .getfield 62, 3), (78, .aload_n 0, 1), (79, .getfield 55, 3), (82, .iload_n 2, 1), (83, .iaload, 1), (84, .laload, 1), (85, .lastore, 1), (86, .aload_n 0, 1), (87, .dup, 1), (88, .getfield 326, 3), (91, .iconst 1, 1), (92, .iadd, 1), (93, .putfield 326, 3), (96, .iinc 2 1, 3), (99, .goto (-87), 3), (102, .iconst 1, 1), (103, .ireturn, 1)])
set_option maxRecDepth 100000 in
theorem eX10_comesOut : zdec mX10_comesOut := by unfold zdec; decide +kernel
theorem fX10_comesOut : zMF mX10_comesOut 1 := ⟨ztb_t (zt7 _ (List.mem_of_getElem? (i := 51) rfl)) rfl, ztb_t (zt1 _ (List.mem_of_getElem? (i := 14) rfl)) rfl, by decide +kernel, by decide⟩
def mX10_hasLaw : zM := (yX10_hasLaw, cX10_hasLaw, 2, (some FieldType.boolean), [(0, .aload_n 0, 1), (1, .getfield 49, 3), (4, .iload_n 1, 1), (5, .iaload, 1), (6, .aload_n 0, 1), (7, .getfield 46, 3), (10, .iload_n 1, 1), (11, .iaload, 1), (12, .if_icmp .le 7, 3), (15, .iconst 1, 1), (16, .goto 4, 3), (19, .iconst 0, 1), (20, .ireturn, 1)])
set_option maxRecDepth 100000 in
theorem eX10_hasLaw : zdec mX10_hasLaw := by unfold zdec; decide +kernel
theorem fX10_hasLaw : zMF mX10_hasLaw 1 := ⟨ztb_t (zt7 _ (List.mem_of_getElem? (i := 47) rfl)) rfl, ztb_t (zt1 _ (List.mem_of_getElem? (i := 14) rfl)) rfl, by decide +kernel, by decide⟩
def mX10_starts : zM := (yX10_starts, cX10_starts, 4, none, [(0, .aload_n 0, 1), (1, .getfield 69, 3), (4, .iload_n 1, 1), (5, .iconst 0, 1), (6, .iastore, 1), (7, .aload_n 0, 1), (8, .getfield 72, 3), (11, .iload_n 1, 1), (12, .iconst (-1), 1), (13, .iastore, 1), (14, .aload_n 0, 1), (15, .getfield 75, 3), (18, .iload_n 1, 1), (19, .iconst 0, 1), (20, .iastore, 1), (21, .aload_n 0, 1), (22, .getfield 78, 3), (25, .iload_n 1, 1), (26, .iconst 0, 1), (27, .iastore, 1), (28, .aload_n 0, 1), (29, .getfield 81, 3), (32, .iload_n 1, 1), (33, .aload_n 0, 1), (34, .getfield 13, 3), (37, .bipush 6, 2), (39, .iaload, 1), (40, .iastore, 1), (41, .iconst 0, 1), (42, .istore_n 2, 1), (43, .iload_n 2, 1), (44, .bipush 6, 2), (46, .if_icmp .ge 83, 3), (49, .aload_n 0, 1), (50, .getfield 84, 3), (53, .bipush 6, 2), (55, .iload_n 1, 1), (56, .imul, 1), (57, .iload_n 2, 1), (58, .iadd, 1), (59, .iload_n 2, 1), (60, .aload_n 0, 1), (61, .getfield 13, 3), (64, .iconst 0, 1), (65, .iaload, 1), (66, .if_icmp .ge 12, 3), (69, .aload_n 0, 1), (70, .getfield 19, 3), (73, .iload_n 2, 1), (74, .iaload, 1), (75, .goto 4, 3), (78, .iconst 0, 1), (79, .iastore, 1), (80, .aload_n 0, 1), (81, .getfield 87, 3), (84, .bipush 6, 2), (86, .iload_n 1, 1), (87, .imul, 1), (88, .iload_n 2, 1), (89, .iadd, 1), (90, .iconst 0, 1), (91, .iastore, 1), (92, .iconst 0, 1), (93, .istore_n 3, 1), (94, .iload_n 3, 1), (95, .bipush 6, 2), (97, .if_icmp .ge 26, 3), (100, .aload_n 0, 1), (101, .getfield 90, 3), (104, .bipush 36, 2), (106, .iload_n 1, 1), (107, .imul, 1), (108, .bipush 6, 2), (110, .iload_n 3, 1), (111, .imul, 1), (112, .iadd, 1), (113, .iload_n 2, 1), (114, .iadd, 1), (115, .iconst 0, 1), (116, .iastore, 1), (117, .iinc 3 1, 3), (120, .goto (-26), 3), (123, .iinc 2 1, 3), (126, .goto (-83), 3), (129, .iconst 0, 1), (130, .istore_n 2, 1), (131, .iload_n 2, 1), (132, .aload_n 0, 1), (133, .getfield 13, 3), (136, .iconst 4, 1), (137, .iaload, 1), (138, .if_icmp .ge 65, 3), (141, .aload_n 0, 1), (142, .getfield 93, 3), (145, .iconst 5, 1), (146, .iload_n 1, 1), (147, .imul, 1), (148, .iload_n 2, 1), (149, .iadd, 1), (150, .aload_n 0, 1), (151, .getfield 40, 3), (154, .iload_n 2, 1), (155, .iaload, 1), (156, .iastore, 1), (157, .aload_n 0, 1), (158, .getfield 96, 3), (161, .iconst 5, 1), (162, .iload_n 1, 1), (163, .imul, 1), (164, .iload_n 2, 1), (165, .iadd, 1), (166, .iconst 0, 1), (167, .iastore, 1), (168, .aload_n 0, 1), (169, .getfield 99, 3), (172, .iconst 5, 1), (173, .iload_n 1, 1), (174, .imul, 1), (175, .iload_n 2, 1), (176, .iadd, 1), (177, .iconst 0, 1), (178, .iastore, 1), (179, .aload_n 0, 1), (180, .getfield 102, 3), (183, .iconst 5, 1), (184, .iload_n 1, 1), (185, .imul, 1), (186, .iload_n 2, 1), (187, .iadd, 1), (188, .aload_n 0, 1), (189, .getfield 13, 3), (192, .iconst 1, 1), (193, .iaload, 1), (194, .iconst 1, 1), (195, .isub, 1), (196, .iastore, 1), (197, .iinc 2 1, 3), (200, .goto (-69), 3), (203, .return_, 1)])
set_option maxRecDepth 100000 in
theorem eX10_starts : zdec mX10_starts := by unfold zdec; decide +kernel
theorem fX10_starts : zMF mX10_starts 1 := ⟨ztb_t (zt5 _ (List.mem_of_getElem? (i := 146) rfl)) rfl, ztb_t (zt1 _ (List.mem_of_getElem? (i := 14) rfl)) rfl, by decide +kernel, by decide⟩
def mX10_begins : zM := (yX10_begins, cX10_begins, 1, none, [(0, .aload_n 0, 1), (1, .iconst 0, 1), (2, .invokevirtual 346, 3), (5, .return_, 1)])
set_option maxRecDepth 100000 in
theorem eX10_begins : zdec mX10_begins := by unfold zdec; decide +kernel
theorem fX10_begins : zMF mX10_begins 0 := ⟨ztb_t (zt5 _ (List.mem_of_getElem? (i := 142) rfl)) rfl, ztb_t (zt1 _ (List.mem_of_getElem? (i := 14) rfl)) rfl, by decide +kernel, by decide⟩
def mX10_copies : zM := (yX10_copies, cX10_copies, 4, none, [(0, .aload_n 0, 1), (1, .getfield 69, 3), (4, .iload_n 1, 1), (5, .aload_n 0, 1), (6, .getfield 69, 3), (9, .iload_n 2, 1), (10, .iaload, 1), (11, .iastore, 1), (12, .aload_n 0, 1), (13, .getfield 72, 3), (16, .iload_n 1, 1), (17, .aload_n 0, 1), (18, .getfield 72, 3), (21, .iload_n 2, 1), (22, .iaload, 1), (23, .iastore, 1), (24, .aload_n 0, 1), (25, .getfield 75, 3), (28, .iload_n 1, 1), (29, .aload_n 0, 1), (30, .getfield 75, 3), (33, .iload_n 2, 1), (34, .iaload, 1), (35, .iastore, 1), (36, .aload_n 0, 1), (37, .getfield 78, 3), (40, .iload_n 1, 1), (41, .aload_n 0, 1), (42, .getfield 78, 3), (45, .iload_n 2, 1), (46, .iaload, 1), (47, .iastore, 1), (48, .aload_n 0, 1), (49, .getfield 81, 3), (52, .iload_n 1, 1), (53, .aload_n 0, 1), (54, .getfield 81, 3), (57, .iload_n 2, 1), (58, .iaload, 1), (59, .iastore, 1), (60, .iconst 0, 1), (61, .istore_n 3, 1), (62, .iload_n 3, 1), (63, .bipush 6, 2), (65, .if_icmp .ge 53, 3), (68, .aload_n 0, 1), (69, .getfield 84, 3), (72, .bipush 6, 2), (74, .iload_n 1, 1), (75, .imul, 1), (76, .iload_n 3, 1), (77, .iadd, 1), (78, .aload_n 0, 1), (79, .getfield 84, 3), (82, .bipush 6, 2), (84, .iload_n 2, 1), (85, .imul, 1), (86, .iload_n 3, 1), (87, .iadd, 1), (88, .iaload, 1), (89, .iastore, 1), (90, .aload_n 0, 1), (91, .getfield 87, 3), (94, .bipush 6, 2), (96, .iload_n 1, 1), (97, .imul, 1), (98, .iload_n 3, 1), (99, .iadd, 1), (100, .aload_n 0, 1), (101, .getfield 87, 3), (104, .bipush 6, 2), (106, .iload_n 2, 1), (107, .imul, 1), (108, .iload_n 3, 1), (109, .iadd, 1), (110, .iaload, 1), (111, .iastore, 1), (112, .iinc 3 1, 3), (115, .goto (-53), 3), (118, .iconst 0, 1), (119, .istore_n 3, 1), (120, .iload_n 3, 1), (121, .bipush 36, 2), (123, .if_icmp .ge 31, 3), (126, .aload_n 0, 1), (127, .getfield 90, 3), (130, .bipush 36, 2), (132, .iload_n 1, 1), (133, .imul, 1), (134, .iload_n 3, 1), (135, .iadd, 1), (136, .aload_n 0, 1), (137, .getfield 90, 3), (140, .bipush 36, 2), (142, .iload_n 2, 1), (143, .imul, 1), (144, .iload_n 3, 1), (145, .iadd, 1), (146, .iaload, 1), (147, .iastore, 1), (148, .iinc 3 1, 3), (151, .goto (-31), 3), (154, .iconst 0, 1), (155, .istore_n 3, 1), (156, .iload_n 3, 1), (157, .iconst 5, 1), (158, .if_icmp .ge 89, 3), (161, .aload_n 0, 1), (162, .getfield 93, 3), (165, .iconst 5, 1), (166, .iload_n 1, 1), (167, .imul, 1), (168, .iload_n 3, 1), (169, .iadd, 1), (170, .aload_n 0, 1), (171, .getfield 93, 3), (174, .iconst 5, 1), (175, .iload_n 2, 1), (176, .imul, 1), (177, .iload_n 3, 1), (178, .iadd, 1), (179, .iaload, 1), (180, .iastore, 1), (181, .aload_n 0, 1), (182, .getfield 96, 3), (185, .iconst 5, 1), (186, .iload_n 1, 1), (187, .imul, 1), (188, .iload_n 3, 1), (189, .iadd, 1), (190, .aload_n 0, 1), (191, .getfield 96, 3), (194, .iconst 5, 1), (195, .iload_n 2, 1), (196, .imul, 1), (197, .iload_n 3, 1), (198, .iadd, 1), (199, .iaload, 1), (200, .iastore, 1), (201, .aload_n 0, 1), (202, .getfield 99, 3), (205, .iconst 5, 1), (206, .iload_n 1, 1), (207, .imul, 1), (208, .iload_n 3, 1), (209, .iadd, 1), (210, .aload_n 0, 1), (211, .getfield 99, 3), (214, .iconst 5, 1), (215, .iload_n 2, 1), (216, .imul, 1), (217, .iload_n 3, 1), (218, .iadd, 1), (219, .iaload, 1), (220, .iastore, 1), (221, .aload_n 0, 1), (222, .getfield 102, 3), (225, .iconst 5, 1), (226, .iload_n 1, 1), (227, .imul, 1), (228, .iload_n 3, 1), (229, .iadd, 1), (230, .aload_n 0, 1), (231, .getfield 102, 3), (234, .iconst 5, 1), (235, .iload_n 2, 1), (236, .imul, 1), (237, .iload_n 3, 1), (238, .iadd, 1), (239, .iaload, 1), (240, .iastore, 1), (241, .iinc 3 1, 3), (244, .goto (-88), 3), (247, .return_, 1)])
set_option maxRecDepth 100000 in
theorem eX10_copies : zdec mX10_copies := by unfold zdec; decide +kernel
theorem fX10_copies : zMF mX10_copies 2 := ⟨ztb_t (zt7 _ (List.mem_of_getElem? (i := 134) rfl)) rfl, ztb_t (zt1 _ (List.mem_of_getElem? (i := 14) rfl)) rfl, by decide +kernel, by decide⟩
def mX10_isStuff : zM := (yX10_isStuff, cX10_isStuff, 2, (some FieldType.boolean), [(0, .iload_n 1, 1), (1, .ifCond .lt 17, 3), (4, .iload_n 1, 1), (5, .aload_n 0, 1), (6, .getfield 13, 3), (9, .iconst 0, 1), (10, .iaload, 1), (11, .if_icmp .ge 7, 3), (14, .iconst 1, 1), (15, .goto 4, 3), (18, .iconst 0, 1), (19, .ireturn, 1)])
set_option maxRecDepth 100000 in
theorem eX10_isStuff : zdec mX10_isStuff := by unfold zdec; decide +kernel
theorem fX10_isStuff : zMF mX10_isStuff 1 := ⟨ztb_t (zt7 _ (List.mem_of_getElem? (i := 31) rfl)) rfl, ztb_t (zt1 _ (List.mem_of_getElem? (i := 14) rfl)) rfl, by decide +kernel, by decide⟩
def mX10_isDay : zM := (yX10_isDay, cX10_isDay, 2, (some FieldType.boolean), [(0, .iload_n 1, 1), (1, .ifCond .lt 17, 3), (4, .iload_n 1, 1), (5, .aload_n 0, 1), (6, .getfield 13, 3), (9, .iconst 1, 1), (10, .iaload, 1), (11, .if_icmp .ge 7, 3), (14, .iconst 1, 1), (15, .goto 4, 3), (18, .iconst 0, 1), (19, .ireturn, 1)])
set_option maxRecDepth 100000 in
theorem eX10_isDay : zdec mX10_isDay := by unfold zdec; decide +kernel
theorem fX10_isDay : zMF mX10_isDay 1 := ⟨ztb_t (zt7 _ (List.mem_of_getElem? (i := 73) rfl)) rfl, ztb_t (zt1 _ (List.mem_of_getElem? (i := 14) rfl)) rfl, by decide +kernel, by decide⟩
def mX10_isRoom : zM := (yX10_isRoom, cX10_isRoom, 2, (some FieldType.boolean), [(0, .iload_n 1, 1), (1, .ifCond .lt 17, 3), (4, .iload_n 1, 1), (5, .aload_n 0, 1), (6, .getfield 13, 3), (9, .iconst 3, 1), (10, .iaload, 1), (11, .if_icmp .ge 7, 3), (14, .iconst 1, 1), (15, .goto 4, 3), (18, .iconst 0, 1), (19, .ireturn, 1)])
set_option maxRecDepth 100000 in
theorem eX10_isRoom : zdec mX10_isRoom := by unfold zdec; decide +kernel
theorem fX10_isRoom : zMF mX10_isRoom 1 := ⟨ztb_t (zt7 _ (List.mem_of_getElem? (i := 85) rfl)) rfl, ztb_t (zt1 _ (List.mem_of_getElem? (i := 14) rfl)) rfl, by decide +kernel, by decide⟩
def mX10_isMonk : zM := (yX10_isMonk, cX10_isMonk, 2, (some FieldType.boolean), [(0, .iload_n 1, 1), (1, .ifCond .lt 17, 3), (4, .iload_n 1, 1), (5, .aload_n 0, 1), (6, .getfield 13, 3), (9, .iconst 4, 1), (10, .iaload, 1), (11, .if_icmp .ge 7, 3), (14, .iconst 1, 1), (15, .goto 4, 3), (18, .iconst 0, 1), (19, .ireturn, 1)])
set_option maxRecDepth 100000 in
theorem eX10_isMonk : zdec mX10_isMonk := by unfold zdec; decide +kernel
theorem fX10_isMonk : zMF mX10_isMonk 1 := ⟨ztb_t (zt7 _ (List.mem_of_getElem? (i := 23) rfl)) rfl, ztb_t (zt1 _ (List.mem_of_getElem? (i := 14) rfl)) rfl, by decide +kernel, by decide⟩
def mX10_partIn : zM := (yX10_partIn, cX10_partIn, 2, (some FieldType.int), [(0, .aload_n 0, 1), (1, .getfield 349, 3), (4, .iconst 5, 1), (5, .if_icmp .ne 8, 3), (8, .bipush 100, 2), (10, .goto 9, 3), (13, .aload_n 0, 1), (14, .getfield 34, 3), (17, .iload_n 1, 1), (18, .iaload, 1), (19, .ireturn, 1)])
set_option maxRecDepth 100000 in
theorem eX10_partIn : zdec mX10_partIn := by unfold zdec; decide +kernel
theorem fX10_partIn : zMF mX10_partIn 1 := ⟨ztb_t (zt7 _ (List.mem_of_getElem? (i := 105) rfl)) rfl, ztb_t (zt1 _ (List.mem_of_getElem? (i := 14) rfl)) rfl, by decide +kernel, by decide⟩
def mX10_mixOf : zM := (yX10_mixOf, cX10_mixOf, 4, (some FieldType.int), [(0, .aload_n 0, 1), (1, .getfield 108, 3), (4, .iconst (-1), 1), (5, .if_icmp .eq 13, 3), (8, .iload_n 2, 1), (9, .aload_n 0, 1), (10, .getfield 108, 3), (13, .if_icmp .ne 5, 3), (16, .iconst 0, 1), (17, .ireturn, 1), (18, .aload_n 0, 1), (19, .getfield 28, 3), (22, .bipush 6, 2), (24, .iload_n 1, 1), (25, .imul, 1), (26, .aload_n 0, 1), (27, .getfield 108, 3), (30, .iconst (-1), 1), (31, .if_icmp .eq 18, 3), (34, .iload_n 2, 1), (35, .aload_n 0, 1), (36, .getfield 111, 3), (39, .if_icmp .ne 10, 3), (42, .aload_n 0, 1), (43, .getfield 108, 3), (46, .goto 4, 3), (49, .iload_n 2, 1), (50, .iadd, 1), (51, .iaload, 1), (52, .istore_n 3, 1), (53, .iload_n 1, 1), (54, .aload_n 0, 1), (55, .getfield 114, 3), (58, .if_icmp .ne 20, 3), (61, .iload_n 2, 1), (62, .aload_n 0, 1), (63, .getfield 117, 3), (66, .if_icmp .ne 12, 3), (69, .iload_n 3, 1), (70, .aload_n 0, 1), (71, .getfield 352, 3), (74, .iadd, 1), (75, .goto 4, 3), (78, .iload_n 3, 1), (79, .ireturn, 1)])
set_option maxRecDepth 100000 in
theorem eX10_mixOf : zdec mX10_mixOf := by unfold zdec; decide +kernel
theorem fX10_mixOf : zMF mX10_mixOf 2 := ⟨ztb_t (zt7 _ (List.mem_of_getElem? (i := 117) rfl)) rfl, ztb_t (zt1 _ (List.mem_of_getElem? (i := 14) rfl)) rfl, by decide +kernel, by decide⟩
def mX10_calls : zM := (yX10_calls, cX10_calls, 8, none, [(0, .aload_n 0, 1), (1, .getfield 62, 3), (4, .iconst 0, 1), (5, .iload_n 2, 1), (6, .i2l, 1), (7, .lastore, 1), (8, .aload_n 0, 1), (9, .getfield 62, 3), (12, .iconst 1, 1), (13, .iload_n 3, 1), (14, .i2l, 1), (15, .lastore, 1), (16, .aload_n 0, 1), (17, .getfield 62, 3), (20, .iconst 2, 1), (21, .iload 4, 2), (23, .i2l, 1), (24, .lastore, 1), (25, .aload_n 0, 1), (26, .getfield 62, 3), (29, .iconst 3, 1), (30, .iload 5, 2), (32, .i2l, 1), (33, .lastore, 1), (34, .aload_n 0, 1), (35, .getfield 62, 3), (38, .iconst 4, 1), (39, .aload_n 0, 1), (40, .getfield 69, 3), (43, .iload_n 1, 1), (44, .iaload, 1), (45, .i2l, 1), (46, .lastore, 1), (47, .aload_n 0, 1), (48, .getfield 62, 3), (51, .iconst 5, 1), (52, .iload 6, 2), (54, .i2l, 1), (55, .lastore, 1), (56, .aload_n 0, 1), (57, .getfield 62, 3), (60, .bipush 6, 2), (62, .iload 7, 2), (64, .i2l, 1), (65, .lastore, 1), (66, .return_, 1)])
set_option maxRecDepth 100000 in
theorem eX10_calls : zdec mX10_calls := by unfold zdec; decide +kernel
theorem fX10_calls : zMF mX10_calls 7 := ⟨ztb_t (zt7 _ (List.mem_of_getElem? (i := 39) rfl)) rfl, ztb_t (zt1 _ (List.mem_of_getElem? (i := 14) rfl)) rfl, by decide +kernel, by decide⟩
def mX10_within : zM := (yX10_within, cX10_within, 5, (some FieldType.int), [(0, .aload_n 0, 1), (1, .iload_n 1, 1), (2, .invokevirtual 355, 3), (5, .ifCond .eq 11, 3), (8, .aload_n 0, 1), (9, .iload_n 1, 1), (10, .invokevirtual 358, 3), (13, .ifCond .ne 6, 3), (16, .iload 4, 2), (18, .ireturn, 1), (19, .iload_n 2, 1), (20, .i2l, 1), (21, .iload_n 3, 1), (22, .i2l, 1), (23, .aload_n 0, 1), (24, .getfield 66, 3), (27, .iconst 0, 1), (28, .laload, 1), (29, .invokestatic 361, 3), (32, .invokestatic 365, 3), (35, .l2i, 1), (36, .ireturn, 1)])
set_option maxRecDepth 100000 in
theorem eX10_within : zdec mX10_within := by unfold zdec; decide +kernel
theorem fX10_within : zMF mX10_within 4 := ⟨ztb_t (zt7 _ (List.mem_of_getElem? (i := 43) rfl)) rfl, ztb_t (zt1 _ (List.mem_of_getElem? (i := 14) rfl)) rfl, by decide +kernel, by decide⟩
def mX10_keenIn : zM := (yX10_keenIn, cX10_keenIn, 4, (some FieldType.int), [(0, .aload_n 0, 1), (1, .iload_n 1, 1), (2, .iconst 0, 1), (3, .aload_n 0, 1), (4, .iload_n 3, 1), (5, .invokevirtual 368, 3), (8, .iconst 0, 1), (9, .iconst 0, 1), (10, .iload_n 3, 1), (11, .aload_n 0, 1), (12, .getfield 43, 3), (15, .iload_n 2, 1), (16, .iaload, 1), (17, .invokevirtual 371, 3), (20, .aload_n 0, 1), (21, .iconst 1, 1), (22, .iconst 1, 1), (23, .bipush 99, 2), (25, .aload_n 0, 1), (26, .getfield 43, 3), (29, .iload_n 2, 1), (30, .iaload, 1), (31, .invokevirtual 375, 3), (34, .ireturn, 1)])
set_option maxRecDepth 100000 in
theorem eX10_keenIn : zdec mX10_keenIn := by unfold zdec; decide +kernel
theorem fX10_keenIn : zMF mX10_keenIn 3 := ⟨ztb_t (zt7 _ (List.mem_of_getElem? (i := 101) rfl)) rfl, ztb_t (zt1 _ (List.mem_of_getElem? (i := 14) rfl)) rfl, by decide +kernel, by decide⟩
def mX10_keenOf : zM := (yX10_keenOf, cX10_keenOf, 3, (some FieldType.int), [(0, .aload_n 0, 1), (1, .iload_n 1, 1), (2, .iload_n 2, 1), (3, .aload_n 0, 1), (4, .getfield 93, 3), (7, .iconst 5, 1), (8, .iload_n 1, 1), (9, .imul, 1), (10, .iload_n 2, 1), (11, .iadd, 1), (12, .iaload, 1), (13, .invokevirtual 379, 3), (16, .ireturn, 1)])
set_option maxRecDepth 100000 in
theorem eX10_keenOf : zdec mX10_keenOf := by unfold zdec; decide +kernel
theorem fX10_keenOf : zMF mX10_keenOf 2 := ⟨ztb_t (zt7 _ (List.mem_of_getElem? (i := 97) rfl)) rfl, ztb_t (zt1 _ (List.mem_of_getElem? (i := 14) rfl)) rfl, by decide +kernel, by decide⟩
def mX10_coldsOf : zM := (yX10_coldsOf, cX10_coldsOf, 3, (some FieldType.int), [(0, .aload_n 0, 1), (1, .getfield 349, 3), (4, .iconst 2, 1), (5, .if_icmp .ne 7, 3), (8, .iconst 0, 1), (9, .goto 13, 3), (12, .aload_n 0, 1), (13, .getfield 96, 3), (16, .iconst 5, 1), (17, .iload_n 1, 1), (18, .imul, 1), (19, .iload_n 2, 1), (20, .iadd, 1), (21, .iaload, 1), (22, .ireturn, 1)])
set_option maxRecDepth 100000 in
theorem eX10_coldsOf : zdec mX10_coldsOf := by unfold zdec; decide +kernel
theorem fX10_coldsOf : zMF mX10_coldsOf 2 := ⟨ztb_t (zt7 _ (List.mem_of_getElem? (i := 109) rfl)) rfl, ztb_t (zt1 _ (List.mem_of_getElem? (i := 14) rfl)) rfl, by decide +kernel, by decide⟩
end
section
def mX10_worthOf : zM := (yX10_worthOf, cX10_worthOf, 3, (some FieldType.int), [(0, .aload_n 0, 1), (1, .iload_n 1, 1), (2, .aload_n 0, 1), (3, .getfield 84, 3), (6, .bipush 6, 2), (8, .iload_n 1, 1), (9, .imul, 1), (10, .iload_n 2, 1), (11, .iadd, 1), (12, .iaload, 1), (13, .iconst 0, 1), (14, .iconst 0, 1), (15, .iconst 0, 1), (16, .iconst 0, 1), (17, .iconst 0, 1), (18, .invokevirtual 371, 3), (21, .aload_n 0, 1), (22, .iconst 2, 1), (23, .iconst 0, 1), (24, .sipush 999, 3), (27, .iconst 1, 1), (28, .invokevirtual 375, 3), (31, .ireturn, 1)])
set_option maxRecDepth 100000 in
theorem eX10_worthOf : zdec mX10_worthOf := by unfold zdec; decide +kernel
theorem fX10_worthOf : zMF mX10_worthOf 2 := ⟨ztb_t (zt7 _ (List.mem_of_getElem? (i := 35) rfl)) rfl, ztb_t (zt1 _ (List.mem_of_getElem? (i := 14) rfl)) rfl, by decide +kernel, by decide⟩
def mX10_markBy : zM := (yX10_markBy, cX10_markBy, 8, (some FieldType.int), [(0, .iconst 0, 1), (1, .istore 5, 2), (3, .iconst 0, 1), (4, .istore 6, 2), (6, .iload 6, 2), (8, .aload_n 0, 1), (9, .getfield 13, 3), (12, .iconst 0, 1), (13, .iaload, 1), (14, .if_icmp .ge 51, 3), (17, .aload_n 0, 1), (18, .iload_n 1, 1), (19, .iload 6, 2), (21, .invokevirtual 383, 3), (24, .istore 7, 2), (26, .iload 5, 2), (28, .iload 7, 2), (30, .ifCond .le 25, 3), (33, .iload 7, 2), (35, .aload_n 0, 1), (36, .iload_n 2, 1), (37, .invokevirtual 368, 3), (40, .imul, 1), (41, .bipush 100, 2), (43, .idiv, 1), (44, .iload_n 3, 1), (45, .if_icmp .lt 10, 3), (48, .iconst 1, 1), (49, .iload 6, 2), (51, .ishl, 1), (52, .goto 4, 3), (55, .iconst 0, 1), (56, .ior, 1), (57, .istore 5, 2), (59, .iinc 6 1, 3), (62, .goto (-56), 3), (65, .iload 5, 2), (67, .iload 4, 2), (69, .iconst (-1), 1), (70, .ixor, 1), (71, .iand, 1), (72, .ireturn, 1)])
set_option maxRecDepth 100000 in
theorem eX10_markBy : zdec mX10_markBy := by unfold zdec; decide +kernel
theorem fX10_markBy : zMF mX10_markBy 4 := ⟨ztb_t (zt7 _ (List.mem_of_getElem? (i := 113) rfl)) rfl, ztb_t (zt1 _ (List.mem_of_getElem? (i := 14) rfl)) rfl, by decide +kernel, by decide⟩
def mX10_markOf : zM := (yX10_markOf, cX10_markOf, 4, (some FieldType.int), [(0, .aload_n 0, 1), (1, .iload_n 3, 1), (2, .aload_n 0, 1), (3, .getfield 93, 3), (6, .iconst 5, 1), (7, .iload_n 1, 1), (8, .imul, 1), (9, .iload_n 2, 1), (10, .iadd, 1), (11, .iaload, 1), (12, .aload_n 0, 1), (13, .iload_n 1, 1), (14, .iload_n 2, 1), (15, .invokevirtual 386, 3), (18, .aload_n 0, 1), (19, .iload_n 1, 1), (20, .iload_n 2, 1), (21, .invokevirtual 389, 3), (24, .invokevirtual 392, 3), (27, .ireturn, 1)])
set_option maxRecDepth 100000 in
theorem eX10_markOf : zdec mX10_markOf := by unfold zdec; decide +kernel
theorem fX10_markOf : zMF mX10_markOf 3 := ⟨ztb_t (zt7 _ (List.mem_of_getElem? (i := 93) rfl)) rfl, ztb_t (zt1 _ (List.mem_of_getElem? (i := 14) rfl)) rfl, by decide +kernel, by decide⟩
def mX10_mixes : zM := (yX10_mixes, cX10_mixes, 4, none, [(0, .iconst 0, 1), (1, .istore_n 2, 1), (2, .iload_n 2, 1), (3, .aload_n 0, 1), (4, .getfield 13, 3), (7, .iconst 0, 1), (8, .iaload, 1), (9, .if_icmp .ge 87, 3), (12, .aload_n 0, 1), (13, .getfield 13, 3), (16, .iconst 1, 1), (17, .iaload, 1), (18, .ifCond .ne 7, 3), (21, .iconst 0, 1), (22, .goto 21, 3), (25, .aload_n 0, 1), (26, .aload_n 0, 1), (27, .getfield 69, 3), (30, .iload_n 1, 1), (31, .iaload, 1), (32, .aload_n 0, 1), (33, .getfield 13, 3), (36, .iconst 1, 1), (37, .iaload, 1), (38, .irem, 1), (39, .iload_n 2, 1), (40, .invokevirtual 383, 3), (43, .istore_n 3, 1), (44, .aload_n 0, 1), (45, .getfield 349, 3), (48, .iconst 4, 1), (49, .if_icmp .eq 34, 3), (52, .iload_n 3, 1), (53, .aload_n 0, 1), (54, .getfield 84, 3), (57, .bipush 6, 2), (59, .iload_n 1, 1), (60, .imul, 1), (61, .iload_n 2, 1), (62, .iadd, 1), (63, .iaload, 1), (64, .invokestatic 395, 3), (67, .istore_n 3, 1), (68, .aload_n 0, 1), (69, .getfield 84, 3), (72, .bipush 6, 2), (74, .iload_n 1, 1), (75, .imul, 1), (76, .iload_n 2, 1), (77, .iadd, 1), (78, .dup2, 1), (79, .iaload, 1), (80, .iload_n 3, 1), (81, .isub, 1), (82, .iastore, 1), (83, .aload_n 0, 1), (84, .getfield 123, 3), (87, .iload_n 2, 1), (88, .iload_n 3, 1), (89, .iastore, 1), (90, .iinc 2 1, 3), (93, .goto (-91), 3), (96, .return_, 1)])
set_option maxRecDepth 100000 in
theorem eX10_mixes : zdec mX10_mixes := by unfold zdec; decide +kernel
theorem fX10_mixes : zMF mX10_mixes 1 := ⟨ztb_t (zt7 _ (List.mem_of_getElem? (i := 158) rfl)) rfl, ztb_t (zt1 _ (List.mem_of_getElem? (i := 14) rfl)) rfl, by decide +kernel, by decide⟩
def mX10_drifts : zM := (yX10_drifts, cX10_drifts, 7, none, [(0, .iconst 0, 1), (1, .istore_n 2, 1), (2, .iload_n 2, 1), (3, .aload_n 0, 1), (4, .getfield 13, 3), (7, .iconst 3, 1), (8, .iaload, 1), (9, .if_icmp .ge 143, 3), (12, .iconst 0, 1), (13, .istore_n 3, 1), (14, .iload_n 3, 1), (15, .aload_n 0, 1), (16, .getfield 13, 3), (19, .iconst 0, 1), (20, .iaload, 1), (21, .if_icmp .ge 125, 3), (24, .bipush 36, 2), (26, .iload_n 1, 1), (27, .imul, 1), (28, .bipush 6, 2), (30, .iload_n 2, 1), (31, .imul, 1), (32, .iadd, 1), (33, .iload_n 3, 1), (34, .iadd, 1), (35, .istore 4, 2), (37, .aload_n 0, 1), (38, .getfield 349, 3), (41, .iconst 1, 1), (42, .if_icmp .ne 7, 3), (45, .iconst 0, 1), (46, .goto 10, 3), (49, .aload_n 0, 1), (50, .getfield 90, 3), (53, .iload 4, 2), (55, .iaload, 1), (56, .istore 5, 2), (58, .aload_n 0, 1), (59, .getfield 87, 3), (62, .bipush 6, 2), (64, .iload_n 1, 1), (65, .imul, 1), (66, .iload_n 3, 1), (67, .iadd, 1), (68, .iaload, 1), (69, .istore 6, 2), (71, .aload_n 0, 1), (72, .iload_n 1, 1), (73, .aload_n 0, 1), (74, .getfield 123, 3), (77, .iload_n 3, 1), (78, .iaload, 1), (79, .aload_n 0, 1), (80, .iload_n 2, 1), (81, .invokevirtual 368, 3), (84, .iload 5, 2), (86, .iload 6, 2), (88, .iload_n 2, 1), (89, .iconst 0, 1), (90, .invokevirtual 371, 3), (93, .aload_n 0, 1), (94, .getfield 90, 3), (97, .iload 4, 2), (99, .aload_n 0, 1), (100, .iconst 0, 1), (101, .iconst 0, 1), (102, .sipush 9999, 3), (105, .aload_n 0, 1), (106, .getfield 123, 3), (109, .iload_n 3, 1), (110, .iaload, 1), (111, .aload_n 0, 1), (112, .iload_n 2, 1), (113, .invokevirtual 368, 3), (116, .imul, 1), (117, .bipush 100, 2), (119, .idiv, 1), (120, .iload 5, 2), (122, .aload_n 0, 1), (123, .getfield 13, 3), (126, .iconst 5, 1), (127, .iaload, 1), (128, .imul, 1), (129, .bipush 100, 2), (131, .idiv, 1), (132, .iadd, 1), (133, .iload 6, 2), (135, .iadd, 1), (136, .invokevirtual 375, 3), (139, .iastore, 1), (140, .iinc 3 1, 3), (143, .goto (-129), 3), (146, .iinc 2 1, 3), (149, .goto (-147), 3), (152, .iconst 0, 1), (153, .istore_n 2, 1), (154, .iload_n 2, 1), (155, .bipush 6, 2), (157, .if_icmp .ge 21, 3), (160, .aload_n 0, 1), (161, .getfield 87, 3), (164, .bipush 6, 2), (166, .iload_n 1, 1), (167, .imul, 1), (168, .iload_n 2, 1), (169, .iadd, 1), (170, .iconst 0, 1), (171, .iastore, 1), (172, .iinc 2 1, 3), (175, .goto (-21), 3), (178, .return_, 1)])
set_option maxRecDepth 100000 in
theorem eX10_drifts : zdec mX10_drifts := by unfold zdec; decide +kernel
theorem fX10_drifts : zMF mX10_drifts 1 := ⟨ztb_t (zt7 _ (List.mem_of_getElem? (i := 163) rfl)) rfl, ztb_t (zt1 _ (List.mem_of_getElem? (i := 14) rfl)) rfl, by decide +kernel, by decide⟩
def mX10_smells : zM := (yX10_smells, cX10_smells, 6, (some FieldType.int), [(0, .aload_n 0, 1), (1, .iload_n 1, 1), (2, .iload_n 2, 1), (3, .invokevirtual 386, 3), (6, .istore_n 3, 1), (7, .iconst 0, 1), (8, .istore 4, 2), (10, .iconst 0, 1), (11, .istore 5, 2), (13, .iload 5, 2), (15, .aload_n 0, 1), (16, .getfield 13, 3), (19, .iconst 0, 1), (20, .iaload, 1), (21, .if_icmp .ge 52, 3), (24, .iload 4, 2), (26, .aload_n 0, 1), (27, .getfield 90, 3), (30, .bipush 36, 2), (32, .iload_n 1, 1), (33, .imul, 1), (34, .bipush 6, 2), (36, .aload_n 0, 1), (37, .getfield 93, 3), (40, .iconst 5, 1), (41, .iload_n 1, 1), (42, .imul, 1), (43, .iload_n 2, 1), (44, .iadd, 1), (45, .iaload, 1), (46, .imul, 1), (47, .iadd, 1), (48, .iload 5, 2), (50, .iadd, 1), (51, .iaload, 1), (52, .iload_n 3, 1), (53, .if_icmp .lt 10, 3), (56, .iconst 1, 1), (57, .iload 5, 2), (59, .ishl, 1), (60, .goto 4, 3), (63, .iconst 0, 1), (64, .ior, 1), (65, .istore 4, 2), (67, .iinc 5 1, 3), (70, .goto (-57), 3), (73, .iload 4, 2), (75, .aload_n 0, 1), (76, .iload_n 1, 1), (77, .iload_n 2, 1), (78, .invokevirtual 389, 3), (81, .iconst (-1), 1), (82, .ixor, 1), (83, .iand, 1), (84, .ireturn, 1)])
set_option maxRecDepth 100000 in
theorem eX10_smells : zdec mX10_smells := by unfold zdec; decide +kernel
theorem fX10_smells : zMF mX10_smells 2 := ⟨ztb_t (zt7 _ (List.mem_of_getElem? (i := 167) rfl)) rfl, ztb_t (zt1 _ (List.mem_of_getElem? (i := 14) rfl)) rfl, by decide +kernel, by decide⟩
def mX10_thinks : zM := (yX10_thinks, cX10_thinks, 7, (some FieldType.int), [(0, .aload_n 0, 1), (1, .getfield 13, 3), (4, .iconst 1, 1), (5, .iaload, 1), (6, .istore_n 3, 1), (7, .aload_n 0, 1), (8, .getfield 102, 3), (11, .iconst 5, 1), (12, .iload_n 1, 1), (13, .imul, 1), (14, .iload_n 2, 1), (15, .iadd, 1), (16, .iaload, 1), (17, .iconst 1, 1), (18, .iadd, 1), (19, .iload_n 3, 1), (20, .irem, 1), (21, .istore 4, 2), (23, .iconst 0, 1), (24, .istore 5, 2), (26, .iload 5, 2), (28, .iload_n 3, 1), (29, .if_icmp .ge 42, 3), (32, .iload 4, 2), (34, .iload 5, 2), (36, .iadd, 1), (37, .iload_n 3, 1), (38, .irem, 1), (39, .istore 6, 2), (41, .aload_n 0, 1), (42, .iload_n 1, 1), (43, .iload_n 2, 1), (44, .iload 6, 2), (46, .invokevirtual 397, 3), (49, .aload_n 0, 1), (50, .getfield 99, 3), (53, .iconst 5, 1), (54, .iload_n 1, 1), (55, .imul, 1), (56, .iload_n 2, 1), (57, .iadd, 1), (58, .iaload, 1), (59, .if_icmp .ne 6, 3), (62, .iload 6, 2), (64, .ireturn, 1), (65, .iinc 5 1, 3), (68, .goto (-42), 3), (71, .iload 4, 2), (73, .ireturn, 1)])
set_option maxRecDepth 100000 in
theorem eX10_thinks : zdec mX10_thinks := by unfold zdec; decide +kernel
theorem fX10_thinks : zMF mX10_thinks 2 := ⟨ztb_t (zt7 _ (List.mem_of_getElem? (i := 171) rfl)) rfl, ztb_t (zt1 _ (List.mem_of_getElem? (i := 14) rfl)) rfl, by decide +kernel, by decide⟩
def mX10_keepsHouse : zM := (yX10_keepsHouse, cX10_keepsHouse, 6, none, [(0, .aload_n 0, 1), (1, .getfield 69, 3), (4, .iload_n 1, 1), (5, .iaload, 1), (6, .aload_n 0, 1), (7, .getfield 13, 3), (10, .iconst 1, 1), (11, .iaload, 1), (12, .irem, 1), (13, .istore_n 2, 1), (14, .iconst 0, 1), (15, .istore_n 3, 1), (16, .iconst 0, 1), (17, .istore 4, 2), (19, .iload 4, 2), (21, .bipush 8, 2), (23, .if_icmp .ge 17, 3), (26, .aload_n 0, 1), (27, .getfield 120, 3), (30, .iload 4, 2), (32, .iconst 0, 1), (33, .iastore, 1), (34, .iinc 4 1, 3), (37, .goto (-18), 3), (40, .iconst 0, 1), (41, .istore 4, 2), (43, .iload 4, 2), (45, .aload_n 0, 1), (46, .getfield 13, 3), (49, .iconst 4, 1), (50, .iaload, 1), (51, .if_icmp .ge 52, 3), (54, .aload_n 0, 1), (55, .getfield 349, 3), (58, .iconst 3, 1), (59, .if_icmp .ne 15, 3), (62, .iload 4, 2), (64, .aload_n 0, 1), (65, .getfield 105, 3), (68, .if_icmp .ne 6, 3), (71, .goto 26, 3), (74, .aload_n 0, 1), (75, .getfield 120, 3), (78, .aload_n 0, 1), (79, .getfield 102, 3), (82, .iconst 5, 1), (83, .iload_n 1, 1), (84, .imul, 1), (85, .iload 4, 2), (87, .iadd, 1), (88, .iaload, 1), (89, .dup2, 1), (90, .iaload, 1), (91, .iconst 1, 1), (92, .iadd, 1), (93, .iastore, 1), (94, .iinc 3 1, 3), (97, .iinc 4 1, 3), (100, .goto (-57), 3), (103, .iconst 0, 1), (104, .istore 4, 2), (106, .iconst 1, 1), (107, .istore 5, 2), (109, .iload 5, 2), (111, .aload_n 0, 1), (112, .getfield 13, 3), (115, .iconst 1, 1), (116, .iaload, 1), (117, .if_icmp .ge 30, 3), (120, .aload_n 0, 1), (121, .getfield 120, 3), (124, .iload 5, 2), (126, .iaload, 1), (127, .aload_n 0, 1), (128, .getfield 120, 3), (131, .iload 4, 2), (133, .iaload, 1), (134, .if_icmp .le 7, 3), (137, .iload 5, 2), (139, .istore 4, 2), (141, .iinc 5 1, 3), (144, .goto (-35), 3), (147, .aload_n 0, 1), (148, .getfield 72, 3), (151, .iload_n 1, 1), (152, .iload_n 3, 1), (153, .ifCond .ne 7, 3), (156, .iload_n 2, 1), (157, .goto 5, 3), (160, .iload 4, 2), (162, .iastore, 1), (163, .aload_n 0, 1), (164, .getfield 75, 3), (167, .iload_n 1, 1), (168, .dup2, 1), (169, .iaload, 1), (170, .aload_n 0, 1), (171, .getfield 72, 3), (174, .iload_n 1, 1), (175, .iaload, 1), (176, .iload_n 2, 1), (177, .if_icmp .ne 7, 3), (180, .iconst 1, 1), (181, .goto 4, 3), (184, .iconst 0, 1), (185, .iadd, 1), (186, .iastore, 1), (187, .aload_n 0, 1), (188, .getfield 78, 3), (191, .iload_n 1, 1), (192, .dup2, 1), (193, .iaload, 1), (194, .aload_n 0, 1), (195, .getfield 25, 3), (198, .aload_n 0, 1), (199, .getfield 72, 3), (202, .iload_n 1, 1), (203, .iaload, 1), (204, .iaload, 1), (205, .aload_n 0, 1), (206, .getfield 25, 3), (209, .iload_n 2, 1), (210, .iaload, 1), (211, .if_icmp .eq 7, 3), (214, .iconst 1, 1), (215, .goto 4, 3), (218, .iconst 0, 1), (219, .iadd, 1), (220, .iastore, 1), (221, .return_, 1)])
set_option maxRecDepth 100000 in
theorem eX10_keepsHouse : zdec mX10_keepsHouse := by unfold zdec; decide +kernel
theorem fX10_keepsHouse : zMF mX10_keepsHouse 1 := ⟨ztb_t (zt7 _ (List.mem_of_getElem? (i := 175) rfl)) rfl, ztb_t (zt1 _ (List.mem_of_getElem? (i := 14) rfl)) rfl, by decide +kernel, by decide⟩
def mX10_passes : zM := (yX10_passes, cX10_passes, 3, none, [(0, .aload_n 0, 1), (1, .iload_n 1, 1), (2, .invokevirtual 400, 3), (5, .aload_n 0, 1), (6, .iload_n 1, 1), (7, .invokevirtual 403, 3), (10, .iconst 0, 1), (11, .istore_n 2, 1), (12, .iload_n 2, 1), (13, .aload_n 0, 1), (14, .getfield 13, 3), (17, .iconst 4, 1), (18, .iaload, 1), (19, .if_icmp .ge 50, 3), (22, .aload_n 0, 1), (23, .getfield 99, 3), (26, .iconst 5, 1), (27, .iload_n 1, 1), (28, .imul, 1), (29, .iload_n 2, 1), (30, .iadd, 1), (31, .aload_n 0, 1), (32, .iload_n 1, 1), (33, .iload_n 2, 1), (34, .invokevirtual 406, 3), (37, .iastore, 1), (38, .aload_n 0, 1), (39, .getfield 13, 3), (42, .iconst 1, 1), (43, .iaload, 1), (44, .ifCond .le 19, 3), (47, .aload_n 0, 1), (48, .getfield 102, 3), (51, .iconst 5, 1), (52, .iload_n 1, 1), (53, .imul, 1), (54, .iload_n 2, 1), (55, .iadd, 1), (56, .aload_n 0, 1), (57, .iload_n 1, 1), (58, .iload_n 2, 1), (59, .invokevirtual 409, 3), (62, .iastore, 1), (63, .iinc 2 1, 3), (66, .goto (-54), 3), (69, .aload_n 0, 1), (70, .getfield 13, 3), (73, .iconst 1, 1), (74, .iaload, 1), (75, .ifCond .le 8, 3), (78, .aload_n 0, 1), (79, .iload_n 1, 1), (80, .invokevirtual 412, 3), (83, .aload_n 0, 1), (84, .getfield 69, 3), (87, .iload_n 1, 1), (88, .dup2, 1), (89, .iaload, 1), (90, .iconst 1, 1), (91, .iadd, 1), (92, .iastore, 1), (93, .return_, 1)])
set_option maxRecDepth 100000 in
theorem eX10_passes : zdec mX10_passes := by unfold zdec; decide +kernel
theorem fX10_passes : zMF mX10_passes 1 := ⟨ztb_t (zt7 _ (List.mem_of_getElem? (i := 154) rfl)) rfl, ztb_t (zt1 _ (List.mem_of_getElem? (i := 14) rfl)) rfl, by decide +kernel, by decide⟩
def mX10_monk : zM := (yX10_monk, cX10_monk, 3, (some FieldType.int), [(0, .aload_n 0, 1), (1, .aload_n 0, 1), (2, .iload_n 1, 1), (3, .invokevirtual 415, 3), (6, .ifCond .ne 7, 3), (9, .iconst 1, 1), (10, .goto 17, 3), (13, .iload_n 2, 1), (14, .ifCond .lt 8, 3), (17, .iload_n 2, 1), (18, .iconst 4, 1), (19, .if_icmp .le 7, 3), (22, .iconst 2, 1), (23, .goto 4, 3), (26, .iconst 0, 1), (27, .putfield 160, 3), (30, .aload_n 0, 1), (31, .getfield 160, 3), (34, .ifCond .eq 5, 3), (37, .iconst 0, 1), (38, .ireturn, 1), (39, .iload_n 2, 1), (40, .tableswitch 60 0 3 #[32, 39, 46, 53], 32), (72, .aload_n 0, 1), (73, .getfield 93, 3), (76, .iload_n 1, 1), (77, .iaload, 1), (78, .ireturn, 1), (79, .aload_n 0, 1), (80, .getfield 43, 3), (83, .iload_n 1, 1), (84, .iaload, 1), (85, .ireturn, 1), (86, .aload_n 0, 1), (87, .getfield 96, 3), (90, .iload_n 1, 1), (91, .iaload, 1), (92, .ireturn, 1), (93, .aload_n 0, 1), (94, .getfield 99, 3), (97, .iload_n 1, 1), (98, .iaload, 1), (99, .ireturn, 1), (100, .aload_n 0, 1), (101, .getfield 102, 3), (104, .iload_n 1, 1), (105, .iaload, 1), (106, .ireturn, 1)])
set_option maxRecDepth 100000 in
theorem eX10_monk : zdec mX10_monk := by unfold zdec; decide +kernel
theorem fX10_monk : zMF mX10_monk 2 := ⟨ztb_t (zt7 _ (List.mem_of_getElem? (i := 19) rfl)) rfl, ztb_t (zt1 _ (List.mem_of_getElem? (i := 14) rfl)) rfl, by decide +kernel, by decide⟩
def mX10_stuff : zM := (yX10_stuff, cX10_stuff, 3, (some FieldType.int), [(0, .aload_n 0, 1), (1, .iconst 0, 1), (2, .putfield 160, 3), (5, .aload_n 0, 1), (6, .iload_n 1, 1), (7, .invokevirtual 418, 3), (10, .ifCond .ne 5, 3), (13, .iconst (-1), 1), (14, .ireturn, 1), (15, .iload_n 2, 1), (16, .ifCond .ne 12, 3), (19, .aload_n 0, 1), (20, .getfield 84, 3), (23, .iload_n 1, 1), (24, .iaload, 1), (25, .goto 32, 3), (28, .iload_n 2, 1), (29, .iconst 1, 1), (30, .if_icmp .ne 12, 3), (33, .aload_n 0, 1), (34, .iconst 0, 1), (35, .iload_n 1, 1), (36, .invokevirtual 421, 3), (39, .goto 18, 3), (42, .iload_n 2, 1), (43, .iconst 2, 1), (44, .if_icmp .ne 12, 3), (47, .aload_n 0, 1), (48, .getfield 87, 3), (51, .iload_n 1, 1), (52, .iaload, 1), (53, .goto 4, 3), (56, .iconst (-1), 1), (57, .ireturn, 1)])
set_option maxRecDepth 100000 in
theorem eX10_stuff : zdec mX10_stuff := by unfold zdec; decide +kernel
theorem fX10_stuff : zMF mX10_stuff 2 := ⟨ztb_t (zt7 _ (List.mem_of_getElem? (i := 27) rfl)) rfl, ztb_t (zt1 _ (List.mem_of_getElem? (i := 14) rfl)) rfl, by decide +kernel, by decide⟩
def mX10_mix : zM := (yX10_mix, cX10_mix, 3, (some FieldType.int), [(0, .aload_n 0, 1), (1, .iconst 0, 1), (2, .putfield 160, 3), (5, .aload_n 0, 1), (6, .iload_n 1, 1), (7, .invokevirtual 424, 3), (10, .ifCond .eq 25, 3), (13, .aload_n 0, 1), (14, .iload_n 2, 1), (15, .invokevirtual 418, 3), (18, .ifCond .eq 17, 3), (21, .aload_n 0, 1), (22, .getfield 28, 3), (25, .bipush 6, 2), (27, .iload_n 1, 1), (28, .imul, 1), (29, .iload_n 2, 1), (30, .iadd, 1), (31, .iaload, 1), (32, .goto 4, 3), (35, .iconst (-1), 1), (36, .ireturn, 1)])
set_option maxRecDepth 100000 in
theorem eX10_mix : zdec mX10_mix := by unfold zdec; decide +kernel
theorem fX10_mix : zMF mX10_mix 2 := ⟨ztb_t (zt7 _ (List.mem_of_getElem? (i := 69) rfl)) rfl, ztb_t (zt1 _ (List.mem_of_getElem? (i := 14) rfl)) rfl, by decide +kernel, by decide⟩
def mX10_feast : zM := (yX10_feast, cX10_feast, 2, (some FieldType.int), [(0, .aload_n 0, 1), (1, .iconst 0, 1), (2, .putfield 160, 3), (5, .aload_n 0, 1), (6, .iload_n 1, 1), (7, .invokevirtual 424, 3), (10, .ifCond .eq 12, 3), (13, .aload_n 0, 1), (14, .getfield 25, 3), (17, .iload_n 1, 1), (18, .iaload, 1), (19, .goto 4, 3), (22, .iconst (-1), 1), (23, .ireturn, 1)])
set_option maxRecDepth 100000 in
theorem eX10_feast : zdec mX10_feast := by unfold zdec; decide +kernel
theorem fX10_feast : zMF mX10_feast 1 := ⟨ztb_t (zt7 _ (List.mem_of_getElem? (i := 77) rfl)) rfl, ztb_t (zt1 _ (List.mem_of_getElem? (i := 14) rfl)) rfl, by decide +kernel, by decide⟩
def mX10_air : zM := (yX10_air, cX10_air, 3, (some FieldType.int), [(0, .aload_n 0, 1), (1, .iconst 0, 1), (2, .putfield 160, 3), (5, .aload_n 0, 1), (6, .iload_n 1, 1), (7, .invokevirtual 427, 3), (10, .ifCond .eq 25, 3), (13, .aload_n 0, 1), (14, .iload_n 2, 1), (15, .invokevirtual 418, 3), (18, .ifCond .eq 17, 3), (21, .aload_n 0, 1), (22, .getfield 90, 3), (25, .bipush 6, 2), (27, .iload_n 1, 1), (28, .imul, 1), (29, .iload_n 2, 1), (30, .iadd, 1), (31, .iaload, 1), (32, .goto 4, 3), (35, .iconst (-1), 1), (36, .ireturn, 1)])
set_option maxRecDepth 100000 in
theorem eX10_air : zdec mX10_air := by unfold zdec; decide +kernel
theorem fX10_air : zMF mX10_air 2 := ⟨ztb_t (zt7 _ (List.mem_of_getElem? (i := 81) rfl)) rfl, ztb_t (zt1 _ (List.mem_of_getElem? (i := 14) rfl)) rfl, by decide +kernel, by decide⟩
def mX10_mark : zM := (yX10_mark, cX10_mark, 3, (some FieldType.int), [(0, .aload_n 0, 1), (1, .iconst 0, 1), (2, .putfield 160, 3), (5, .aload_n 0, 1), (6, .iload_n 1, 1), (7, .invokevirtual 415, 3), (10, .ifCond .eq 21, 3), (13, .aload_n 0, 1), (14, .iload_n 2, 1), (15, .invokevirtual 424, 3), (18, .ifCond .eq 13, 3), (21, .aload_n 0, 1), (22, .iconst 0, 1), (23, .iload_n 1, 1), (24, .iload_n 2, 1), (25, .invokevirtual 397, 3), (28, .goto 4, 3), (31, .iconst (-1), 1), (32, .ireturn, 1)])
set_option maxRecDepth 100000 in
theorem eX10_mark : zdec mX10_mark := by unfold zdec; decide +kernel
theorem fX10_mark : zMF mX10_mark 2 := ⟨ztb_t (zt7 _ (List.mem_of_getElem? (i := 89) rfl)) rfl, ztb_t (zt1 _ (List.mem_of_getElem? (i := 14) rfl)) rfl, by decide +kernel, by decide⟩
def mX10_law : zM := (yX10_law, cX10_law, 4, (some FieldType.long), [(0, .aload_n 0, 1), (1, .iconst 0, 1), (2, .putfield 160, 3), (5, .iload_n 1, 1), (6, .ifCond .lt 16, 3), (9, .iload_n 1, 1), (10, .iconst 2, 1), (11, .if_icmp .gt 11, 3), (14, .aload_n 0, 1), (15, .iload_n 1, 1), (16, .invokevirtual 355, 3), (19, .ifCond .ne 7, 3), (22, .ldc2_w 432, 3), (25, .lreturn, 1), (26, .iload_n 1, 1), (27, .ifCond .ne 11, 3), (30, .aload_n 0, 1), (31, .iload_n 2, 1), (32, .invokevirtual 427, 3), (35, .ifCond .eq 29, 3), (38, .iload_n 1, 1), (39, .iconst 1, 1), (40, .if_icmp .ne 11, 3), (43, .aload_n 0, 1), (44, .iload_n 2, 1), (45, .invokevirtual 415, 3), (48, .ifCond .eq 16, 3), (51, .iload_n 1, 1), (52, .iconst 1, 1), (53, .if_icmp .eq 15, 3), (56, .aload_n 0, 1), (57, .iload_n 3, 1), (58, .invokevirtual 418, 3), (61, .ifCond .ne 7, 3), (64, .ldc2_w 432, 3), (67, .lreturn, 1), (68, .iload_n 1, 1), (69, .ifCond .ne 36, 3), (72, .aload_n 0, 1), (73, .iconst 0, 1), (74, .iconst 0, 1), (75, .aload_n 0, 1), (76, .iload_n 2, 1), (77, .invokevirtual 368, 3), (80, .aload_n 0, 1), (81, .getfield 90, 3), (84, .bipush 6, 2), (86, .iload_n 2, 1), (87, .imul, 1), (88, .iload_n 3, 1), (89, .iadd, 1), (90, .iaload, 1), (91, .aload_n 0, 1), (92, .getfield 87, 3), (95, .iload_n 3, 1), (96, .iaload, 1), (97, .iload_n 2, 1), (98, .iconst 0, 1), (99, .invokevirtual 371, 3), (102, .goto 57, 3), (105, .iload_n 1, 1), (106, .iconst 1, 1), (107, .if_icmp .ne 36, 3), (110, .aload_n 0, 1), (111, .iconst 0, 1), (112, .iconst 0, 1), (113, .aload_n 0, 1), (114, .aload_n 0, 1), (115, .getfield 93, 3), (118, .iload_n 2, 1), (119, .iaload, 1), (120, .invokevirtual 368, 3), (123, .iconst 0, 1), (124, .iconst 0, 1), (125, .aload_n 0, 1), (126, .getfield 93, 3), (129, .iload_n 2, 1), (130, .iaload, 1), (131, .aload_n 0, 1), (132, .getfield 43, 3), (135, .iload_n 2, 1), (136, .iaload, 1), (137, .invokevirtual 371, 3), (140, .goto 19, 3), (143, .aload_n 0, 1), (144, .iconst 0, 1), (145, .aload_n 0, 1), (146, .getfield 84, 3), (149, .iload_n 3, 1), (150, .iaload, 1), (151, .iconst 0, 1), (152, .iconst 0, 1), (153, .iconst 0, 1), (154, .iconst 0, 1), (155, .iconst 0, 1), (156, .invokevirtual 371, 3), (159, .aload_n 0, 1), (160, .iload_n 1, 1), (161, .invokevirtual 358, 3), (164, .ifCond .eq 12, 3), (167, .aload_n 0, 1), (168, .getfield 66, 3), (171, .iconst 0, 1), (172, .laload, 1), (173, .goto 6, 3), (176, .ldc2_w 432, 3), (179, .lreturn, 1)])
set_option maxRecDepth 100000 in
theorem eX10_law : zdec mX10_law := by unfold zdec; decide +kernel
theorem fX10_law : zMF mX10_law 3 := ⟨ztb_t (zt7 _ (List.mem_of_getElem? (i := 121) rfl)) rfl, ztb_t (zt1 _ (List.mem_of_getElem? (i := 14) rfl)) rfl, by decide +kernel, by decide⟩
def mX10_keepNow : zM := (yX10_keepNow, cX10_keepNow, 2, none, [(0, .aload_n 0, 1), (1, .getfield 323, 3), (4, .bipush 20, 2), (6, .if_icmp .ne 39, 3), (9, .iconst 1, 1), (10, .istore_n 1, 1), (11, .iload_n 1, 1), (12, .bipush 20, 2), (14, .if_icmp .ge 21, 3), (17, .aload_n 0, 1), (18, .iconst 3, 1), (19, .iload_n 1, 1), (20, .iadd, 1), (21, .iconst 1, 1), (22, .isub, 1), (23, .iconst 3, 1), (24, .iload_n 1, 1), (25, .iadd, 1), (26, .invokevirtual 434, 3), (29, .iinc 1 1, 3), (32, .goto (-21), 3), (35, .aload_n 0, 1), (36, .dup, 1), (37, .getfield 323, 3), (40, .iconst 1, 1), (41, .isub, 1), (42, .putfield 323, 3), (45, .aload_n 0, 1), (46, .iconst 3, 1), (47, .aload_n 0, 1), (48, .getfield 323, 3), (51, .iadd, 1), (52, .iconst 0, 1), (53, .invokevirtual 434, 3), (56, .aload_n 0, 1), (57, .dup, 1), (58, .getfield 323, 3), (61, .iconst 1, 1), (62, .iadd, 1), (63, .putfield 323, 3), (66, .return_, 1)])
set_option maxRecDepth 100000 in
theorem eX10_keepNow : zdec mX10_keepNow := by unfold zdec; decide +kernel
theorem fX10_keepNow : zMF mX10_keepNow 0 := ⟨ztb_t (zt7 _ (List.mem_of_getElem? (i := 130) rfl)) rfl, ztb_t (zt1 _ (List.mem_of_getElem? (i := 14) rfl)) rfl, by decide +kernel, by decide⟩
def mX10_cold : zM := (yX10_cold, cX10_cold, 4, (some FieldType.boolean), [(0, .aload_n 0, 1), (1, .iconst 0, 1), (2, .putfield 160, 3), (5, .aload_n 0, 1), (6, .iload_n 1, 1), (7, .invokevirtual 415, 3), (10, .ifCond .eq 34, 3), (13, .aload_n 0, 1), (14, .iload_n 2, 1), (15, .invokevirtual 418, 3), (18, .ifCond .eq 26, 3), (21, .aload_n 0, 1), (22, .getfield 96, 3), (25, .iload_n 1, 1), (26, .iaload, 1), (27, .iload_n 2, 1), (28, .ishr, 1), (29, .iconst 1, 1), (30, .iand, 1), (31, .iconst 1, 1), (32, .if_icmp .ne 7, 3), (35, .iconst 1, 1), (36, .goto 4, 3), (39, .iconst 0, 1), (40, .iload_n 3, 1), (41, .if_icmp .ne 5, 3), (44, .iconst 0, 1), (45, .ireturn, 1), (46, .aload_n 0, 1), (47, .invokevirtual 437, 3), (50, .aload_n 0, 1), (51, .getfield 96, 3), (54, .iload_n 1, 1), (55, .dup2, 1), (56, .iaload, 1), (57, .iconst 1, 1), (58, .iload_n 2, 1), (59, .ishl, 1), (60, .ixor, 1), (61, .iastore, 1), (62, .iconst 1, 1), (63, .ireturn, 1)])
set_option maxRecDepth 100000 in
theorem eX10_cold : zdec mX10_cold := by unfold zdec; decide +kernel
theorem fX10_cold : zMF mX10_cold 3 := ⟨ztb_t (zt7 _ (List.mem_of_getElem? (i := 126) rfl)) rfl, ztb_t (zt1 _ (List.mem_of_getElem? (i := 14) rfl)) rfl, by decide +kernel, by decide⟩
def mX10_wind : zM := (yX10_wind, cX10_wind, 3, (some FieldType.boolean), [(0, .aload_n 0, 1), (1, .iconst 0, 1), (2, .putfield 160, 3), (5, .aload_n 0, 1), (6, .iload_n 1, 1), (7, .invokevirtual 418, 3), (10, .ifCond .eq 23, 3), (13, .iload_n 2, 1), (14, .ifCond .lt 19, 3), (17, .iload_n 2, 1), (18, .bipush 99, 2), (20, .if_icmp .gt 13, 3), (23, .aload_n 0, 1), (24, .getfield 87, 3), (27, .iload_n 1, 1), (28, .iaload, 1), (29, .iload_n 2, 1), (30, .if_icmp .ne 5, 3), (33, .iconst 0, 1), (34, .ireturn, 1), (35, .aload_n 0, 1), (36, .invokevirtual 437, 3), (39, .aload_n 0, 1), (40, .getfield 87, 3), (43, .iload_n 1, 1), (44, .iload_n 2, 1), (45, .iastore, 1), (46, .iconst 1, 1), (47, .ireturn, 1)])
set_option maxRecDepth 100000 in
theorem eX10_wind : zdec mX10_wind := by unfold zdec; decide +kernel
theorem fX10_wind : zMF mX10_wind 2 := ⟨ztb_t (zt7 _ (List.mem_of_getElem? (i := 138) rfl)) rfl, ztb_t (zt1 _ (List.mem_of_getElem? (i := 14) rfl)) rfl, by decide +kernel, by decide⟩
def mX10_buy : zM := (yX10_buy, cX10_buy, 3, (some FieldType.int), [(0, .aload_n 0, 1), (1, .iconst 0, 1), (2, .putfield 160, 3), (5, .aload_n 0, 1), (6, .iload_n 1, 1), (7, .invokevirtual 418, 3), (10, .ifCond .eq 29, 3), (13, .iload_n 2, 1), (14, .iconst 1, 1), (15, .if_icmp .lt 24, 3), (18, .iload_n 2, 1), (19, .sipush 999, 3), (22, .if_icmp .gt 17, 3), (25, .aload_n 0, 1), (26, .getfield 84, 3), (29, .iload_n 1, 1), (30, .iaload, 1), (31, .iload_n 2, 1), (32, .iadd, 1), (33, .sipush 9999, 3), (36, .if_icmp .le 5, 3), (39, .iconst (-1), 1), (40, .ireturn, 1), (41, .aload_n 0, 1), (42, .invokevirtual 437, 3), (45, .aload_n 0, 1), (46, .getfield 84, 3), (49, .iload_n 1, 1), (50, .dup2, 1), (51, .iaload, 1), (52, .iload_n 2, 1), (53, .iadd, 1), (54, .iastore, 1), (55, .aload_n 0, 1), (56, .getfield 84, 3), (59, .iload_n 1, 1), (60, .iaload, 1), (61, .ireturn, 1)])
set_option maxRecDepth 100000 in
theorem eX10_buy : zdec mX10_buy := by unfold zdec; decide +kernel
theorem fX10_buy : zMF mX10_buy 2 := ⟨ztb_t (zt7 _ (List.mem_of_getElem? (i := 142) rfl)) rfl, ztb_t (zt1 _ (List.mem_of_getElem? (i := 14) rfl)) rfl, by decide +kernel, by decide⟩
def mX10_goes : zM := (yX10_goes, cX10_goes, 3, (some FieldType.boolean), [(0, .aload_n 0, 1), (1, .iconst 0, 1), (2, .putfield 160, 3), (5, .aload_n 0, 1), (6, .iload_n 1, 1), (7, .invokevirtual 415, 3), (10, .ifCond .eq 21, 3), (13, .aload_n 0, 1), (14, .iload_n 2, 1), (15, .invokevirtual 427, 3), (18, .ifCond .eq 13, 3), (21, .aload_n 0, 1), (22, .getfield 93, 3), (25, .iload_n 1, 1), (26, .iaload, 1), (27, .iload_n 2, 1), (28, .if_icmp .ne 5, 3), (31, .iconst 0, 1), (32, .ireturn, 1), (33, .aload_n 0, 1), (34, .invokevirtual 437, 3), (37, .aload_n 0, 1), (38, .getfield 93, 3), (41, .iload_n 1, 1), (42, .iload_n 2, 1), (43, .iastore, 1), (44, .iconst 1, 1), (45, .ireturn, 1)])
set_option maxRecDepth 100000 in
theorem eX10_goes : zdec mX10_goes := by unfold zdec; decide +kernel
theorem fX10_goes : zMF mX10_goes 2 := ⟨ztb_t (zt7 _ (List.mem_of_getElem? (i := 146) rfl)) rfl, ztb_t (zt1 _ (List.mem_of_getElem? (i := 14) rfl)) rfl, by decide +kernel, by decide⟩
def mX10_go : zM := (yX10_go, cX10_go, 3, (some FieldType.int), [(0, .aload_n 0, 1), (1, .iconst 0, 1), (2, .putfield 160, 3), (5, .iload_n 1, 1), (6, .ifCond .lt 23, 3), (9, .iload_n 1, 1), (10, .bipush 99, 2), (12, .if_icmp .gt 17, 3), (15, .aload_n 0, 1), (16, .getfield 69, 3), (19, .iconst 0, 1), (20, .iaload, 1), (21, .iload_n 1, 1), (22, .iadd, 1), (23, .sipush 9999, 3), (26, .if_icmp .le 5, 3), (29, .iconst (-1), 1), (30, .ireturn, 1), (31, .iload_n 1, 1), (32, .ifCond .le 8, 3), (35, .aload_n 0, 1), (36, .iconst 0, 1), (37, .putfield 323, 3), (40, .iconst 0, 1), (41, .istore_n 2, 1), (42, .iload_n 2, 1), (43, .iload_n 1, 1), (44, .if_icmp .ge 14, 3), (47, .aload_n 0, 1), (48, .iconst 0, 1), (49, .invokevirtual 440, 3), (52, .iinc 2 1, 3), (55, .goto (-13), 3), (58, .aload_n 0, 1), (59, .getfield 69, 3), (62, .iconst 0, 1), (63, .iaload, 1), (64, .ireturn, 1)])
set_option maxRecDepth 100000 in
theorem eX10_go : zdec mX10_go := by unfold zdec; decide +kernel
theorem fX10_go : zMF mX10_go 1 := ⟨ztb_t (zt7 _ (List.mem_of_getElem? (i := 150) rfl)) rfl, ztb_t (zt1 _ (List.mem_of_getElem? (i := 14) rfl)) rfl, by decide +kernel, by decide⟩
def mX10_layMarks : zM := (yX10_layMarks, cX10_layMarks, 3, none, [(0, .iconst 0, 1), (1, .istore_n 2, 1), (2, .iload_n 2, 1), (3, .aload_n 0, 1), (4, .getfield 13, 3), (7, .iconst 1, 1), (8, .iaload, 1), (9, .if_icmp .ge 22, 3), (12, .aload_n 0, 1), (13, .getfield 126, 3), (16, .iload_n 2, 1), (17, .aload_n 0, 1), (18, .iconst 0, 1), (19, .iload_n 1, 1), (20, .iload_n 2, 1), (21, .invokevirtual 397, 3), (24, .iastore, 1), (25, .iinc 2 1, 3), (28, .goto (-26), 3), (31, .return_, 1)])
set_option maxRecDepth 100000 in
theorem eX10_layMarks : zdec mX10_layMarks := by unfold zdec; decide +kernel
theorem fX10_layMarks : zMF mX10_layMarks 1 := ⟨ztb_t (zt7 _ (List.mem_of_getElem? (i := 187) rfl)) rfl, ztb_t (zt1 _ (List.mem_of_getElem? (i := 14) rfl)) rfl, by decide +kernel, by decide⟩
def mX10_pairOf : zM := (yX10_pairOf, cX10_pairOf, 6, (some FieldType.int), [(0, .aload_n 0, 1), (1, .iload_n 1, 1), (2, .invokevirtual 443, 3), (5, .iconst 0, 1), (6, .istore_n 3, 1), (7, .iconst 0, 1), (8, .istore 4, 2), (10, .iload 4, 2), (12, .aload_n 0, 1), (13, .getfield 13, 3), (16, .iconst 1, 1), (17, .iaload, 1), (18, .if_icmp .ge 69, 3), (21, .iload 4, 2), (23, .iconst 1, 1), (24, .iadd, 1), (25, .istore 5, 2), (27, .iload 5, 2), (29, .aload_n 0, 1), (30, .getfield 13, 3), (33, .iconst 1, 1), (34, .iaload, 1), (35, .if_icmp .ge 46, 3), (38, .aload_n 0, 1), (39, .getfield 126, 3), (42, .iload 4, 2), (44, .iaload, 1), (45, .aload_n 0, 1), (46, .getfield 126, 3), (49, .iload 5, 2), (51, .iaload, 1), (52, .if_icmp .eq 6, 3), (55, .goto 20, 3), (58, .iload_n 3, 1), (59, .iload_n 2, 1), (60, .if_icmp .ne 12, 3), (63, .bipush 10, 2), (65, .iload 4, 2), (67, .imul, 1), (68, .iload 5, 2), (70, .iadd, 1), (71, .ireturn, 1), (72, .iinc 3 1, 3), (75, .iinc 5 1, 3), (78, .goto (-51), 3), (81, .iinc 4 1, 3), (84, .goto (-74), 3), (87, .iload_n 2, 1), (88, .iconst (-1), 1), (89, .if_icmp .ne 7, 3), (92, .iload_n 3, 1), (93, .goto 5, 3), (96, .bipush (-2), 2), (98, .ireturn, 1)])
set_option maxRecDepth 100000 in
theorem eX10_pairOf : zdec mX10_pairOf := by unfold zdec; decide +kernel
theorem fX10_pairOf : zMF mX10_pairOf 2 := ⟨ztb_t (zt7 _ (List.mem_of_getElem? (i := 183) rfl)) rfl, ztb_t (zt1 _ (List.mem_of_getElem? (i := 14) rfl)) rfl, by decide +kernel, by decide⟩
def mX10_mixedUp : zM := (yX10_mixedUp, cX10_mixedUp, 2, (some FieldType.int), [(0, .aload_n 0, 1), (1, .iconst 0, 1), (2, .putfield 160, 3), (5, .aload_n 0, 1), (6, .iload_n 1, 1), (7, .invokevirtual 415, 3), (10, .ifCond .eq 12, 3), (13, .aload_n 0, 1), (14, .iload_n 1, 1), (15, .iconst (-1), 1), (16, .invokevirtual 446, 3), (19, .goto 4, 3), (22, .iconst (-1), 1), (23, .ireturn, 1)])
set_option maxRecDepth 100000 in
theorem eX10_mixedUp : zdec mX10_mixedUp := by unfold zdec; decide +kernel
theorem fX10_mixedUp : zMF mX10_mixedUp 1 := ⟨ztb_t (zt7 _ (List.mem_of_getElem? (i := 179) rfl)) rfl, ztb_t (zt1 _ (List.mem_of_getElem? (i := 14) rfl)) rfl, by decide +kernel, by decide⟩
def mX10_pair : zM := (yX10_pair, cX10_pair, 3, (some FieldType.int), [(0, .aload_n 0, 1), (1, .iconst 0, 1), (2, .putfield 160, 3), (5, .aload_n 0, 1), (6, .iload_n 1, 1), (7, .invokevirtual 415, 3), (10, .ifCond .eq 16, 3), (13, .iload_n 2, 1), (14, .ifCond .lt 12, 3), (17, .aload_n 0, 1), (18, .iload_n 1, 1), (19, .iload_n 2, 1), (20, .invokevirtual 446, 3), (23, .goto 4, 3), (26, .iconst (-1), 1), (27, .ireturn, 1)])
set_option maxRecDepth 100000 in
theorem eX10_pair : zdec mX10_pair := by unfold zdec; decide +kernel
theorem fX10_pair : zMF mX10_pair 2 := ⟨ztb_t (zt7 _ (List.mem_of_getElem? (i := 191) rfl)) rfl, ztb_t (zt1 _ (List.mem_of_getElem? (i := 14) rfl)) rfl, by decide +kernel, by decide⟩
def mX10_mending : zM := (yX10_mending, cX10_mending, 7, (some FieldType.int), [(0, .aload_n 0, 1), (1, .iconst 0, 1), (2, .putfield 160, 3), (5, .aload_n 0, 1), (6, .iload_n 1, 1), (7, .invokevirtual 415, 3), (10, .ifCond .eq 35, 3), (13, .aload_n 0, 1), (14, .iload_n 2, 1), (15, .invokevirtual 424, 3), (18, .ifCond .eq 27, 3), (21, .aload_n 0, 1), (22, .iload_n 3, 1), (23, .invokevirtual 424, 3), (26, .ifCond .eq 19, 3), (29, .iload_n 2, 1), (30, .iload_n 3, 1), (31, .if_icmp .eq 14, 3), (34, .iload 4, 2), (36, .ifCond .lt 9, 3), (39, .iload 4, 2), (41, .iconst 1, 1), (42, .if_icmp .le 5, 3), (45, .iconst (-1), 1), (46, .ireturn, 1), (47, .aload_n 0, 1), (48, .iconst 0, 1), (49, .iload_n 1, 1), (50, .iload_n 2, 1), (51, .invokevirtual 397, 3), (54, .aload_n 0, 1), (55, .iconst 0, 1), (56, .iload_n 1, 1), (57, .iload_n 3, 1), (58, .invokevirtual 397, 3), (61, .if_icmp .eq 6, 3), (64, .bipush (-3), 2), (66, .ireturn, 1), (67, .aload_n 0, 1), (68, .iload_n 2, 1), (69, .iload_n 3, 1), (70, .invokestatic 449, 3), (73, .putfield 114, 3), (76, .iconst (-1), 1), (77, .istore 5, 2), (79, .aload_n 0, 1), (80, .iconst 0, 1), (81, .putfield 352, 3), (84, .aload_n 0, 1), (85, .getfield 352, 3), (88, .bipush 99, 2), (90, .if_icmp .ge 70, 3), (93, .iload 5, 2), (95, .iconst (-1), 1), (96, .if_icmp .ne 64, 3), (99, .aload_n 0, 1), (100, .dup, 1), (101, .getfield 352, 3), (104, .iconst 1, 1), (105, .iadd, 1), (106, .putfield 352, 3), (109, .aload_n 0, 1), (110, .getfield 13, 3), (113, .iconst 0, 1), (114, .iaload, 1), (115, .iconst 1, 1), (116, .isub, 1), (117, .istore 6, 2), (119, .iload 6, 2), (121, .ifCond .lt 36, 3), (124, .aload_n 0, 1), (125, .iload 6, 2), (127, .putfield 117, 3), (130, .aload_n 0, 1), (131, .iconst 0, 1), (132, .iload_n 1, 1), (133, .iload_n 2, 1), (134, .invokevirtual 397, 3), (137, .aload_n 0, 1), (138, .iconst 0, 1), (139, .iload_n 1, 1), (140, .iload_n 3, 1), (141, .invokevirtual 397, 3), (144, .if_icmp .eq 7, 3), (147, .iload 6, 2), (149, .istore 5, 2), (151, .iinc 6 (-1), 3), (154, .goto (-35), 3), (157, .goto (-73), 3), (160, .aload_n 0, 1), (161, .getfield 352, 3), (164, .istore 6, 2), (166, .aload_n 0, 1), (167, .iconst (-1), 1), (168, .putfield 114, 3), (171, .aload_n 0, 1), (172, .iconst (-1), 1), (173, .putfield 117, 3), (176, .aload_n 0, 1), (177, .iconst 0, 1), (178, .putfield 352, 3), (181, .iload 5, 2), (183, .iconst (-1), 1), (184, .if_icmp .ne 8, 3), (187, .bipush (-2), 2), (189, .goto 15, 3), (192, .iload 4, 2), (194, .ifCond .ne 8, 3), (197, .iload 5, 2), (199, .goto 5, 3), (202, .iload 6, 2), (204, .ireturn, 1)])
set_option maxRecDepth 100000 in
theorem eX10_mending : zdec mX10_mending := by unfold zdec; decide +kernel
theorem fX10_mending : zMF mX10_mending 4 := ⟨ztb_t (zt7 _ (List.mem_of_getElem? (i := 195) rfl)) rfl, ztb_t (zt1 _ (List.mem_of_getElem? (i := 14) rfl)) rfl, by decide +kernel, by decide⟩
def mX10_placeTo : zM := (yX10_placeTo, cX10_placeTo, 11, (some FieldType.int), [(0, .aload_n 0, 1), (1, .iconst 0, 1), (2, .putfield 160, 3), (5, .aload_n 0, 1), (6, .iload_n 1, 1), (7, .invokevirtual 415, 3), (10, .ifCond .eq 12, 3), (13, .iload_n 2, 1), (14, .ifCond .lt 8, 3), (17, .iload_n 2, 1), (18, .iconst 1, 1), (19, .if_icmp .le 5, 3), (22, .iconst (-1), 1), (23, .ireturn, 1), (24, .iconst (-1), 1), (25, .istore_n 3, 1), (26, .iconst 0, 1), (27, .istore 4, 2), (29, .iconst 0, 1), (30, .istore 5, 2), (32, .iload 5, 2), (34, .aload_n 0, 1), (35, .getfield 13, 3), (38, .iconst 3, 1), (39, .iaload, 1), (40, .if_icmp .ge 141, 3), (43, .aload_n 0, 1), (44, .iconst 0, 1), (45, .iload_n 1, 1), (46, .iload 5, 2), (48, .invokevirtual 379, 3), (51, .istore 6, 2), (53, .iconst 0, 1), (54, .istore 7, 2), (56, .iconst 0, 1), (57, .istore 8, 2), (59, .iload 8, 2), (61, .aload_n 0, 1), (62, .getfield 13, 3), (65, .iconst 1, 1), (66, .iaload, 1), (67, .if_icmp .ge 86, 3), (70, .aload_n 0, 1), (71, .getfield 126, 3), (74, .iload 8, 2), (76, .aload_n 0, 1), (77, .iload 8, 2), (79, .iload 5, 2), (81, .iload 6, 2), (83, .aload_n 0, 1), (84, .getfield 96, 3), (87, .iload_n 1, 1), (88, .iaload, 1), (89, .invokevirtual 392, 3), (92, .iastore, 1), (93, .iconst 1, 1), (94, .istore 9, 2), (96, .iconst 0, 1), (97, .istore 10, 2), (99, .iload 10, 2), (101, .iload 8, 2), (103, .if_icmp .ge 29, 3), (106, .aload_n 0, 1), (107, .getfield 126, 3), (110, .iload 10, 2), (112, .iaload, 1), (113, .aload_n 0, 1), (114, .getfield 126, 3), (117, .iload 8, 2), (119, .iaload, 1), (120, .if_icmp .ne 6, 3), (123, .iconst 0, 1), (124, .istore 9, 2), (126, .iinc 10 1, 3), (129, .goto (-30), 3), (132, .iload 7, 2), (134, .iload 9, 2), (136, .ifCond .eq 7, 3), (139, .iconst 1, 1), (140, .goto 4, 3), (143, .iconst 0, 1), (144, .iadd, 1), (145, .istore 7, 2), (147, .iinc 8 1, 3), (150, .goto (-91), 3), (153, .iload_n 3, 1), (154, .iconst (-1), 1), (155, .if_icmp .eq 13, 3), (158, .iload 7, 2), (160, .iload 4, 2), (162, .if_icmp .gt 6, 3), (165, .goto 10, 3), (168, .iload 5, 2), (170, .istore_n 3, 1), (171, .iload 7, 2), (173, .istore 4, 2), (175, .iinc 5 1, 3), (178, .goto (-146), 3), (181, .iload_n 2, 1), (182, .ifCond .ne 7, 3), (185, .iload_n 3, 1), (186, .goto 5, 3), (189, .iload 4, 2), (191, .ireturn, 1)])
set_option maxRecDepth 100000 in
theorem eX10_placeTo : zdec mX10_placeTo := by unfold zdec; decide +kernel
theorem fX10_placeTo : zMF mX10_placeTo 2 := ⟨ztb_t (zt7 _ (List.mem_of_getElem? (i := 200) rfl)) rfl, ztb_t (zt1 _ (List.mem_of_getElem? (i := 14) rfl)) rfl, by decide +kernel, by decide⟩
def mX10_lasts : zM := (yX10_lasts, cX10_lasts, 4, (some FieldType.int), [(0, .aload_n 0, 1), (1, .iconst 0, 1), (2, .putfield 160, 3), (5, .iload_n 1, 1), (6, .ifCond .lt 8, 3), (9, .iload_n 1, 1), (10, .iconst 1, 1), (11, .if_icmp .le 5, 3), (14, .iconst (-1), 1), (15, .ireturn, 1), (16, .aload_n 0, 1), (17, .iconst 1, 1), (18, .iconst 0, 1), (19, .invokevirtual 434, 3), (22, .iconst 0, 1), (23, .istore_n 2, 1), (24, .iload_n 2, 1), (25, .sipush 200, 3), (28, .if_icmp .ge 137, 3), (31, .iconst 0, 1), (32, .istore_n 3, 1), (33, .iload_n 3, 1), (34, .aload_n 0, 1), (35, .getfield 13, 3), (38, .iconst 0, 1), (39, .iaload, 1), (40, .if_icmp .ge 60, 3), (43, .aload_n 0, 1), (44, .getfield 13, 3), (47, .iconst 1, 1), (48, .iaload, 1), (49, .ifCond .le 51, 3), (52, .aload_n 0, 1), (53, .aload_n 0, 1), (54, .getfield 69, 3), (57, .iconst 1, 1), (58, .iaload, 1), (59, .iload_n 2, 1), (60, .iadd, 1), (61, .aload_n 0, 1), (62, .getfield 13, 3), (65, .iconst 1, 1), (66, .iaload, 1), (67, .irem, 1), (68, .iload_n 3, 1), (69, .invokevirtual 383, 3), (72, .aload_n 0, 1), (73, .getfield 84, 3), (76, .bipush 6, 2), (78, .iload_n 3, 1), (79, .iadd, 1), (80, .iaload, 1), (81, .if_icmp .le 13, 3), (84, .iload_n 1, 1), (85, .ifCond .ne 7, 3), (88, .iload_n 2, 1), (89, .goto 4, 3), (92, .iload_n 3, 1), (93, .ireturn, 1), (94, .iinc 3 1, 3), (97, .goto (-64), 3), (100, .iconst 0, 1), (101, .istore_n 3, 1), (102, .iload_n 3, 1), (103, .aload_n 0, 1), (104, .getfield 13, 3), (107, .iconst 0, 1), (108, .iaload, 1), (109, .if_icmp .ge 50, 3), (112, .aload_n 0, 1), (113, .getfield 13, 3), (116, .iconst 1, 1), (117, .iaload, 1), (118, .ifCond .le 41, 3), (121, .aload_n 0, 1), (122, .getfield 84, 3), (125, .bipush 6, 2), (127, .iload_n 3, 1), (128, .iadd, 1), (129, .dup2, 1), (130, .iaload, 1), (131, .aload_n 0, 1), (132, .aload_n 0, 1), (133, .getfield 69, 3), (136, .iconst 1, 1), (137, .iaload, 1), (138, .iload_n 2, 1), (139, .iadd, 1), (140, .aload_n 0, 1), (141, .getfield 13, 3), (144, .iconst 1, 1), (145, .iaload, 1), (146, .irem, 1), (147, .iload_n 3, 1), (148, .invokevirtual 383, 3), (151, .isub, 1), (152, .iastore, 1), (153, .iinc 3 1, 3), (156, .goto (-54), 3), (159, .iinc 2 1, 3), (162, .goto (-138), 3), (165, .iload_n 1, 1), (166, .ifCond .ne 9, 3), (169, .sipush 200, 3), (172, .goto 5, 3), (175, .bipush (-2), 2), (177, .ireturn, 1)])
set_option maxRecDepth 100000 in
theorem eX10_lasts : zdec mX10_lasts := by unfold zdec; decide +kernel
theorem fX10_lasts : zMF mX10_lasts 1 := ⟨ztb_t (zt7 _ (List.mem_of_getElem? (i := 204) rfl)) rfl, ztb_t (zt1 _ (List.mem_of_getElem? (i := 14) rfl)) rfl, by decide +kernel, by decide⟩
def mX10_needs : zM := (yX10_needs, cX10_needs, 5, (some FieldType.int), [(0, .aload_n 0, 1), (1, .iconst 0, 1), (2, .putfield 160, 3), (5, .aload_n 0, 1), (6, .iload_n 1, 1), (7, .invokevirtual 418, 3), (10, .ifCond .eq 13, 3), (13, .iload_n 2, 1), (14, .ifCond .lt 9, 3), (17, .iload_n 2, 1), (18, .bipush 99, 2), (20, .if_icmp .le 5, 3), (23, .iconst (-1), 1), (24, .ireturn, 1), (25, .iconst 0, 1), (26, .istore_n 3, 1), (27, .iconst 0, 1), (28, .istore 4, 2), (30, .iload 4, 2), (32, .iload_n 2, 1), (33, .if_icmp .ge 42, 3), (36, .aload_n 0, 1), (37, .getfield 13, 3), (40, .iconst 1, 1), (41, .iaload, 1), (42, .ifCond .le 33, 3), (45, .iload_n 3, 1), (46, .aload_n 0, 1), (47, .aload_n 0, 1), (48, .getfield 69, 3), (51, .iconst 0, 1), (52, .iaload, 1), (53, .iload 4, 2), (55, .iadd, 1), (56, .aload_n 0, 1), (57, .getfield 13, 3), (60, .iconst 1, 1), (61, .iaload, 1), (62, .irem, 1), (63, .iload_n 1, 1), (64, .invokevirtual 383, 3), (67, .iadd, 1), (68, .istore_n 3, 1), (69, .iinc 4 1, 3), (72, .goto (-42), 3), (75, .iconst 0, 1), (76, .iload_n 3, 1), (77, .aload_n 0, 1), (78, .getfield 84, 3), (81, .iload_n 1, 1), (82, .iaload, 1), (83, .isub, 1), (84, .invokestatic 449, 3), (87, .ireturn, 1)])
set_option maxRecDepth 100000 in
theorem eX10_needs : zdec mX10_needs := by unfold zdec; decide +kernel
theorem fX10_needs : zMF mX10_needs 2 := ⟨ztb_t (zt7 _ (List.mem_of_getElem? (i := 208) rfl)) rfl, ztb_t (zt1 _ (List.mem_of_getElem? (i := 14) rfl)) rfl, by decide +kernel, by decide⟩
def mX10_dearest : zM := (yX10_dearest, cX10_dearest, 7, (some FieldType.int), [(0, .aload_n 0, 1), (1, .iconst 0, 1), (2, .putfield 160, 3), (5, .iload_n 1, 1), (6, .ifCond .lt 17, 3), (9, .iload_n 1, 1), (10, .iconst 1, 1), (11, .if_icmp .gt 12, 3), (14, .aload_n 0, 1), (15, .getfield 13, 3), (18, .iconst 1, 1), (19, .iaload, 1), (20, .ifCond .ne 5, 3), (23, .iconst (-1), 1), (24, .ireturn, 1), (25, .iconst (-1), 1), (26, .istore_n 2, 1), (27, .iconst 0, 1), (28, .istore_n 3, 1), (29, .iconst 0, 1), (30, .istore 4, 2), (32, .iload 4, 2), (34, .aload_n 0, 1), (35, .getfield 13, 3), (38, .iconst 1, 1), (39, .iaload, 1), (40, .if_icmp .ge 73, 3), (43, .iconst 0, 1), (44, .istore 5, 2), (46, .iconst 0, 1), (47, .istore 6, 2), (49, .iload 6, 2), (51, .aload_n 0, 1), (52, .getfield 13, 3), (55, .iconst 0, 1), (56, .iaload, 1), (57, .if_icmp .ge 30, 3), (60, .iload 5, 2), (62, .aload_n 0, 1), (63, .iload 4, 2), (65, .iload 6, 2), (67, .invokevirtual 383, 3), (70, .aload_n 0, 1), (71, .iconst 0, 1), (72, .iload 6, 2), (74, .invokevirtual 421, 3), (77, .imul, 1), (78, .iadd, 1), (79, .istore 5, 2), (81, .iinc 6 1, 3), (84, .goto (-35), 3), (87, .iload_n 2, 1), (88, .iconst (-1), 1), (89, .if_icmp .eq 12, 3), (92, .iload 5, 2), (94, .iload_n 3, 1), (95, .if_icmp .gt 6, 3), (98, .goto 9, 3), (101, .iload 4, 2), (103, .istore_n 2, 1), (104, .iload 5, 2), (106, .istore_n 3, 1), (107, .iinc 4 1, 3), (110, .goto (-78), 3), (113, .iload_n 1, 1), (114, .ifCond .ne 7, 3), (117, .iload_n 2, 1), (118, .goto 4, 3), (121, .iload_n 3, 1), (122, .ireturn, 1)])
set_option maxRecDepth 100000 in
theorem eX10_dearest : zdec mX10_dearest := by unfold zdec; decide +kernel
theorem fX10_dearest : zMF mX10_dearest 1 := ⟨ztb_t (zt7 _ (List.mem_of_getElem? (i := 212) rfl)) rfl, ztb_t (zt1 _ (List.mem_of_getElem? (i := 14) rfl)) rfl, by decide +kernel, by decide⟩
def mX10_inPlace : zM := (yX10_inPlace, cX10_inPlace, 5, (some FieldType.int), [(0, .aload_n 0, 1), (1, .iconst 0, 1), (2, .putfield 160, 3), (5, .aload_n 0, 1), (6, .iload_n 1, 1), (7, .invokevirtual 418, 3), (10, .ifCond .eq 16, 3), (13, .aload_n 0, 1), (14, .iload_n 2, 1), (15, .invokevirtual 418, 3), (18, .ifCond .eq 8, 3), (21, .iload_n 1, 1), (22, .iload_n 2, 1), (23, .if_icmp .ne 5, 3), (26, .iconst (-1), 1), (27, .ireturn, 1), (28, .aload_n 0, 1), (29, .iload_n 1, 1), (30, .putfield 108, 3), (33, .aload_n 0, 1), (34, .iload_n 2, 1), (35, .putfield 111, 3), (38, .iconst 0, 1), (39, .istore_n 3, 1), (40, .iconst 0, 1), (41, .istore 4, 2), (43, .iload 4, 2), (45, .aload_n 0, 1), (46, .getfield 13, 3), (49, .iconst 4, 1), (50, .iaload, 1), (51, .if_icmp .ge 27, 3), (54, .iload_n 3, 1), (55, .aload_n 0, 1), (56, .iload 4, 2), (58, .iconst (-1), 1), (59, .invokevirtual 446, 3), (62, .ifCond .ne 7, 3), (65, .iconst 1, 1), (66, .goto 4, 3), (69, .iconst 0, 1), (70, .iadd, 1), (71, .istore_n 3, 1), (72, .iinc 4 1, 3), (75, .goto (-32), 3), (78, .aload_n 0, 1), (79, .iconst (-1), 1), (80, .putfield 108, 3), (83, .aload_n 0, 1), (84, .iconst (-1), 1), (85, .putfield 111, 3), (88, .iload_n 3, 1), (89, .ireturn, 1)])
set_option maxRecDepth 100000 in
theorem eX10_inPlace : zdec mX10_inPlace := by unfold zdec; decide +kernel
theorem fX10_inPlace : zMF mX10_inPlace 2 := ⟨ztb_t (zt7 _ (List.mem_of_getElem? (i := 216) rfl)) rfl, ztb_t (zt1 _ (List.mem_of_getElem? (i := 14) rfl)) rfl, by decide +kernel, by decide⟩
def mX10_letter : zM := (yX10_letter, cX10_letter, 9, (some FieldType.int), [(0, .aload_n 0, 1), (1, .iconst 0, 1), (2, .putfield 160, 3), (5, .aload_n 0, 1), (6, .iload_n 1, 1), (7, .invokevirtual 424, 3), (10, .ifCond .eq 21, 3), (13, .aload_n 0, 1), (14, .iload_n 2, 1), (15, .invokevirtual 415, 3), (18, .ifCond .eq 13, 3), (21, .iload_n 3, 1), (22, .ifCond .lt 9, 3), (25, .iload_n 3, 1), (26, .bipush 10, 2), (28, .if_icmp .le 5, 3), (31, .iconst (-1), 1), (32, .ireturn, 1), (33, .aload_n 0, 1), (34, .iconst 0, 1), (35, .iload_n 2, 1), (36, .invokevirtual 386, 3), (39, .istore 4, 2), (41, .iconst 0, 1), (42, .istore 5, 2), (44, .iconst 0, 1), (45, .istore 6, 2), (47, .iload 6, 2), (49, .aload_n 0, 1), (50, .getfield 13, 3), (53, .iconst 0, 1), (54, .iaload, 1), (55, .if_icmp .ge 45, 3), (58, .iload 5, 2), (60, .aload_n 0, 1), (61, .iload_n 1, 1), (62, .iload 6, 2), (64, .invokevirtual 383, 3), (67, .bipush 100, 2), (69, .bipush 10, 2), (71, .iload_n 3, 1), (72, .imul, 1), (73, .isub, 1), (74, .imul, 1), (75, .bipush 100, 2), (77, .idiv, 1), (78, .iload 4, 2), (80, .if_icmp .lt 10, 3), (83, .iconst 1, 1), (84, .iload 6, 2), (86, .ishl, 1), (87, .goto 4, 3), (90, .iconst 0, 1), (91, .ior, 1), (92, .istore 5, 2), (94, .iinc 6 1, 3), (97, .goto (-50), 3), (100, .iconst 0, 1), (101, .istore 6, 2), (103, .iload 6, 2), (105, .aload_n 0, 1), (106, .getfield 13, 3), (109, .iconst 1, 1), (110, .iaload, 1), (111, .if_icmp .ge 68, 3), (114, .iconst 0, 1), (115, .istore 7, 2), (117, .iconst 0, 1), (118, .istore 8, 2), (120, .iload 8, 2), (122, .aload_n 0, 1), (123, .getfield 13, 3), (126, .iconst 0, 1), (127, .iaload, 1), (128, .if_icmp .ge 35, 3), (131, .iload 7, 2), (133, .aload_n 0, 1), (134, .iload 6, 2), (136, .iload 8, 2), (138, .invokevirtual 383, 3), (141, .iload 4, 2), (143, .if_icmp .lt 10, 3), (146, .iconst 1, 1), (147, .iload 8, 2), (149, .ishl, 1), (150, .goto 4, 3), (153, .iconst 0, 1), (154, .ior, 1), (155, .istore 7, 2), (157, .iinc 8 1, 3), (160, .goto (-40), 3), (163, .iload 7, 2), (165, .iload 5, 2), (167, .if_icmp .ne 6, 3), (170, .iload 6, 2), (172, .ireturn, 1), (173, .iinc 6 1, 3), (176, .goto (-73), 3), (179, .bipush (-2), 2), (181, .ireturn, 1)])
set_option maxRecDepth 100000 in
theorem eX10_letter : zdec mX10_letter := by unfold zdec; decide +kernel
theorem fX10_letter : zMF mX10_letter 3 := ⟨ztb_t (zt7 _ (List.mem_of_getElem? (i := 220) rfl)) rfl, ztb_t (zt1 _ (List.mem_of_getElem? (i := 14) rfl)) rfl, by decide +kernel, by decide⟩
def mX10_firstWrong : zM := (yX10_firstWrong, cX10_firstWrong, 3, (some FieldType.int), [(0, .aload_n 0, 1), (1, .iconst 0, 1), (2, .putfield 160, 3), (5, .iload_n 1, 1), (6, .iconst 1, 1), (7, .if_icmp .lt 9, 3), (10, .iload_n 1, 1), (11, .bipush 99, 2), (13, .if_icmp .le 5, 3), (16, .iconst (-1), 1), (17, .ireturn, 1), (18, .aload_n 0, 1), (19, .iconst 1, 1), (20, .iconst 0, 1), (21, .invokevirtual 434, 3), (24, .iconst 1, 1), (25, .istore_n 2, 1), (26, .iload_n 2, 1), (27, .iload_n 1, 1), (28, .if_icmp .gt 31, 3), (31, .aload_n 0, 1), (32, .iconst 1, 1), (33, .invokevirtual 440, 3), (36, .aload_n 0, 1), (37, .getfield 78, 3), (40, .iconst 1, 1), (41, .iaload, 1), (42, .aload_n 0, 1), (43, .getfield 78, 3), (46, .iconst 0, 1), (47, .iaload, 1), (48, .if_icmp .le 5, 3), (51, .iload_n 2, 1), (52, .ireturn, 1), (53, .iinc 2 1, 3), (56, .goto (-30), 3), (59, .bipush (-2), 2), (61, .ireturn, 1)])
set_option maxRecDepth 100000 in
theorem eX10_firstWrong : zdec mX10_firstWrong := by unfold zdec; decide +kernel
theorem fX10_firstWrong : zMF mX10_firstWrong 1 := ⟨ztb_t (zt7 _ (List.mem_of_getElem? (i := 224) rfl)) rfl, ztb_t (zt1 _ (List.mem_of_getElem? (i := 14) rfl)) rfl, by decide +kernel, by decide⟩
def mX10_laySextons : zM := (yX10_laySextons, cX10_laySextons, 6, none, [(0, .iconst 0, 1), (1, .istore_n 2, 1), (2, .iload_n 2, 1), (3, .aload_n 0, 1), (4, .getfield 13, 3), (7, .iconst 0, 1), (8, .iaload, 1), (9, .if_icmp .ge 139, 3), (12, .iconst 0, 1), (13, .istore_n 3, 1), (14, .iload_n 3, 1), (15, .aload_n 0, 1), (16, .getfield 13, 3), (19, .iconst 0, 1), (20, .iaload, 1), (21, .if_icmp .ge 121, 3), (24, .aload_n 0, 1), (25, .iconst 1, 1), (26, .iconst 0, 1), (27, .invokevirtual 434, 3), (30, .aload_n 0, 1), (31, .getfield 87, 3), (34, .bipush 6, 2), (36, .iload_n 2, 1), (37, .iadd, 1), (38, .dup2, 1), (39, .iaload, 1), (40, .iload_n 1, 1), (41, .iadd, 1), (42, .iastore, 1), (43, .aload_n 0, 1), (44, .getfield 87, 3), (47, .bipush 6, 2), (49, .iload_n 3, 1), (50, .iadd, 1), (51, .dup2, 1), (52, .iaload, 1), (53, .iload_n 1, 1), (54, .iadd, 1), (55, .iastore, 1), (56, .aload_n 0, 1), (57, .iconst 1, 1), (58, .invokevirtual 440, 3), (61, .iconst 0, 1), (62, .istore 4, 2), (64, .iconst 0, 1), (65, .istore 5, 2), (67, .iload 5, 2), (69, .aload_n 0, 1), (70, .getfield 13, 3), (73, .iconst 4, 1), (74, .iaload, 1), (75, .if_icmp .ge 28, 3), (78, .iload 4, 2), (80, .aload_n 0, 1), (81, .getfield 25, 3), (84, .aload_n 0, 1), (85, .getfield 102, 3), (88, .iconst 5, 1), (89, .iload 5, 2), (91, .iadd, 1), (92, .iaload, 1), (93, .iaload, 1), (94, .iadd, 1), (95, .istore 4, 2), (97, .iinc 5 1, 3), (100, .goto (-33), 3), (103, .aload_n 0, 1), (104, .getfield 129, 3), (107, .bipush 6, 2), (109, .iload_n 2, 1), (110, .imul, 1), (111, .iload_n 3, 1), (112, .iadd, 1), (113, .iload 4, 2), (115, .iastore, 1), (116, .aload_n 0, 1), (117, .getfield 132, 3), (120, .bipush 6, 2), (122, .iload_n 2, 1), (123, .imul, 1), (124, .iload_n 3, 1), (125, .iadd, 1), (126, .aload_n 0, 1), (127, .getfield 13, 3), (130, .iconst 4, 1), (131, .iaload, 1), (132, .iload 4, 2), (134, .isub, 1), (135, .iastore, 1), (136, .iinc 3 1, 3), (139, .goto (-125), 3), (142, .iinc 2 1, 3), (145, .goto (-143), 3), (148, .return_, 1)])
set_option maxRecDepth 100000 in
theorem eX10_laySextons : zdec mX10_laySextons := by unfold zdec; decide +kernel
theorem fX10_laySextons : zMF mX10_laySextons 1 := ⟨ztb_t (zt8 _ (List.mem_of_getElem? (i := 0) rfl)) rfl, ztb_t (zt1 _ (List.mem_of_getElem? (i := 14) rfl)) rfl, by decide +kernel, by decide⟩
def mX10_isRest : zM := (yX10_isRest, cX10_isRest, 4, (some FieldType.boolean), [(0, .iconst 0, 1), (1, .istore_n 3, 1), (2, .iload_n 3, 1), (3, .aload_n 0, 1), (4, .getfield 13, 3), (7, .iconst 0, 1), (8, .iaload, 1), (9, .if_icmp .ge 61, 3), (12, .aload_n 0, 1), (13, .getfield 129, 3), (16, .bipush 6, 2), (18, .iload_n 3, 1), (19, .imul, 1), (20, .iload_n 2, 1), (21, .iadd, 1), (22, .iaload, 1), (23, .aload_n 0, 1), (24, .getfield 129, 3), (27, .bipush 6, 2), (29, .iload_n 1, 1), (30, .imul, 1), (31, .iload_n 2, 1), (32, .iadd, 1), (33, .iaload, 1), (34, .if_icmp .gt 28, 3), (37, .aload_n 0, 1), (38, .getfield 132, 3), (41, .bipush 6, 2), (43, .iload_n 1, 1), (44, .imul, 1), (45, .iload_n 3, 1), (46, .iadd, 1), (47, .iaload, 1), (48, .aload_n 0, 1), (49, .getfield 132, 3), (52, .bipush 6, 2), (54, .iload_n 1, 1), (55, .imul, 1), (56, .iload_n 2, 1), (57, .iadd, 1), (58, .iaload, 1), (59, .if_icmp .le 5, 3), (62, .iconst 0, 1), (63, .ireturn, 1), (64, .iinc 3 1, 3), (67, .goto (-65), 3), (70, .iconst 1, 1), (71, .ireturn, 1)])
set_option maxRecDepth 100000 in
theorem eX10_isRest : zdec mX10_isRest := by unfold zdec; decide +kernel
theorem fX10_isRest : zMF mX10_isRest 2 := ⟨ztb_t (zt8 _ (List.mem_of_getElem? (i := 4) rfl)) rfl, ztb_t (zt1 _ (List.mem_of_getElem? (i := 14) rfl)) rfl, by decide +kernel, by decide⟩
def mX10_restOf : zM := (yX10_restOf, cX10_restOf, 6, (some FieldType.int), [(0, .aload_n 0, 1), (1, .iload_n 1, 1), (2, .invokevirtual 451, 3), (5, .iconst 0, 1), (6, .istore_n 3, 1), (7, .iconst 0, 1), (8, .istore 4, 2), (10, .iload 4, 2), (12, .aload_n 0, 1), (13, .getfield 13, 3), (16, .iconst 0, 1), (17, .iaload, 1), (18, .if_icmp .ge 60, 3), (21, .iconst 0, 1), (22, .istore 5, 2), (24, .iload 5, 2), (26, .aload_n 0, 1), (27, .getfield 13, 3), (30, .iconst 0, 1), (31, .iaload, 1), (32, .if_icmp .ge 40, 3), (35, .aload_n 0, 1), (36, .iload 4, 2), (38, .iload 5, 2), (40, .invokevirtual 454, 3), (43, .ifCond .ne 6, 3), (46, .goto 20, 3), (49, .iload_n 3, 1), (50, .iload_n 2, 1), (51, .if_icmp .ne 12, 3), (54, .bipush 10, 2), (56, .iload 4, 2), (58, .imul, 1), (59, .iload 5, 2), (61, .iadd, 1), (62, .ireturn, 1), (63, .iinc 3 1, 3), (66, .iinc 5 1, 3), (69, .goto (-45), 3), (72, .iinc 4 1, 3), (75, .goto (-65), 3), (78, .iload_n 2, 1), (79, .iconst (-1), 1), (80, .if_icmp .ne 7, 3), (83, .iload_n 3, 1), (84, .goto 5, 3), (87, .bipush (-2), 2), (89, .ireturn, 1)])
set_option maxRecDepth 100000 in
theorem eX10_restOf : zdec mX10_restOf := by unfold zdec; decide +kernel
theorem fX10_restOf : zMF mX10_restOf 2 := ⟨ztb_t (zt7 _ (List.mem_of_getElem? (i := 236) rfl)) rfl, ztb_t (zt1 _ (List.mem_of_getElem? (i := 14) rfl)) rfl, by decide +kernel, by decide⟩
def mX10_areSextons : zM := (yX10_areSextons, cX10_areSextons, 2, (some FieldType.boolean), [(0, .iload_n 1, 1), (1, .iconst 1, 1), (2, .if_icmp .lt 31, 3), (5, .iload_n 1, 1), (6, .bipush 99, 2), (8, .if_icmp .gt 25, 3), (11, .aload_n 0, 1), (12, .getfield 13, 3), (15, .iconst 0, 1), (16, .iaload, 1), (17, .ifCond .le 16, 3), (20, .aload_n 0, 1), (21, .getfield 13, 3), (24, .iconst 1, 1), (25, .iaload, 1), (26, .ifCond .le 7, 3), (29, .iconst 1, 1), (30, .goto 4, 3), (33, .iconst 0, 1), (34, .ireturn, 1)])
set_option maxRecDepth 100000 in
theorem eX10_areSextons : zdec mX10_areSextons := by unfold zdec; decide +kernel
theorem fX10_areSextons : zMF mX10_areSextons 1 := ⟨ztb_t (zt7 _ (List.mem_of_getElem? (i := 232) rfl)) rfl, ztb_t (zt1 _ (List.mem_of_getElem? (i := 14) rfl)) rfl, by decide +kernel, by decide⟩
def mX10_rests : zM := (yX10_rests, cX10_rests, 2, (some FieldType.int), [(0, .aload_n 0, 1), (1, .iconst 0, 1), (2, .putfield 160, 3), (5, .aload_n 0, 1), (6, .iload_n 1, 1), (7, .invokevirtual 458, 3), (10, .ifCond .eq 12, 3), (13, .aload_n 0, 1), (14, .iload_n 1, 1), (15, .iconst (-1), 1), (16, .invokevirtual 461, 3), (19, .goto 4, 3), (22, .iconst (-1), 1), (23, .ireturn, 1)])
set_option maxRecDepth 100000 in
theorem eX10_rests : zdec mX10_rests := by unfold zdec; decide +kernel
theorem fX10_rests : zMF mX10_rests 1 := ⟨ztb_t (zt7 _ (List.mem_of_getElem? (i := 228) rfl)) rfl, ztb_t (zt1 _ (List.mem_of_getElem? (i := 14) rfl)) rfl, by decide +kernel, by decide⟩
def mX10_rest : zM := (yX10_rest, cX10_rest, 3, (some FieldType.int), [(0, .aload_n 0, 1), (1, .iconst 0, 1), (2, .putfield 160, 3), (5, .aload_n 0, 1), (6, .iload_n 1, 1), (7, .invokevirtual 458, 3), (10, .ifCond .eq 16, 3), (13, .iload_n 2, 1), (14, .ifCond .lt 12, 3), (17, .aload_n 0, 1), (18, .iload_n 1, 1), (19, .iload_n 2, 1), (20, .invokevirtual 461, 3), (23, .goto 4, 3), (26, .iconst (-1), 1), (27, .ireturn, 1)])
set_option maxRecDepth 100000 in
theorem eX10_rest : zdec mX10_rest := by unfold zdec; decide +kernel
theorem fX10_rest : zMF mX10_rest 2 := ⟨ztb_t (zt8 _ (List.mem_of_getElem? (i := 8) rfl)) rfl, ztb_t (zt1 _ (List.mem_of_getElem? (i := 14) rfl)) rfl, by decide +kernel, by decide⟩
def mX10_note : zM := (yX10_note, cX10_note, 5, (some FieldType.int), [(0, .aload_n 0, 1), (1, .iconst 0, 1), (2, .putfield 160, 3), (5, .iload_n 1, 1), (6, .iconst 1, 1), (7, .if_icmp .lt 34, 3), (10, .iload_n 1, 1), (11, .bipush 40, 2), (13, .if_icmp .gt 28, 3), (16, .aload_n 0, 1), (17, .iload_n 2, 1), (18, .invokevirtual 415, 3), (21, .ifCond .eq 20, 3), (24, .aload_n 0, 1), (25, .iload_n 3, 1), (26, .invokevirtual 424, 3), (29, .ifCond .eq 12, 3), (32, .aload_n 0, 1), (33, .getfield 316, 3), (36, .bipush 24, 2), (38, .if_icmp .ne 5, 3), (41, .iconst (-1), 1), (42, .ireturn, 1), (43, .aload_n 0, 1), (44, .getfield 138, 3), (47, .aload_n 0, 1), (48, .getfield 316, 3), (51, .iload_n 1, 1), (52, .iastore, 1), (53, .aload_n 0, 1), (54, .getfield 141, 3), (57, .aload_n 0, 1), (58, .getfield 316, 3), (61, .iload_n 2, 1), (62, .iastore, 1), (63, .aload_n 0, 1), (64, .getfield 144, 3), (67, .aload_n 0, 1), (68, .getfield 316, 3), (71, .iload_n 3, 1), (72, .iastore, 1), (73, .aload_n 0, 1), (74, .getfield 147, 3), (77, .aload_n 0, 1), (78, .getfield 316, 3), (81, .iload 4, 2), (83, .bastore, 1), (84, .aload_n 0, 1), (85, .getfield 151, 3), (88, .aload_n 0, 1), (89, .getfield 316, 3), (92, .iconst (-1), 1), (93, .iastore, 1), (94, .aload_n 0, 1), (95, .dup, 1), (96, .getfield 316, 3), (99, .iconst 1, 1), (100, .iadd, 1), (101, .putfield 316, 3), (104, .aload_n 0, 1), (105, .getfield 316, 3), (108, .iconst 1, 1), (109, .isub, 1), (110, .ireturn, 1)])
set_option maxRecDepth 100000 in
theorem eX10_note : zdec mX10_note := by unfold zdec; decide +kernel
theorem fX10_note : zMF mX10_note 4 := ⟨ztb_t (zt8 _ (List.mem_of_getElem? (i := 12) rfl)) rfl, ztb_t (zt1 _ (List.mem_of_getElem? (i := 14) rfl)) rfl, by decide +kernel, by decide⟩
end
section
def mX10_out : zM := (yX10_out, cX10_out, 2, (some FieldType.int), [(0, .aload_n 0, 1), (1, .iconst 0, 1), (2, .putfield 160, 3), (5, .iload_n 1, 1), (6, .ifCond .lt 20, 3), (9, .iload_n 1, 1), (10, .aload_n 0, 1), (11, .getfield 316, 3), (14, .if_icmp .ge 12, 3), (17, .aload_n 0, 1), (18, .getfield 316, 3), (21, .bipush 24, 2), (23, .if_icmp .ne 5, 3), (26, .iconst (-1), 1), (27, .ireturn, 1), (28, .aload_n 0, 1), (29, .getfield 151, 3), (32, .aload_n 0, 1), (33, .getfield 316, 3), (36, .iload_n 1, 1), (37, .iastore, 1), (38, .aload_n 0, 1), (39, .dup, 1), (40, .getfield 316, 3), (43, .iconst 1, 1), (44, .iadd, 1), (45, .putfield 316, 3), (48, .aload_n 0, 1), (49, .getfield 316, 3), (52, .iconst 1, 1), (53, .isub, 1), (54, .ireturn, 1)])
set_option maxRecDepth 100000 in
theorem eX10_out : zdec mX10_out := by unfold zdec; decide +kernel
theorem fX10_out : zMF mX10_out 1 := ⟨ztb_t (zt8 _ (List.mem_of_getElem? (i := 16) rfl)) rfl, ztb_t (zt1 _ (List.mem_of_getElem? (i := 14) rfl)) rfl, by decide +kernel, by decide⟩
def mX10_known : zM := (yX10_known, cX10_known, 2, (some FieldType.boolean), [(0, .aload_n 0, 1), (1, .iconst 0, 1), (2, .putfield 160, 3), (5, .iload_n 1, 1), (6, .iconst (-1), 1), (7, .if_icmp .lt 11, 3), (10, .iload_n 1, 1), (11, .aload_n 0, 1), (12, .getfield 316, 3), (15, .if_icmp .le 5, 3), (18, .iconst 0, 1), (19, .ireturn, 1), (20, .aload_n 0, 1), (21, .iload_n 1, 1), (22, .putfield 135, 3), (25, .iconst 1, 1), (26, .ireturn, 1)])
set_option maxRecDepth 100000 in
theorem eX10_known : zdec mX10_known := by unfold zdec; decide +kernel
theorem fX10_known : zMF mX10_known 1 := ⟨ztb_t (zt8 _ (List.mem_of_getElem? (i := 20) rfl)) rfl, ztb_t (zt1 _ (List.mem_of_getElem? (i := 14) rfl)) rfl, by decide +kernel, by decide⟩
def mX10_knownMany : zM := (yX10_knownMany, cX10_knownMany, 1, (some FieldType.int), [(0, .aload_n 0, 1), (1, .getfield 135, 3), (4, .iconst (-1), 1), (5, .if_icmp .ne 10, 3), (8, .aload_n 0, 1), (9, .getfield 316, 3), (12, .goto 7, 3), (15, .aload_n 0, 1), (16, .getfield 135, 3), (19, .ireturn, 1)])
set_option maxRecDepth 100000 in
theorem eX10_knownMany : zdec mX10_knownMany := by unfold zdec; decide +kernel
theorem fX10_knownMany : zMF mX10_knownMany 0 := ⟨ztb_t (zt8 _ (List.mem_of_getElem? (i := 28) rfl)) rfl, ztb_t (zt1 _ (List.mem_of_getElem? (i := 14) rfl)) rfl, by decide +kernel, by decide⟩
def mX10_isSo : zM := (yX10_isSo, cX10_isSo, 3, (some FieldType.boolean), [(0, .iconst 0, 1), (1, .istore_n 2, 1), (2, .iload_n 2, 1), (3, .aload_n 0, 1), (4, .invokevirtual 464, 3), (7, .if_icmp .ge 79, 3), (10, .aload_n 0, 1), (11, .getfield 154, 3), (14, .iload_n 2, 1), (15, .baload, 1), (16, .ifCond .ne 64, 3), (19, .aload_n 0, 1), (20, .getfield 151, 3), (23, .iload_n 2, 1), (24, .iaload, 1), (25, .iconst (-1), 1), (26, .if_icmp .ne 54, 3), (29, .aload_n 0, 1), (30, .getfield 138, 3), (33, .iload_n 2, 1), (34, .iaload, 1), (35, .iload_n 1, 1), (36, .if_icmp .eq 6, 3), (39, .goto 41, 3), (42, .aload_n 0, 1), (43, .getfield 102, 3), (46, .iconst 5, 1), (47, .aload_n 0, 1), (48, .getfield 141, 3), (51, .iload_n 2, 1), (52, .iaload, 1), (53, .iadd, 1), (54, .iaload, 1), (55, .aload_n 0, 1), (56, .getfield 144, 3), (59, .iload_n 2, 1), (60, .iaload, 1), (61, .if_icmp .ne 7, 3), (64, .iconst 1, 1), (65, .goto 4, 3), (68, .iconst 0, 1), (69, .aload_n 0, 1), (70, .getfield 147, 3), (73, .iload_n 2, 1), (74, .baload, 1), (75, .if_icmp .eq 5, 3), (78, .iconst 0, 1), (79, .ireturn, 1), (80, .iinc 2 1, 3), (83, .goto (-81), 3), (86, .iconst 1, 1), (87, .ireturn, 1)])
set_option maxRecDepth 100000 in
theorem eX10_isSo : zdec mX10_isSo := by unfold zdec; decide +kernel
theorem fX10_isSo : zMF mX10_isSo 1 := ⟨ztb_t (zt8 _ (List.mem_of_getElem? (i := 36) rfl)) rfl, ztb_t (zt1 _ (List.mem_of_getElem? (i := 14) rfl)) rfl, by decide +kernel, by decide⟩
def mX10_fitsCold : zM := (yX10_fitsCold, cX10_fitsCold, 5, (some FieldType.boolean), [(0, .aload_n 0, 1), (1, .iconst 1, 1), (2, .invokevirtual 346, 3), (5, .aload_n 0, 1), (6, .getfield 96, 3), (9, .iconst 5, 1), (10, .iload_n 1, 1), (11, .iadd, 1), (12, .iload_n 2, 1), (13, .iastore, 1), (14, .iconst 1, 1), (15, .istore 4, 2), (17, .iload 4, 2), (19, .iload_n 3, 1), (20, .if_icmp .gt 25, 3), (23, .aload_n 0, 1), (24, .iconst 1, 1), (25, .invokevirtual 440, 3), (28, .aload_n 0, 1), (29, .iload 4, 2), (31, .invokevirtual 467, 3), (34, .ifCond .ne 5, 3), (37, .iconst 0, 1), (38, .ireturn, 1), (39, .iinc 4 1, 3), (42, .goto (-25), 3), (45, .iconst 1, 1), (46, .ireturn, 1)])
set_option maxRecDepth 100000 in
theorem eX10_fitsCold : zdec mX10_fitsCold := by unfold zdec; decide +kernel
theorem fX10_fitsCold : zMF mX10_fitsCold 3 := ⟨ztb_t (zt8 _ (List.mem_of_getElem? (i := 32) rfl)) rfl, ztb_t (zt1 _ (List.mem_of_getElem? (i := 14) rfl)) rfl, by decide +kernel, by decide⟩
def mX10_colds : zM := (yX10_colds, cX10_colds, 5, (some FieldType.int), [(0, .aload_n 0, 1), (1, .iconst 0, 1), (2, .putfield 160, 3), (5, .aload_n 0, 1), (6, .iload_n 1, 1), (7, .invokevirtual 415, 3), (10, .ifCond .ne 5, 3), (13, .iconst (-1), 1), (14, .ireturn, 1), (15, .iconst 0, 1), (16, .istore_n 2, 1), (17, .iconst 0, 1), (18, .istore_n 3, 1), (19, .iload_n 3, 1), (20, .aload_n 0, 1), (21, .invokevirtual 464, 3), (24, .if_icmp .ge 16, 3), (27, .aload_n 0, 1), (28, .getfield 154, 3), (31, .iload_n 3, 1), (32, .iconst 0, 1), (33, .bastore, 1), (34, .iinc 3 1, 3), (37, .goto (-18), 3), (40, .aload_n 0, 1), (41, .invokevirtual 464, 3), (44, .iconst 1, 1), (45, .isub, 1), (46, .istore_n 3, 1), (47, .iload_n 3, 1), (48, .ifCond .lt 40, 3), (51, .aload_n 0, 1), (52, .getfield 154, 3), (55, .iload_n 3, 1), (56, .baload, 1), (57, .ifCond .ne 25, 3), (60, .aload_n 0, 1), (61, .getfield 151, 3), (64, .iload_n 3, 1), (65, .iaload, 1), (66, .iconst (-1), 1), (67, .if_icmp .eq 15, 3), (70, .aload_n 0, 1), (71, .getfield 154, 3), (74, .aload_n 0, 1), (75, .getfield 151, 3), (78, .iload_n 3, 1), (79, .iaload, 1), (80, .iconst 1, 1), (81, .bastore, 1), (82, .iinc 3 (-1), 3), (85, .goto (-38), 3), (88, .iconst 0, 1), (89, .istore_n 3, 1), (90, .iload_n 3, 1), (91, .aload_n 0, 1), (92, .invokevirtual 464, 3), (95, .if_icmp .ge 39, 3), (98, .aload_n 0, 1), (99, .getfield 154, 3), (102, .iload_n 3, 1), (103, .baload, 1), (104, .ifCond .ne 24, 3), (107, .aload_n 0, 1), (108, .getfield 151, 3), (111, .iload_n 3, 1), (112, .iaload, 1), (113, .iconst (-1), 1), (114, .if_icmp .ne 14, 3), (117, .iload_n 2, 1), (118, .aload_n 0, 1), (119, .getfield 138, 3), (122, .iload_n 3, 1), (123, .iaload, 1), (124, .invokestatic 449, 3), (127, .istore_n 2, 1), (128, .iinc 3 1, 3), (131, .goto (-41), 3), (134, .iconst 0, 1), (135, .istore_n 3, 1), (136, .iconst 0, 1), (137, .istore 4, 2), (139, .iload 4, 2), (141, .aload_n 0, 1), (142, .getfield 13, 3), (145, .iconst 0, 1), (146, .iaload, 1), (147, .if_icmp .gt 48, 3), (150, .iload_n 3, 1), (151, .aload_n 0, 1), (152, .iload_n 1, 1), (153, .iload 4, 2), (155, .aload_n 0, 1), (156, .getfield 13, 3), (159, .iconst 0, 1), (160, .iaload, 1), (161, .if_icmp .ge 10, 3), (164, .iconst 1, 1), (165, .iload 4, 2), (167, .ishl, 1), (168, .goto 4, 3), (171, .iconst 0, 1), (172, .iload_n 2, 1), (173, .invokevirtual 470, 3), (176, .ifCond .eq 10, 3), (179, .iconst 1, 1), (180, .iload 4, 2), (182, .ishl, 1), (183, .goto 4, 3), (186, .iconst 0, 1), (187, .ior, 1), (188, .istore_n 3, 1), (189, .iinc 4 1, 3), (192, .goto (-53), 3), (195, .iload_n 3, 1), (196, .ireturn, 1)])
set_option maxRecDepth 100000 in
theorem eX10_colds : zdec mX10_colds := by unfold zdec; decide +kernel
theorem fX10_colds : zMF mX10_colds 1 := ⟨ztb_t (zt8 _ (List.mem_of_getElem? (i := 24) rfl)) rfl, ztb_t (zt1 _ (List.mem_of_getElem? (i := 14) rfl)) rfl, by decide +kernel, by decide⟩
def mX10_draw : zM := (yX10_draw, cX10_draw, 2, (some FieldType.int), [(0, .aload_n 0, 1), (1, .getfield 81, 3), (4, .iconst 1, 1), (5, .aload_n 0, 1), (6, .getfield 81, 3), (9, .iconst 1, 1), (10, .iaload, 1), (11, .ldc_w 474, 3), (14, .imul, 1), (15, .sipush 12345, 3), (18, .iadd, 1), (19, .ldc_w 477, 3), (22, .iand, 1), (23, .iastore, 1), (24, .aload_n 0, 1), (25, .getfield 81, 3), (28, .iconst 1, 1), (29, .iaload, 1), (30, .bipush 16, 2), (32, .ishr, 1), (33, .iload_n 1, 1), (34, .irem, 1), (35, .ireturn, 1)])
set_option maxRecDepth 100000 in
theorem eX10_draw : zdec mX10_draw := by unfold zdec; decide +kernel
theorem fX10_draw : zMF mX10_draw 1 := ⟨ztb_t (zt8 _ (List.mem_of_getElem? (i := 44) rfl)) rfl, ztb_t (zt1 _ (List.mem_of_getElem? (i := 14) rfl)) rfl, by decide +kernel, by decide⟩
def mX10_chance : zM := (yX10_chance, cX10_chance, 8, (some FieldType.int), [(0, .aload_n 0, 1), (1, .iconst 0, 1), (2, .putfield 160, 3), (5, .iload_n 1, 1), (6, .ifCond .lt 33, 3), (9, .iload_n 2, 1), (10, .iconst 1, 1), (11, .if_icmp .lt 28, 3), (14, .iload_n 2, 1), (15, .bipush 40, 2), (17, .if_icmp .gt 22, 3), (20, .iload_n 3, 1), (21, .ifCond .lt 18, 3), (24, .iload_n 3, 1), (25, .bipush 40, 2), (27, .if_icmp .gt 12, 3), (30, .aload_n 0, 1), (31, .getfield 13, 3), (34, .iconst 0, 1), (35, .iaload, 1), (36, .ifCond .ne 5, 3), (39, .iconst (-1), 1), (40, .ireturn, 1), (41, .iload_n 1, 1), (42, .istore 4, 2), (44, .iconst 0, 1), (45, .istore 5, 2), (47, .iconst 0, 1), (48, .istore 6, 2), (50, .iload 6, 2), (52, .bipush 10, 2), (54, .if_icmp .ge 106, 3), (57, .aload_n 0, 1), (58, .iconst 1, 1), (59, .iconst 0, 1), (60, .invokevirtual 434, 3), (63, .aload_n 0, 1), (64, .getfield 81, 3), (67, .iconst 1, 1), (68, .iload 4, 2), (70, .iastore, 1), (71, .iconst 0, 1), (72, .istore 7, 2), (74, .iload 7, 2), (76, .iload_n 2, 1), (77, .if_icmp .ge 42, 3), (80, .aload_n 0, 1), (81, .iconst 4, 1), (82, .invokevirtual 478, 3), (85, .ifCond .ne 23, 3), (88, .aload_n 0, 1), (89, .getfield 87, 3), (92, .bipush 6, 2), (94, .aload_n 0, 1), (95, .aload_n 0, 1), (96, .getfield 13, 3), (99, .iconst 0, 1), (100, .iaload, 1), (101, .invokevirtual 478, 3), (104, .iadd, 1), (105, .bipush 9, 2), (107, .iastore, 1), (108, .aload_n 0, 1), (109, .iconst 1, 1), (110, .invokevirtual 440, 3), (113, .iinc 7 1, 3), (116, .goto (-42), 3), (119, .aload_n 0, 1), (120, .getfield 81, 3), (123, .iconst 1, 1), (124, .iaload, 1), (125, .istore 4, 2), (127, .iload 5, 2), (129, .aload_n 0, 1), (130, .getfield 75, 3), (133, .iconst 1, 1), (134, .iaload, 1), (135, .aload_n 0, 1), (136, .getfield 75, 3), (139, .iconst 0, 1), (140, .iaload, 1), (141, .isub, 1), (142, .iload_n 3, 1), (143, .if_icmp .lt 7, 3), (146, .iconst 1, 1), (147, .goto 4, 3), (150, .iconst 0, 1), (151, .iadd, 1), (152, .istore 5, 2), (154, .iinc 6 1, 3), (157, .goto (-107), 3), (160, .iload 5, 2), (162, .ireturn, 1)])
set_option maxRecDepth 100000 in
theorem eX10_chance : zdec mX10_chance := by unfold zdec; decide +kernel
theorem fX10_chance : zMF mX10_chance 3 := ⟨ztb_t (zt8 _ (List.mem_of_getElem? (i := 40) rfl)) rfl, ztb_t (zt1 _ (List.mem_of_getElem? (i := 14) rfl)) rfl, by decide +kernel, by decide⟩
def mX10_tried : zM := (yX10_tried, cX10_tried, 6, (some FieldType.int), [(0, .aload_n 0, 1), (1, .iconst 0, 1), (2, .putfield 160, 3), (5, .iload_n 1, 1), (6, .iconst 3, 1), (7, .if_icmp .ne 11, 3), (10, .aload_n 0, 1), (11, .iload_n 2, 1), (12, .invokevirtual 415, 3), (15, .goto 21, 3), (18, .iload_n 1, 1), (19, .ifCond .lt 16, 3), (22, .iload_n 1, 1), (23, .iconst 5, 1), (24, .if_icmp .gt 11, 3), (27, .iload_n 2, 1), (28, .ifCond .ne 7, 3), (31, .iconst 1, 1), (32, .goto 4, 3), (35, .iconst 0, 1), (36, .istore 4, 2), (38, .iload 4, 2), (40, .ifCond .eq 13, 3), (43, .iload_n 3, 1), (44, .ifCond .lt 9, 3), (47, .iload_n 3, 1), (48, .bipush 99, 2), (50, .if_icmp .le 5, 3), (53, .iconst (-1), 1), (54, .ireturn, 1), (55, .aload_n 0, 1), (56, .iload_n 1, 1), (57, .putfield 349, 3), (60, .aload_n 0, 1), (61, .iload_n 2, 1), (62, .putfield 105, 3), (65, .aload_n 0, 1), (66, .iconst 1, 1), (67, .iconst 0, 1), (68, .invokevirtual 434, 3), (71, .iconst 0, 1), (72, .istore 5, 2), (74, .iload 5, 2), (76, .iload_n 3, 1), (77, .if_icmp .ge 14, 3), (80, .aload_n 0, 1), (81, .iconst 1, 1), (82, .invokevirtual 440, 3), (85, .iinc 5 1, 3), (88, .goto (-14), 3), (91, .aload_n 0, 1), (92, .iconst 0, 1), (93, .putfield 349, 3), (96, .aload_n 0, 1), (97, .iconst (-1), 1), (98, .putfield 105, 3), (101, .aload_n 0, 1), (102, .getfield 75, 3), (105, .iconst 1, 1), (106, .iaload, 1), (107, .aload_n 0, 1), (108, .getfield 75, 3), (111, .iconst 0, 1), (112, .iaload, 1), (113, .isub, 1), (114, .ireturn, 1)])
set_option maxRecDepth 100000 in
theorem eX10_tried : zdec mX10_tried := by unfold zdec; decide +kernel
theorem fX10_tried : zMF mX10_tried 3 := ⟨ztb_t (zt8 _ (List.mem_of_getElem? (i := 50) rfl)) rfl, ztb_t (zt1 _ (List.mem_of_getElem? (i := 14) rfl)) rfl, by decide +kernel, by decide⟩
def mX10_undo : zM := (yX10_undo, cX10_undo, 1, (some FieldType.int), [(0, .aload_n 0, 1), (1, .iconst 0, 1), (2, .putfield 160, 3), (5, .aload_n 0, 1), (6, .getfield 323, 3), (9, .ifCond .ne 5, 3), (12, .iconst (-1), 1), (13, .ireturn, 1), (14, .aload_n 0, 1), (15, .dup, 1), (16, .getfield 323, 3), (19, .iconst 1, 1), (20, .isub, 1), (21, .putfield 323, 3), (24, .aload_n 0, 1), (25, .iconst 0, 1), (26, .iconst 3, 1), (27, .aload_n 0, 1), (28, .getfield 323, 3), (31, .iadd, 1), (32, .invokevirtual 434, 3), (35, .aload_n 0, 1), (36, .getfield 323, 3), (39, .ireturn, 1)])
set_option maxRecDepth 100000 in
theorem eX10_undo : zdec mX10_undo := by unfold zdec; decide +kernel
theorem fX10_undo : zMF mX10_undo 0 := ⟨ztb_t (zt8 _ (List.mem_of_getElem? (i := 54) rfl)) rfl, ztb_t (zt1 _ (List.mem_of_getElem? (i := 14) rfl)) rfl, by decide +kernel, by decide⟩
def mX10_keep : zM := (yX10_keep, cX10_keep, 1, (some FieldType.int), [(0, .aload_n 0, 1), (1, .iconst 0, 1), (2, .putfield 160, 3), (5, .aload_n 0, 1), (6, .iconst 2, 1), (7, .iconst 0, 1), (8, .invokevirtual 434, 3), (11, .aload_n 0, 1), (12, .iconst 1, 1), (13, .putfield 319, 3), (16, .aload_n 0, 1), (17, .getfield 69, 3), (20, .iconst 0, 1), (21, .iaload, 1), (22, .ireturn, 1)])
set_option maxRecDepth 100000 in
theorem eX10_keep : zdec mX10_keep := by unfold zdec; decide +kernel
theorem fX10_keep : zMF mX10_keep 0 := ⟨ztb_t (zt8 _ (List.mem_of_getElem? (i := 58) rfl)) rfl, ztb_t (zt1 _ (List.mem_of_getElem? (i := 14) rfl)) rfl, by decide +kernel, by decide⟩
def mX10_back : zM := (yX10_back, cX10_back, 1, (some FieldType.int), [(0, .aload_n 0, 1), (1, .iconst 0, 1), (2, .putfield 160, 3), (5, .aload_n 0, 1), (6, .getfield 319, 3), (9, .ifCond .ne 5, 3), (12, .iconst (-1), 1), (13, .ireturn, 1), (14, .aload_n 0, 1), (15, .iconst 0, 1), (16, .iconst 2, 1), (17, .invokevirtual 434, 3), (20, .aload_n 0, 1), (21, .iconst 0, 1), (22, .putfield 323, 3), (25, .aload_n 0, 1), (26, .getfield 69, 3), (29, .iconst 0, 1), (30, .iaload, 1), (31, .ireturn, 1)])
set_option maxRecDepth 100000 in
theorem eX10_back : zdec mX10_back := by unfold zdec; decide +kernel
theorem fX10_back : zMF mX10_back 0 := ⟨ztb_t (zt8 _ (List.mem_of_getElem? (i := 62) rfl)) rfl, ztb_t (zt1 _ (List.mem_of_getElem? (i := 14) rfl)) rfl, by decide +kernel, by decide⟩
def mX10_count : zM := (yX10_count, cX10_count, 4, (some FieldType.int), [(0, .aload_n 0, 1), (1, .iconst 0, 1), (2, .putfield 160, 3), (5, .iconst 0, 1), (6, .istore_n 2, 1), (7, .iload_n 1, 1), (8, .tableswitch 187 0 13 #[72, 79, 86, 93, 100, 107, 115, 122, 129, 136, 143, 172, 177, 182], 72), (80, .aload_n 0, 1), (81, .getfield 13, 3), (84, .iconst 0, 1), (85, .iaload, 1), (86, .ireturn, 1), (87, .aload_n 0, 1), (88, .getfield 13, 3), (91, .iconst 1, 1), (92, .iaload, 1), (93, .ireturn, 1), (94, .aload_n 0, 1), (95, .getfield 13, 3), (98, .iconst 3, 1), (99, .iaload, 1), (100, .ireturn, 1), (101, .aload_n 0, 1), (102, .getfield 13, 3), (105, .iconst 4, 1), (106, .iaload, 1), (107, .ireturn, 1), (108, .aload_n 0, 1), (109, .getfield 13, 3), (112, .iconst 2, 1), (113, .iaload, 1), (114, .ireturn, 1), (115, .aload_n 0, 1), (116, .getfield 13, 3), (119, .bipush 7, 2), (121, .iaload, 1), (122, .ireturn, 1), (123, .aload_n 0, 1), (124, .getfield 69, 3), (127, .iconst 0, 1), (128, .iaload, 1), (129, .ireturn, 1), (130, .aload_n 0, 1), (131, .getfield 72, 3), (134, .iconst 0, 1), (135, .iaload, 1), (136, .ireturn, 1), (137, .aload_n 0, 1), (138, .getfield 75, 3), (141, .iconst 0, 1), (142, .iaload, 1), (143, .ireturn, 1), (144, .aload_n 0, 1), (145, .getfield 78, 3), (148, .iconst 0, 1), (149, .iaload, 1), (150, .ireturn, 1), (151, .iconst 0, 1), (152, .istore_n 3, 1), (153, .iload_n 3, 1), (154, .aload_n 0, 1), (155, .getfield 13, 3), (158, .iconst 0, 1), (159, .iaload, 1), (160, .if_icmp .ge 18, 3), (163, .iload_n 2, 1), (164, .aload_n 0, 1), (165, .getfield 84, 3), (168, .iload_n 3, 1), (169, .iaload, 1), (170, .iadd, 1), (171, .istore_n 2, 1), (172, .iinc 3 1, 3), (175, .goto (-22), 3), (178, .iload_n 2, 1), (179, .ireturn, 1), (180, .aload_n 0, 1), (181, .getfield 316, 3), (184, .ireturn, 1), (185, .aload_n 0, 1), (186, .invokevirtual 464, 3), (189, .ireturn, 1), (190, .aload_n 0, 1), (191, .getfield 323, 3), (194, .ireturn, 1), (195, .iconst (-1), 1), (196, .ireturn, 1)])
set_option maxRecDepth 100000 in
theorem eX10_count : zdec mX10_count := by unfold zdec; decide +kernel
theorem fX10_count : zMF mX10_count 1 := ⟨ztb_t (zt8 _ (List.mem_of_getElem? (i := 66) rfl)) rfl, ztb_t (zt1 _ (List.mem_of_getElem? (i := 14) rfl)) rfl, by decide +kernel, by decide⟩
def mJ9_abs_067f4 : zM := (yJ9_abs_067f4, cJ9_abs_067f4, 2, (some FieldType.long), [(0, .lload_n 0, 1), (1, .lconst 0, 1), (2, .lcmp, 1), (3, .ifCond .ge 8, 3), (6, .lload_n 0, 1), (7, .lneg, 1), (8, .goto 4, 3), (11, .lload_n 0, 1), (12, .lreturn, 1)])
set_option maxRecDepth 100000 in
theorem eJ9_abs_067f4 : zdec mJ9_abs_067f4 := by unfold zdec; decide +kernel
theorem fJ9_abs_067f4 : zMF mJ9_abs_067f4 1 := ⟨ztb_t (zt7 _ (List.mem_of_getElem? (i := 61) rfl)) rfl, ztb_t (zt1 _ (List.mem_of_getElem? (i := 15) rfl)) rfl, by decide +kernel, by decide⟩
def mJ9_max_7cf53 : zM := (yJ9_max_7cf53, cJ9_max_7cf53, 2, (some FieldType.int), [(0, .iload_n 0, 1), (1, .iload_n 1, 1), (2, .if_icmp .lt 7, 3), (5, .iload_n 0, 1), (6, .goto 4, 3), (9, .iload_n 1, 1), (10, .ireturn, 1)])
set_option maxRecDepth 100000 in
theorem eJ9_max_7cf53 : zdec mJ9_max_7cf53 := by unfold zdec; decide +kernel
theorem fJ9_max_7cf53 : zMF mJ9_max_7cf53 2 := ⟨ztb_t (zt4 _ (List.mem_of_getElem? (i := 99) rfl)) rfl, ztb_t (zt1 _ (List.mem_of_getElem? (i := 15) rfl)) rfl, by decide +kernel, by decide⟩
def mJ9_max_f86c9 : zM := (yJ9_max_f86c9, cJ9_max_f86c9, 4, (some FieldType.long), [(0, .lload_n 0, 1), (1, .lload_n 2, 1), (2, .lcmp, 1), (3, .ifCond .lt 7, 3), (6, .lload_n 0, 1), (7, .goto 4, 3), (10, .lload_n 2, 1), (11, .lreturn, 1)])
set_option maxRecDepth 100000 in
theorem eJ9_max_f86c9 : zdec mJ9_max_f86c9 := by unfold zdec; decide +kernel
theorem fJ9_max_f86c9 : zMF mJ9_max_f86c9 2 := ⟨ztb_t (zt3 _ (List.mem_of_getElem? (i := 208) rfl)) rfl, ztb_t (zt1 _ (List.mem_of_getElem? (i := 15) rfl)) rfl, by decide +kernel, by decide⟩
def mJ9_min_7cf53 : zM := (yJ9_min_7cf53, cJ9_min_7cf53, 2, (some FieldType.int), [(0, .iload_n 0, 1), (1, .iload_n 1, 1), (2, .if_icmp .gt 7, 3), (5, .iload_n 0, 1), (6, .goto 4, 3), (9, .iload_n 1, 1), (10, .ireturn, 1)])
set_option maxRecDepth 100000 in
theorem eJ9_min_7cf53 : zdec mJ9_min_7cf53 := by unfold zdec; decide +kernel
theorem fJ9_min_7cf53 : zMF mJ9_min_7cf53 2 := ⟨ztb_t (zt3 _ (List.mem_of_getElem? (i := 2) rfl)) rfl, ztb_t (zt1 _ (List.mem_of_getElem? (i := 15) rfl)) rfl, by decide +kernel, by decide⟩
def mJ9_min_f86c9 : zM := (yJ9_min_f86c9, cJ9_min_f86c9, 4, (some FieldType.long), [(0, .lload_n 0, 1), (1, .lload_n 2, 1), (2, .lcmp, 1), (3, .ifCond .gt 7, 3), (6, .lload_n 0, 1), (7, .goto 4, 3), (10, .lload_n 2, 1), (11, .lreturn, 1)])
set_option maxRecDepth 100000 in
theorem eJ9_min_f86c9 : zdec mJ9_min_f86c9 := by unfold zdec; decide +kernel
theorem fJ9_min_f86c9 : zMF mJ9_min_f86c9 2 := ⟨ztb_t (zt3 _ (List.mem_of_getElem? (i := 205) rfl)) rfl, ztb_t (zt1 _ (List.mem_of_getElem? (i := 15) rfl)) rfl, by decide +kernel, by decide⟩
end
section
theorem lX9_9 : zFL "SmellAbbey" 9 8 0 := ⟨RX9, TX9, 14, zc8, by decide, ztb_t (zt2 _ (List.mem_of_getElem? (i := 169) rfl)) rfl⟩
theorem lX9_16 : zFL "SmellAbbey" 16 8 1 := ⟨RX9, TX9, 14, zc8, by decide, ztb_t (zt2 _ (List.mem_of_getElem? (i := 170) rfl)) rfl⟩
theorem lX9_23 : zFL "SmellAbbey" 23 8 2 := ⟨RX9, TX9, 14, zc8, by decide, ztb_t (zt2 _ (List.mem_of_getElem? (i := 171) rfl)) rfl⟩
theorem lX9_30 : zFL "SmellAbbey" 30 8 3 := ⟨RX9, TX9, 14, zc8, by decide, ztb_t (zt2 _ (List.mem_of_getElem? (i := 172) rfl)) rfl⟩
theorem lX9_37 : zFL "SmellAbbey" 37 8 4 := ⟨RX9, TX9, 14, zc8, by decide, ztb_t (zt2 _ (List.mem_of_getElem? (i := 173) rfl)) rfl⟩
theorem lX9_41 : zFL "SmellAbbey" 41 8 5 := ⟨RX9, TX9, 14, zc8, by decide, ztb_t (zt2 _ (List.mem_of_getElem? (i := 174) rfl)) rfl⟩
theorem lX9_44 : zFL "SmellAbbey" 44 8 6 := ⟨RX9, TX9, 14, zc8, by decide, ztb_t (zt2 _ (List.mem_of_getElem? (i := 175) rfl)) rfl⟩
theorem lX9_50 : zFL "SmellAbbey" 50 8 7 := ⟨RX9, TX9, 14, zc8, by decide, ztb_t (zt2 _ (List.mem_of_getElem? (i := 176) rfl)) rfl⟩
theorem lX9_54 : zFL "SmellAbbey" 54 8 8 := ⟨RX9, TX9, 14, zc8, by decide, ztb_t (zt2 _ (List.mem_of_getElem? (i := 177) rfl)) rfl⟩
theorem lX9_58 : zFL "SmellAbbey" 58 8 9 := ⟨RX9, TX9, 14, zc8, by decide, ztb_t (zt2 _ (List.mem_of_getElem? (i := 178) rfl)) rfl⟩
theorem lX9_61 : zFL "SmellAbbey" 61 8 10 := ⟨RX9, TX9, 14, zc8, by decide, ztb_t (zt2 _ (List.mem_of_getElem? (i := 179) rfl)) rfl⟩
theorem lX9_67 : zFL "SmellAbbey" 67 8 11 := ⟨RX9, TX9, 14, zc8, by decide, ztb_t (zt2 _ (List.mem_of_getElem? (i := 180) rfl)) rfl⟩
theorem lX9_75 : zFL "SmellAbbey" 75 8 12 := ⟨RX9, TX9, 14, zc8, by decide, ztb_t (zt2 _ (List.mem_of_getElem? (i := 181) rfl)) rfl⟩
theorem lX9_103 : zFL "SmellAbbey" 103 8 13 := ⟨RX9, TX9, 14, zc8, by decide, ztb_t (zt2 _ (List.mem_of_getElem? (i := 182) rfl)) rfl⟩
theorem lX9_107 : zFL "SmellAbbey" 107 3 7 := ⟨RX3, TX3, 9, zc3, by decide, ztb_t (zt2 _ (List.mem_of_getElem? (i := 4) rfl)) rfl⟩
theorem lX9_110 : zFL "SmellAbbey" 110 3 8 := ⟨RX3, TX3, 9, zc3, by decide, ztb_t (zt2 _ (List.mem_of_getElem? (i := 6) rfl)) rfl⟩
theorem lX9_128 : zFL "SmellAbbey" 128 5 4 := ⟨RX5, TX5, 15, zc5, by decide, ztb_t (zt2 _ (List.mem_of_getElem? (i := 98) rfl)) rfl⟩
theorem lX9_131 : zFL "SmellAbbey" 131 6 7 := ⟨RX7, TX7, 13, zc6, by decide, ztb_t (zt1 _ (List.mem_of_getElem? (i := 192) rfl)) rfl⟩
theorem lX9_134 : zFL "SmellAbbey" 134 5 5 := ⟨RX5, TX5, 15, zc5, by decide, ztb_t (zt2 _ (List.mem_of_getElem? (i := 101) rfl)) rfl⟩
theorem lX9_137 : zFL "SmellAbbey" 137 5 6 := ⟨RX5, TX5, 15, zc5, by decide, ztb_t (zt2 _ (List.mem_of_getElem? (i := 103) rfl)) rfl⟩
theorem lX9_140 : zFL "SmellAbbey" 140 5 7 := ⟨RX5, TX5, 15, zc5, by decide, ztb_t (zt2 _ (List.mem_of_getElem? (i := 105) rfl)) rfl⟩
theorem lX9_148 : zFL "SmellAbbey" 148 5 0 := ⟨RX5, TX5, 15, zc5, by decide, ztb_t (zt2 _ (List.mem_of_getElem? (i := 88) rfl)) rfl⟩
theorem lX9_155 : zFL "SmellAbbey" 155 5 1 := ⟨RX5, TX5, 15, zc5, by decide, ztb_t (zt2 _ (List.mem_of_getElem? (i := 91) rfl)) rfl⟩
theorem lX9_158 : zFL "SmellAbbey" 158 6 4 := ⟨RX7, TX7, 13, zc6, by decide, ztb_t (zt1 _ (List.mem_of_getElem? (i := 182) rfl)) rfl⟩
theorem lX9_162 : zFL "SmellAbbey" 162 6 3 := ⟨RX7, TX7, 13, zc6, by decide, ztb_t (zt1 _ (List.mem_of_getElem? (i := 179) rfl)) rfl⟩
theorem lX9_166 : zFL "SmellAbbey" 166 5 3 := ⟨RX5, TX5, 15, zc5, by decide, ztb_t (zt2 _ (List.mem_of_getElem? (i := 95) rfl)) rfl⟩
theorem lX9_195 : zFL "SmellAbbey" 195 5 10 := ⟨RX5, TX5, 15, zc5, by decide, ztb_t (zt2 _ (List.mem_of_getElem? (i := 109) rfl)) rfl⟩
theorem lX9_208 : zFL "SmellAbbey" 208 6 0 := ⟨RX7, TX7, 13, zc6, by decide, ztb_t (zt1 _ (List.mem_of_getElem? (i := 171) rfl)) rfl⟩
theorem lX9_220 : zFL "SmellAbbey" 220 5 2 := ⟨RX5, TX5, 15, zc5, by decide, ztb_t (zt2 _ (List.mem_of_getElem? (i := 93) rfl)) rfl⟩
theorem lX9_253 : zFL "SmellAbbey" 253 5 13 := ⟨RX5, TX5, 15, zc5, by decide, ztb_t (zt2 _ (List.mem_of_getElem? (i := 115) rfl)) rfl⟩
theorem lX9_274 : zFL "SmellAbbey" 274 1 6 := ⟨RX1, TX1, 8, zc1, by decide, ztb_t (zt2 _ (List.mem_of_getElem? (i := 39) rfl)) rfl⟩
theorem lX9_277 : zFL "SmellAbbey" 277 1 7 := ⟨RX1, TX1, 8, zc1, by decide, ztb_t (zt2 _ (List.mem_of_getElem? (i := 41) rfl)) rfl⟩
theorem lX9_298 : zFL "SmellAbbey" 298 5 12 := ⟨RX5, TX5, 15, zc5, by decide, ztb_t (zt2 _ (List.mem_of_getElem? (i := 113) rfl)) rfl⟩
theorem lX9_310 : zFL "SmellAbbey" 310 5 14 := ⟨RX5, TX5, 15, zc5, by decide, ztb_t (zt2 _ (List.mem_of_getElem? (i := 117) rfl)) rfl⟩
theorem lX9_318 : zFL "SmellAbbey" 318 6 9 := ⟨RX7, TX7, 13, zc6, by decide, ztb_t (zt1 _ (List.mem_of_getElem? (i := 201) rfl)) rfl⟩
theorem lX9_321 : zFL "SmellAbbey" 321 6 8 := ⟨RX7, TX7, 13, zc6, by decide, ztb_t (zt1 _ (List.mem_of_getElem? (i := 198) rfl)) rfl⟩
theorem lX9_325 : zFL "SmellAbbey" 325 0 8 := ⟨RX0, TX0, 9, zc0, by decide, ztb_t (zt1 _ (List.mem_of_getElem? (i := 146) rfl)) rfl⟩
theorem lX9_330 : zFL "SmellAbbey" 330 5 11 := ⟨RX5, TX5, 15, zc5, by decide, ztb_t (zt2 _ (List.mem_of_getElem? (i := 111) rfl)) rfl⟩
theorem lX9_339 : zFL "SmellAbbey" 339 7 3 := ⟨RX8, TX8, 4, zc7, by decide, ztb_t (zt2 _ (List.mem_of_getElem? (i := 69) rfl)) rfl⟩
theorem lX0_9 : zFL "SmellAbbey$Laws" 9 0 0 := ⟨RX0, TX0, 9, zc0, by decide, ztb_t (zt1 _ (List.mem_of_getElem? (i := 137) rfl)) rfl⟩
theorem lX0_15 : zFL "SmellAbbey$Laws" 15 0 1 := ⟨RX0, TX0, 9, zc0, by decide, ztb_t (zt1 _ (List.mem_of_getElem? (i := 138) rfl)) rfl⟩
theorem lX0_18 : zFL "SmellAbbey$Laws" 18 0 2 := ⟨RX0, TX0, 9, zc0, by decide, ztb_t (zt1 _ (List.mem_of_getElem? (i := 139) rfl)) rfl⟩
theorem lX0_21 : zFL "SmellAbbey$Laws" 21 0 3 := ⟨RX0, TX0, 9, zc0, by decide, ztb_t (zt1 _ (List.mem_of_getElem? (i := 140) rfl)) rfl⟩
theorem lX0_24 : zFL "SmellAbbey$Laws" 24 0 4 := ⟨RX0, TX0, 9, zc0, by decide, ztb_t (zt1 _ (List.mem_of_getElem? (i := 141) rfl)) rfl⟩
theorem lX0_30 : zFL "SmellAbbey$Laws" 30 0 5 := ⟨RX0, TX0, 9, zc0, by decide, ztb_t (zt1 _ (List.mem_of_getElem? (i := 142) rfl)) rfl⟩
theorem lX0_34 : zFL "SmellAbbey$Laws" 34 0 6 := ⟨RX0, TX0, 9, zc0, by decide, ztb_t (zt1 _ (List.mem_of_getElem? (i := 143) rfl)) rfl⟩
theorem lX0_37 : zFL "SmellAbbey$Laws" 37 0 7 := ⟨RX0, TX0, 9, zc0, by decide, ztb_t (zt1 _ (List.mem_of_getElem? (i := 144) rfl)) rfl⟩
theorem lX0_41 : zFL "SmellAbbey$Laws" 41 0 8 := ⟨RX0, TX0, 9, zc0, by decide, ztb_t (zt1 _ (List.mem_of_getElem? (i := 145) rfl)) rfl⟩
theorem lX1_9 : zFL "SmellAbbey$Notes" 9 1 0 := ⟨RX1, TX1, 8, zc1, by decide, ztb_t (zt2 _ (List.mem_of_getElem? (i := 32) rfl)) rfl⟩
theorem lX1_15 : zFL "SmellAbbey$Notes" 15 1 1 := ⟨RX1, TX1, 8, zc1, by decide, ztb_t (zt2 _ (List.mem_of_getElem? (i := 33) rfl)) rfl⟩
theorem lX1_18 : zFL "SmellAbbey$Notes" 18 1 2 := ⟨RX1, TX1, 8, zc1, by decide, ztb_t (zt2 _ (List.mem_of_getElem? (i := 34) rfl)) rfl⟩
theorem lX1_21 : zFL "SmellAbbey$Notes" 21 1 3 := ⟨RX1, TX1, 8, zc1, by decide, ztb_t (zt2 _ (List.mem_of_getElem? (i := 35) rfl)) rfl⟩
theorem lX1_25 : zFL "SmellAbbey$Notes" 25 1 4 := ⟨RX1, TX1, 8, zc1, by decide, ztb_t (zt2 _ (List.mem_of_getElem? (i := 36) rfl)) rfl⟩
theorem lX1_28 : zFL "SmellAbbey$Notes" 28 1 5 := ⟨RX1, TX1, 8, zc1, by decide, ztb_t (zt2 _ (List.mem_of_getElem? (i := 37) rfl)) rfl⟩
theorem lX1_31 : zFL "SmellAbbey$Notes" 31 1 7 := ⟨RX1, TX1, 8, zc1, by decide, ztb_t (zt2 _ (List.mem_of_getElem? (i := 40) rfl)) rfl⟩
theorem lX1_35 : zFL "SmellAbbey$Notes" 35 1 6 := ⟨RX1, TX1, 8, zc1, by decide, ztb_t (zt2 _ (List.mem_of_getElem? (i := 38) rfl)) rfl⟩
theorem lX2_7 : zFL "SmellAbbey$Numbers" 7 2 0 := ⟨RX2, TX2, 1, zc2, by decide, ztb_t (zt2 _ (List.mem_of_getElem? (i := 155) rfl)) rfl⟩
theorem lX3_12 : zFL "SmellAbbey$Reader" 12 3 0 := ⟨RX3, TX3, 9, zc3, by decide, ztb_t (zt1 _ (List.mem_of_getElem? (i := 236) rfl)) rfl⟩
theorem lX3_18 : zFL "SmellAbbey$Reader" 18 3 1 := ⟨RX3, TX3, 9, zc3, by decide, ztb_t (zt1 _ (List.mem_of_getElem? (i := 237) rfl)) rfl⟩
theorem lX3_22 : zFL "SmellAbbey$Reader" 22 3 2 := ⟨RX3, TX3, 9, zc3, by decide, ztb_t (zt1 _ (List.mem_of_getElem? (i := 238) rfl)) rfl⟩
theorem lX3_28 : zFL "SmellAbbey$Reader" 28 3 6 := ⟨RX3, TX3, 9, zc3, by decide, ztb_t (zt2 _ (List.mem_of_getElem? (i := 2) rfl)) rfl⟩
theorem lX3_32 : zFL "SmellAbbey$Reader" 32 3 8 := ⟨RX3, TX3, 9, zc3, by decide, ztb_t (zt2 _ (List.mem_of_getElem? (i := 5) rfl)) rfl⟩
theorem lX3_39 : zFL "SmellAbbey$Reader" 39 3 7 := ⟨RX3, TX3, 9, zc3, by decide, ztb_t (zt2 _ (List.mem_of_getElem? (i := 3) rfl)) rfl⟩
theorem lX3_46 : zFL "SmellAbbey$Reader" 46 4 4 := ⟨RX4, TX4, 8, zc4, by decide, ztb_t (zt1 _ (List.mem_of_getElem? (i := 97) rfl)) rfl⟩
theorem lX3_51 : zFL "SmellAbbey$Reader" 51 4 5 := ⟨RX4, TX4, 8, zc4, by decide, ztb_t (zt1 _ (List.mem_of_getElem? (i := 99) rfl)) rfl⟩
theorem lX3_90 : zFL "SmellAbbey$Reader" 90 6 2 := ⟨RX7, TX7, 13, zc6, by decide, ztb_t (zt1 _ (List.mem_of_getElem? (i := 176) rfl)) rfl⟩
theorem lX3_96 : zFL "SmellAbbey$Reader" 96 6 3 := ⟨RX7, TX7, 13, zc6, by decide, ztb_t (zt1 _ (List.mem_of_getElem? (i := 178) rfl)) rfl⟩
theorem lX3_103 : zFL "SmellAbbey$Reader" 103 6 9 := ⟨RX7, TX7, 13, zc6, by decide, ztb_t (zt1 _ (List.mem_of_getElem? (i := 200) rfl)) rfl⟩
theorem lX3_109 : zFL "SmellAbbey$Reader" 109 6 4 := ⟨RX7, TX7, 13, zc6, by decide, ztb_t (zt1 _ (List.mem_of_getElem? (i := 183) rfl)) rfl⟩
theorem lX3_113 : zFL "SmellAbbey$Reader" 113 6 5 := ⟨RX7, TX7, 13, zc6, by decide, ztb_t (zt1 _ (List.mem_of_getElem? (i := 187) rfl)) rfl⟩
theorem lX3_116 : zFL "SmellAbbey$Reader" 116 6 6 := ⟨RX7, TX7, 13, zc6, by decide, ztb_t (zt1 _ (List.mem_of_getElem? (i := 190) rfl)) rfl⟩
theorem lX3_119 : zFL "SmellAbbey$Reader" 119 6 7 := ⟨RX7, TX7, 13, zc6, by decide, ztb_t (zt1 _ (List.mem_of_getElem? (i := 193) rfl)) rfl⟩
theorem lX3_122 : zFL "SmellAbbey$Reader" 122 6 11 := ⟨RX7, TX7, 13, zc6, by decide, ztb_t (zt1 _ (List.mem_of_getElem? (i := 206) rfl)) rfl⟩
theorem lX3_126 : zFL "SmellAbbey$Reader" 126 6 10 := ⟨RX7, TX7, 13, zc6, by decide, ztb_t (zt1 _ (List.mem_of_getElem? (i := 204) rfl)) rfl⟩
theorem lX3_129 : zFL "SmellAbbey$Reader" 129 6 12 := ⟨RX7, TX7, 13, zc6, by decide, ztb_t (zt1 _ (List.mem_of_getElem? (i := 208) rfl)) rfl⟩
theorem lX3_133 : zFL "SmellAbbey$Reader" 133 6 8 := ⟨RX7, TX7, 13, zc6, by decide, ztb_t (zt1 _ (List.mem_of_getElem? (i := 197) rfl)) rfl⟩
theorem lX3_153 : zFL "SmellAbbey$Reader" 153 6 0 := ⟨RX7, TX7, 13, zc6, by decide, ztb_t (zt1 _ (List.mem_of_getElem? (i := 170) rfl)) rfl⟩
theorem lX3_159 : zFL "SmellAbbey$Reader" 159 4 6 := ⟨RX4, TX4, 8, zc4, by decide, ztb_t (zt1 _ (List.mem_of_getElem? (i := 101) rfl)) rfl⟩
theorem lX3_165 : zFL "SmellAbbey$Reader" 165 6 1 := ⟨RX7, TX7, 13, zc6, by decide, ztb_t (zt1 _ (List.mem_of_getElem? (i := 173) rfl)) rfl⟩
theorem lX3_168 : zFL "SmellAbbey$Reader" 168 4 7 := ⟨RX4, TX4, 8, zc4, by decide, ztb_t (zt1 _ (List.mem_of_getElem? (i := 103) rfl)) rfl⟩
theorem lX3_171 : zFL "SmellAbbey$Reader" 171 3 3 := ⟨RX3, TX3, 9, zc3, by decide, ztb_t (zt1 _ (List.mem_of_getElem? (i := 239) rfl)) rfl⟩
theorem lX3_174 : zFL "SmellAbbey$Reader" 174 3 4 := ⟨RX3, TX3, 9, zc3, by decide, ztb_t (zt2 _ (List.mem_of_getElem? (i := 0) rfl)) rfl⟩
theorem lX3_177 : zFL "SmellAbbey$Reader" 177 3 5 := ⟨RX3, TX3, 9, zc3, by decide, ztb_t (zt2 _ (List.mem_of_getElem? (i := 1) rfl)) rfl⟩
theorem lX4_9 : zFL "SmellAbbey$Scanner" 9 4 0 := ⟨RX4, TX4, 8, zc4, by decide, ztb_t (zt1 _ (List.mem_of_getElem? (i := 92) rfl)) rfl⟩
theorem lX4_15 : zFL "SmellAbbey$Scanner" 15 4 1 := ⟨RX4, TX4, 8, zc4, by decide, ztb_t (zt1 _ (List.mem_of_getElem? (i := 93) rfl)) rfl⟩
theorem lX4_37 : zFL "SmellAbbey$Scanner" 37 4 2 := ⟨RX4, TX4, 8, zc4, by decide, ztb_t (zt1 _ (List.mem_of_getElem? (i := 94) rfl)) rfl⟩
theorem lX4_40 : zFL "SmellAbbey$Scanner" 40 4 3 := ⟨RX4, TX4, 8, zc4, by decide, ztb_t (zt1 _ (List.mem_of_getElem? (i := 95) rfl)) rfl⟩
theorem lX4_46 : zFL "SmellAbbey$Scanner" 46 4 5 := ⟨RX4, TX4, 8, zc4, by decide, ztb_t (zt1 _ (List.mem_of_getElem? (i := 98) rfl)) rfl⟩
theorem lX4_49 : zFL "SmellAbbey$Scanner" 49 4 4 := ⟨RX4, TX4, 8, zc4, by decide, ztb_t (zt1 _ (List.mem_of_getElem? (i := 96) rfl)) rfl⟩
theorem lX4_69 : zFL "SmellAbbey$Scanner" 69 4 6 := ⟨RX4, TX4, 8, zc4, by decide, ztb_t (zt1 _ (List.mem_of_getElem? (i := 100) rfl)) rfl⟩
theorem lX4_72 : zFL "SmellAbbey$Scanner" 72 4 7 := ⟨RX4, TX4, 8, zc4, by decide, ztb_t (zt1 _ (List.mem_of_getElem? (i := 102) rfl)) rfl⟩
theorem lX5_9 : zFL "SmellAbbey$State" 9 5 0 := ⟨RX5, TX5, 15, zc5, by decide, ztb_t (zt2 _ (List.mem_of_getElem? (i := 86) rfl)) rfl⟩
theorem lX5_15 : zFL "SmellAbbey$State" 15 5 1 := ⟨RX5, TX5, 15, zc5, by decide, ztb_t (zt2 _ (List.mem_of_getElem? (i := 89) rfl)) rfl⟩
theorem lX5_18 : zFL "SmellAbbey$State" 18 5 2 := ⟨RX5, TX5, 15, zc5, by decide, ztb_t (zt2 _ (List.mem_of_getElem? (i := 92) rfl)) rfl⟩
theorem lX5_23 : zFL "SmellAbbey$State" 23 5 3 := ⟨RX5, TX5, 15, zc5, by decide, ztb_t (zt2 _ (List.mem_of_getElem? (i := 94) rfl)) rfl⟩
theorem lX5_26 : zFL "SmellAbbey$State" 26 5 4 := ⟨RX5, TX5, 15, zc5, by decide, ztb_t (zt2 _ (List.mem_of_getElem? (i := 96) rfl)) rfl⟩
theorem lX5_29 : zFL "SmellAbbey$State" 29 5 5 := ⟨RX5, TX5, 15, zc5, by decide, ztb_t (zt2 _ (List.mem_of_getElem? (i := 99) rfl)) rfl⟩
theorem lX5_32 : zFL "SmellAbbey$State" 32 5 6 := ⟨RX5, TX5, 15, zc5, by decide, ztb_t (zt2 _ (List.mem_of_getElem? (i := 102) rfl)) rfl⟩
theorem lX5_35 : zFL "SmellAbbey$State" 35 5 7 := ⟨RX5, TX5, 15, zc5, by decide, ztb_t (zt2 _ (List.mem_of_getElem? (i := 104) rfl)) rfl⟩
theorem lX5_38 : zFL "SmellAbbey$State" 38 5 8 := ⟨RX5, TX5, 15, zc5, by decide, ztb_t (zt2 _ (List.mem_of_getElem? (i := 106) rfl)) rfl⟩
theorem lX5_41 : zFL "SmellAbbey$State" 41 5 9 := ⟨RX5, TX5, 15, zc5, by decide, ztb_t (zt2 _ (List.mem_of_getElem? (i := 107) rfl)) rfl⟩
theorem lX5_44 : zFL "SmellAbbey$State" 44 6 2 := ⟨RX7, TX7, 13, zc6, by decide, ztb_t (zt1 _ (List.mem_of_getElem? (i := 175) rfl)) rfl⟩
theorem lX5_47 : zFL "SmellAbbey$State" 47 6 5 := ⟨RX7, TX7, 13, zc6, by decide, ztb_t (zt1 _ (List.mem_of_getElem? (i := 186) rfl)) rfl⟩
theorem lX5_48 : zFL "SmellAbbey$State" 48 6 6 := ⟨RX7, TX7, 13, zc6, by decide, ztb_t (zt1 _ (List.mem_of_getElem? (i := 189) rfl)) rfl⟩
theorem lX5_49 : zFL "SmellAbbey$State" 49 6 0 := ⟨RX7, TX7, 13, zc6, by decide, ztb_t (zt1 _ (List.mem_of_getElem? (i := 169) rfl)) rfl⟩
theorem lX5_55 : zFL "SmellAbbey$State" 55 5 10 := ⟨RX5, TX5, 15, zc5, by decide, ztb_t (zt2 _ (List.mem_of_getElem? (i := 108) rfl)) rfl⟩
theorem lX5_59 : zFL "SmellAbbey$State" 59 5 11 := ⟨RX5, TX5, 15, zc5, by decide, ztb_t (zt2 _ (List.mem_of_getElem? (i := 110) rfl)) rfl⟩
theorem lX5_62 : zFL "SmellAbbey$State" 62 5 12 := ⟨RX5, TX5, 15, zc5, by decide, ztb_t (zt2 _ (List.mem_of_getElem? (i := 112) rfl)) rfl⟩
theorem lX5_65 : zFL "SmellAbbey$State" 65 5 13 := ⟨RX5, TX5, 15, zc5, by decide, ztb_t (zt2 _ (List.mem_of_getElem? (i := 114) rfl)) rfl⟩
theorem lX5_68 : zFL "SmellAbbey$State" 68 5 14 := ⟨RX5, TX5, 15, zc5, by decide, ztb_t (zt2 _ (List.mem_of_getElem? (i := 116) rfl)) rfl⟩
theorem lX5_108 : zFL "SmellAbbey$State" 108 6 10 := ⟨RX7, TX7, 13, zc6, by decide, ztb_t (zt1 _ (List.mem_of_getElem? (i := 203) rfl)) rfl⟩
theorem lX5_129 : zFL "SmellAbbey$State" 129 6 3 := ⟨RX7, TX7, 13, zc6, by decide, ztb_t (zt1 _ (List.mem_of_getElem? (i := 180) rfl)) rfl⟩
theorem lX5_133 : zFL "SmellAbbey$State" 133 6 4 := ⟨RX7, TX7, 13, zc6, by decide, ztb_t (zt1 _ (List.mem_of_getElem? (i := 184) rfl)) rfl⟩
theorem lX5_136 : zFL "SmellAbbey$State" 136 6 8 := ⟨RX7, TX7, 13, zc6, by decide, ztb_t (zt1 _ (List.mem_of_getElem? (i := 196) rfl)) rfl⟩
theorem lX5_150 : zFL "SmellAbbey$State" 150 6 7 := ⟨RX7, TX7, 13, zc6, by decide, ztb_t (zt1 _ (List.mem_of_getElem? (i := 194) rfl)) rfl⟩
theorem lX7_9 : zFL "SmellAbbey$Told" 9 6 0 := ⟨RX7, TX7, 13, zc6, by decide, ztb_t (zt1 _ (List.mem_of_getElem? (i := 168) rfl)) rfl⟩
theorem lX7_17 : zFL "SmellAbbey$Told" 17 6 1 := ⟨RX7, TX7, 13, zc6, by decide, ztb_t (zt1 _ (List.mem_of_getElem? (i := 172) rfl)) rfl⟩
theorem lX7_20 : zFL "SmellAbbey$Told" 20 6 2 := ⟨RX7, TX7, 13, zc6, by decide, ztb_t (zt1 _ (List.mem_of_getElem? (i := 174) rfl)) rfl⟩
theorem lX7_23 : zFL "SmellAbbey$Told" 23 6 3 := ⟨RX7, TX7, 13, zc6, by decide, ztb_t (zt1 _ (List.mem_of_getElem? (i := 177) rfl)) rfl⟩
theorem lX7_27 : zFL "SmellAbbey$Told" 27 6 4 := ⟨RX7, TX7, 13, zc6, by decide, ztb_t (zt1 _ (List.mem_of_getElem? (i := 181) rfl)) rfl⟩
theorem lX7_30 : zFL "SmellAbbey$Told" 30 6 5 := ⟨RX7, TX7, 13, zc6, by decide, ztb_t (zt1 _ (List.mem_of_getElem? (i := 185) rfl)) rfl⟩
theorem lX7_33 : zFL "SmellAbbey$Told" 33 6 6 := ⟨RX7, TX7, 13, zc6, by decide, ztb_t (zt1 _ (List.mem_of_getElem? (i := 188) rfl)) rfl⟩
theorem lX7_36 : zFL "SmellAbbey$Told" 36 6 7 := ⟨RX7, TX7, 13, zc6, by decide, ztb_t (zt1 _ (List.mem_of_getElem? (i := 191) rfl)) rfl⟩
theorem lX7_42 : zFL "SmellAbbey$Told" 42 6 8 := ⟨RX7, TX7, 13, zc6, by decide, ztb_t (zt1 _ (List.mem_of_getElem? (i := 195) rfl)) rfl⟩
theorem lX7_49 : zFL "SmellAbbey$Told" 49 6 9 := ⟨RX7, TX7, 13, zc6, by decide, ztb_t (zt1 _ (List.mem_of_getElem? (i := 199) rfl)) rfl⟩
theorem lX7_53 : zFL "SmellAbbey$Told" 53 6 10 := ⟨RX7, TX7, 13, zc6, by decide, ztb_t (zt1 _ (List.mem_of_getElem? (i := 202) rfl)) rfl⟩
theorem lX7_56 : zFL "SmellAbbey$Told" 56 6 11 := ⟨RX7, TX7, 13, zc6, by decide, ztb_t (zt1 _ (List.mem_of_getElem? (i := 205) rfl)) rfl⟩
theorem lX7_60 : zFL "SmellAbbey$Told" 60 6 12 := ⟨RX7, TX7, 13, zc6, by decide, ztb_t (zt1 _ (List.mem_of_getElem? (i := 207) rfl)) rfl⟩
theorem lX8_9 : zFL "SmellAbbey$Undoing" 9 7 0 := ⟨RX8, TX8, 4, zc7, by decide, ztb_t (zt2 _ (List.mem_of_getElem? (i := 65) rfl)) rfl⟩
theorem lX8_15 : zFL "SmellAbbey$Undoing" 15 7 1 := ⟨RX8, TX8, 4, zc7, by decide, ztb_t (zt2 _ (List.mem_of_getElem? (i := 66) rfl)) rfl⟩
theorem lX8_18 : zFL "SmellAbbey$Undoing" 18 7 2 := ⟨RX8, TX8, 4, zc7, by decide, ztb_t (zt2 _ (List.mem_of_getElem? (i := 67) rfl)) rfl⟩
theorem lX8_21 : zFL "SmellAbbey$Undoing" 21 7 3 := ⟨RX8, TX8, 4, zc7, by decide, ztb_t (zt2 _ (List.mem_of_getElem? (i := 68) rfl)) rfl⟩
theorem lX8_28 : zFL "SmellAbbey$Undoing" 28 5 5 := ⟨RX5, TX5, 15, zc5, by decide, ztb_t (zt2 _ (List.mem_of_getElem? (i := 100) rfl)) rfl⟩
theorem lX8_33 : zFL "SmellAbbey$Undoing" 33 5 1 := ⟨RX5, TX5, 15, zc5, by decide, ztb_t (zt2 _ (List.mem_of_getElem? (i := 90) rfl)) rfl⟩
theorem lX8_36 : zFL "SmellAbbey$Undoing" 36 5 0 := ⟨RX5, TX5, 15, zc5, by decide, ztb_t (zt2 _ (List.mem_of_getElem? (i := 87) rfl)) rfl⟩
theorem lX8_39 : zFL "SmellAbbey$Undoing" 39 5 4 := ⟨RX5, TX5, 15, zc5, by decide, ztb_t (zt2 _ (List.mem_of_getElem? (i := 97) rfl)) rfl⟩
theorem lX10_7 : zFL "SmellAbbeyModel" 7 9 1 := ⟨RX10, TX10, 68, zc9, by decide, ztb_t (zt5 _ (List.mem_of_getElem? (i := 148) rfl)) rfl⟩
theorem lX10_13 : zFL "SmellAbbeyModel" 13 9 3 := ⟨RX10, TX10, 68, zc9, by decide, ztb_t (zt5 _ (List.mem_of_getElem? (i := 150) rfl)) rfl⟩
theorem lX10_16 : zFL "SmellAbbeyModel" 16 9 4 := ⟨RX10, TX10, 68, zc9, by decide, ztb_t (zt5 _ (List.mem_of_getElem? (i := 151) rfl)) rfl⟩
theorem lX10_19 : zFL "SmellAbbeyModel" 19 9 5 := ⟨RX10, TX10, 68, zc9, by decide, ztb_t (zt5 _ (List.mem_of_getElem? (i := 152) rfl)) rfl⟩
theorem lX10_22 : zFL "SmellAbbeyModel" 22 9 6 := ⟨RX10, TX10, 68, zc9, by decide, ztb_t (zt5 _ (List.mem_of_getElem? (i := 153) rfl)) rfl⟩
theorem lX10_25 : zFL "SmellAbbeyModel" 25 9 7 := ⟨RX10, TX10, 68, zc9, by decide, ztb_t (zt5 _ (List.mem_of_getElem? (i := 154) rfl)) rfl⟩
theorem lX10_28 : zFL "SmellAbbeyModel" 28 9 8 := ⟨RX10, TX10, 68, zc9, by decide, ztb_t (zt5 _ (List.mem_of_getElem? (i := 155) rfl)) rfl⟩
theorem lX10_31 : zFL "SmellAbbeyModel" 31 9 9 := ⟨RX10, TX10, 68, zc9, by decide, ztb_t (zt5 _ (List.mem_of_getElem? (i := 156) rfl)) rfl⟩
theorem lX10_34 : zFL "SmellAbbeyModel" 34 9 10 := ⟨RX10, TX10, 68, zc9, by decide, ztb_t (zt5 _ (List.mem_of_getElem? (i := 157) rfl)) rfl⟩
theorem lX10_37 : zFL "SmellAbbeyModel" 37 9 11 := ⟨RX10, TX10, 68, zc9, by decide, ztb_t (zt5 _ (List.mem_of_getElem? (i := 158) rfl)) rfl⟩
theorem lX10_40 : zFL "SmellAbbeyModel" 40 9 12 := ⟨RX10, TX10, 68, zc9, by decide, ztb_t (zt5 _ (List.mem_of_getElem? (i := 159) rfl)) rfl⟩
theorem lX10_43 : zFL "SmellAbbeyModel" 43 9 13 := ⟨RX10, TX10, 68, zc9, by decide, ztb_t (zt5 _ (List.mem_of_getElem? (i := 160) rfl)) rfl⟩
theorem lX10_46 : zFL "SmellAbbeyModel" 46 9 14 := ⟨RX10, TX10, 68, zc9, by decide, ztb_t (zt5 _ (List.mem_of_getElem? (i := 161) rfl)) rfl⟩
theorem lX10_49 : zFL "SmellAbbeyModel" 49 9 15 := ⟨RX10, TX10, 68, zc9, by decide, ztb_t (zt5 _ (List.mem_of_getElem? (i := 162) rfl)) rfl⟩
theorem lX10_52 : zFL "SmellAbbeyModel" 52 9 16 := ⟨RX10, TX10, 68, zc9, by decide, ztb_t (zt5 _ (List.mem_of_getElem? (i := 163) rfl)) rfl⟩
theorem lX10_55 : zFL "SmellAbbeyModel" 55 9 17 := ⟨RX10, TX10, 68, zc9, by decide, ztb_t (zt5 _ (List.mem_of_getElem? (i := 164) rfl)) rfl⟩
theorem lX10_58 : zFL "SmellAbbeyModel" 58 9 28 := ⟨RX10, TX10, 68, zc9, by decide, ztb_t (zt5 _ (List.mem_of_getElem? (i := 175) rfl)) rfl⟩
theorem lX10_62 : zFL "SmellAbbeyModel" 62 9 31 := ⟨RX10, TX10, 68, zc9, by decide, ztb_t (zt5 _ (List.mem_of_getElem? (i := 178) rfl)) rfl⟩
theorem lX10_66 : zFL "SmellAbbeyModel" 66 9 32 := ⟨RX10, TX10, 68, zc9, by decide, ztb_t (zt5 _ (List.mem_of_getElem? (i := 179) rfl)) rfl⟩
theorem lX10_69 : zFL "SmellAbbeyModel" 69 9 34 := ⟨RX10, TX10, 68, zc9, by decide, ztb_t (zt5 _ (List.mem_of_getElem? (i := 181) rfl)) rfl⟩
theorem lX10_72 : zFL "SmellAbbeyModel" 72 9 35 := ⟨RX10, TX10, 68, zc9, by decide, ztb_t (zt5 _ (List.mem_of_getElem? (i := 182) rfl)) rfl⟩
theorem lX10_75 : zFL "SmellAbbeyModel" 75 9 36 := ⟨RX10, TX10, 68, zc9, by decide, ztb_t (zt5 _ (List.mem_of_getElem? (i := 183) rfl)) rfl⟩
theorem lX10_78 : zFL "SmellAbbeyModel" 78 9 37 := ⟨RX10, TX10, 68, zc9, by decide, ztb_t (zt5 _ (List.mem_of_getElem? (i := 184) rfl)) rfl⟩
theorem lX10_81 : zFL "SmellAbbeyModel" 81 9 38 := ⟨RX10, TX10, 68, zc9, by decide, ztb_t (zt5 _ (List.mem_of_getElem? (i := 185) rfl)) rfl⟩
theorem lX10_84 : zFL "SmellAbbeyModel" 84 9 39 := ⟨RX10, TX10, 68, zc9, by decide, ztb_t (zt5 _ (List.mem_of_getElem? (i := 186) rfl)) rfl⟩
theorem lX10_87 : zFL "SmellAbbeyModel" 87 9 40 := ⟨RX10, TX10, 68, zc9, by decide, ztb_t (zt5 _ (List.mem_of_getElem? (i := 187) rfl)) rfl⟩
theorem lX10_90 : zFL "SmellAbbeyModel" 90 9 41 := ⟨RX10, TX10, 68, zc9, by decide, ztb_t (zt5 _ (List.mem_of_getElem? (i := 188) rfl)) rfl⟩
theorem lX10_93 : zFL "SmellAbbeyModel" 93 9 42 := ⟨RX10, TX10, 68, zc9, by decide, ztb_t (zt5 _ (List.mem_of_getElem? (i := 189) rfl)) rfl⟩
theorem lX10_96 : zFL "SmellAbbeyModel" 96 9 43 := ⟨RX10, TX10, 68, zc9, by decide, ztb_t (zt5 _ (List.mem_of_getElem? (i := 190) rfl)) rfl⟩
theorem lX10_99 : zFL "SmellAbbeyModel" 99 9 44 := ⟨RX10, TX10, 68, zc9, by decide, ztb_t (zt5 _ (List.mem_of_getElem? (i := 191) rfl)) rfl⟩
theorem lX10_102 : zFL "SmellAbbeyModel" 102 9 45 := ⟨RX10, TX10, 68, zc9, by decide, ztb_t (zt5 _ (List.mem_of_getElem? (i := 192) rfl)) rfl⟩
theorem lX10_105 : zFL "SmellAbbeyModel" 105 9 49 := ⟨RX10, TX10, 68, zc9, by decide, ztb_t (zt5 _ (List.mem_of_getElem? (i := 196) rfl)) rfl⟩
theorem lX10_108 : zFL "SmellAbbeyModel" 108 9 50 := ⟨RX10, TX10, 68, zc9, by decide, ztb_t (zt5 _ (List.mem_of_getElem? (i := 197) rfl)) rfl⟩
theorem lX10_111 : zFL "SmellAbbeyModel" 111 9 51 := ⟨RX10, TX10, 68, zc9, by decide, ztb_t (zt5 _ (List.mem_of_getElem? (i := 198) rfl)) rfl⟩
theorem lX10_114 : zFL "SmellAbbeyModel" 114 9 52 := ⟨RX10, TX10, 68, zc9, by decide, ztb_t (zt5 _ (List.mem_of_getElem? (i := 199) rfl)) rfl⟩
theorem lX10_117 : zFL "SmellAbbeyModel" 117 9 53 := ⟨RX10, TX10, 68, zc9, by decide, ztb_t (zt5 _ (List.mem_of_getElem? (i := 200) rfl)) rfl⟩
theorem lX10_120 : zFL "SmellAbbeyModel" 120 9 55 := ⟨RX10, TX10, 68, zc9, by decide, ztb_t (zt5 _ (List.mem_of_getElem? (i := 202) rfl)) rfl⟩
theorem lX10_123 : zFL "SmellAbbeyModel" 123 9 56 := ⟨RX10, TX10, 68, zc9, by decide, ztb_t (zt5 _ (List.mem_of_getElem? (i := 203) rfl)) rfl⟩
theorem lX10_126 : zFL "SmellAbbeyModel" 126 9 57 := ⟨RX10, TX10, 68, zc9, by decide, ztb_t (zt5 _ (List.mem_of_getElem? (i := 204) rfl)) rfl⟩
theorem lX10_129 : zFL "SmellAbbeyModel" 129 9 58 := ⟨RX10, TX10, 68, zc9, by decide, ztb_t (zt5 _ (List.mem_of_getElem? (i := 205) rfl)) rfl⟩
theorem lX10_132 : zFL "SmellAbbeyModel" 132 9 59 := ⟨RX10, TX10, 68, zc9, by decide, ztb_t (zt5 _ (List.mem_of_getElem? (i := 206) rfl)) rfl⟩
theorem lX10_135 : zFL "SmellAbbeyModel" 135 9 61 := ⟨RX10, TX10, 68, zc9, by decide, ztb_t (zt5 _ (List.mem_of_getElem? (i := 208) rfl)) rfl⟩
theorem lX10_138 : zFL "SmellAbbeyModel" 138 9 62 := ⟨RX10, TX10, 68, zc9, by decide, ztb_t (zt5 _ (List.mem_of_getElem? (i := 209) rfl)) rfl⟩
theorem lX10_141 : zFL "SmellAbbeyModel" 141 9 63 := ⟨RX10, TX10, 68, zc9, by decide, ztb_t (zt5 _ (List.mem_of_getElem? (i := 210) rfl)) rfl⟩
theorem lX10_144 : zFL "SmellAbbeyModel" 144 9 64 := ⟨RX10, TX10, 68, zc9, by decide, ztb_t (zt5 _ (List.mem_of_getElem? (i := 211) rfl)) rfl⟩
theorem lX10_147 : zFL "SmellAbbeyModel" 147 9 65 := ⟨RX10, TX10, 68, zc9, by decide, ztb_t (zt5 _ (List.mem_of_getElem? (i := 212) rfl)) rfl⟩
theorem lX10_151 : zFL "SmellAbbeyModel" 151 9 66 := ⟨RX10, TX10, 68, zc9, by decide, ztb_t (zt5 _ (List.mem_of_getElem? (i := 213) rfl)) rfl⟩
theorem lX10_154 : zFL "SmellAbbeyModel" 154 9 67 := ⟨RX10, TX10, 68, zc9, by decide, ztb_t (zt5 _ (List.mem_of_getElem? (i := 214) rfl)) rfl⟩
theorem lX10_160 : zFL "SmellAbbeyModel" 160 9 0 := ⟨RX10, TX10, 68, zc9, by decide, ztb_t (zt5 _ (List.mem_of_getElem? (i := 147) rfl)) rfl⟩
theorem lX10_163 : zFL "SmellAbbeyModel" 163 9 2 := ⟨RX10, TX10, 68, zc9, by decide, ztb_t (zt5 _ (List.mem_of_getElem? (i := 149) rfl)) rfl⟩
theorem lX10_166 : zFL "SmellAbbeyModel" 166 9 21 := ⟨RX10, TX10, 68, zc9, by decide, ztb_t (zt5 _ (List.mem_of_getElem? (i := 168) rfl)) rfl⟩
theorem lX10_169 : zFL "SmellAbbeyModel" 169 9 20 := ⟨RX10, TX10, 68, zc9, by decide, ztb_t (zt5 _ (List.mem_of_getElem? (i := 167) rfl)) rfl⟩
theorem lX10_176 : zFL "SmellAbbeyModel" 176 9 22 := ⟨RX10, TX10, 68, zc9, by decide, ztb_t (zt5 _ (List.mem_of_getElem? (i := 169) rfl)) rfl⟩
theorem lX10_179 : zFL "SmellAbbeyModel" 179 9 23 := ⟨RX10, TX10, 68, zc9, by decide, ztb_t (zt5 _ (List.mem_of_getElem? (i := 170) rfl)) rfl⟩
theorem lX10_189 : zFL "SmellAbbeyModel" 189 9 24 := ⟨RX10, TX10, 68, zc9, by decide, ztb_t (zt5 _ (List.mem_of_getElem? (i := 171) rfl)) rfl⟩
theorem lX10_214 : zFL "SmellAbbeyModel" 214 9 25 := ⟨RX10, TX10, 68, zc9, by decide, ztb_t (zt5 _ (List.mem_of_getElem? (i := 172) rfl)) rfl⟩
theorem lX10_217 : zFL "SmellAbbeyModel" 217 9 26 := ⟨RX10, TX10, 68, zc9, by decide, ztb_t (zt5 _ (List.mem_of_getElem? (i := 173) rfl)) rfl⟩
theorem lX10_237 : zFL "SmellAbbeyModel" 237 9 18 := ⟨RX10, TX10, 68, zc9, by decide, ztb_t (zt5 _ (List.mem_of_getElem? (i := 165) rfl)) rfl⟩
theorem lX10_270 : zFL "SmellAbbeyModel" 270 9 19 := ⟨RX10, TX10, 68, zc9, by decide, ztb_t (zt5 _ (List.mem_of_getElem? (i := 166) rfl)) rfl⟩
theorem lX10_279 : zFL "SmellAbbeyModel" 279 9 30 := ⟨RX10, TX10, 68, zc9, by decide, ztb_t (zt5 _ (List.mem_of_getElem? (i := 177) rfl)) rfl⟩
theorem lX10_303 : zFL "SmellAbbeyModel" 303 9 29 := ⟨RX10, TX10, 68, zc9, by decide, ztb_t (zt5 _ (List.mem_of_getElem? (i := 176) rfl)) rfl⟩
theorem lX10_309 : zFL "SmellAbbeyModel" 309 9 27 := ⟨RX10, TX10, 68, zc9, by decide, ztb_t (zt5 _ (List.mem_of_getElem? (i := 174) rfl)) rfl⟩
theorem lX10_316 : zFL "SmellAbbeyModel" 316 9 60 := ⟨RX10, TX10, 68, zc9, by decide, ztb_t (zt5 _ (List.mem_of_getElem? (i := 207) rfl)) rfl⟩
theorem lX10_319 : zFL "SmellAbbeyModel" 319 9 46 := ⟨RX10, TX10, 68, zc9, by decide, ztb_t (zt5 _ (List.mem_of_getElem? (i := 193) rfl)) rfl⟩
theorem lX10_323 : zFL "SmellAbbeyModel" 323 9 47 := ⟨RX10, TX10, 68, zc9, by decide, ztb_t (zt5 _ (List.mem_of_getElem? (i := 194) rfl)) rfl⟩
theorem lX10_326 : zFL "SmellAbbeyModel" 326 9 33 := ⟨RX10, TX10, 68, zc9, by decide, ztb_t (zt5 _ (List.mem_of_getElem? (i := 180) rfl)) rfl⟩
theorem lX10_349 : zFL "SmellAbbeyModel" 349 9 48 := ⟨RX10, TX10, 68, zc9, by decide, ztb_t (zt5 _ (List.mem_of_getElem? (i := 195) rfl)) rfl⟩
theorem lX10_352 : zFL "SmellAbbeyModel" 352 9 54 := ⟨RX10, TX10, 68, zc9, by decide, ztb_t (zt5 _ (List.mem_of_getElem? (i := 201) rfl)) rfl⟩
theorem zsel {q : MethodName × Nat} (h : q ∈ lw_privs) (hg : goodWord (Cond.selects q.1.cls q.1 q.1) = true) : Cond.selects q.1.cls q.1 q.1 ∈ ztb := ztb_in (List.mem_append_left _ (List.mem_map.mpr ⟨q, h, rfl⟩)) hg
theorem sX5_begin : Cond.selects yX5_begin.cls yX5_begin yX5_begin ∈ ztb := ztb_t (zt2 _ (List.mem_of_getElem? (i := 163) rfl)) rfl
theorem gX9_71 : Cond.methodLink "SmellAbbey" 71 yX5_begin ∈ ztb ∧ Cond.instanceMethod yX5_begin ∈ ztb ∧ Cond.selects yX5_begin.cls yX5_begin yX5_begin ∈ ztb := ⟨ztb_t (zt2 _ (List.mem_of_getElem? (i := 161) rfl)) rfl, ztb_t (zt2 _ (List.mem_of_getElem? (i := 162) rfl)) rfl, sX5_begin⟩
theorem sX9_tapeNumber : Cond.selects yX9_tapeNumber.cls yX9_tapeNumber yX9_tapeNumber ∈ ztb := zsel (q := (yX9_tapeNumber, 14)) (List.mem_of_getElem? (i := 0) rfl) rfl
theorem gX9_79 : Cond.methodLink "SmellAbbey" 79 yX9_tapeNumber ∈ ztb ∧ Cond.instanceMethod yX9_tapeNumber ∈ ztb ∧ Cond.selects yX9_tapeNumber.cls yX9_tapeNumber yX9_tapeNumber ∈ ztb := ⟨ztb_t (zt2 _ (List.mem_of_getElem? (i := 216) rfl)) rfl, ztb_t (zt2 _ (List.mem_of_getElem? (i := 218) rfl)) rfl, sX9_tapeNumber⟩
theorem sX3_open : Cond.selects yX3_open.cls yX3_open yX3_open ∈ ztb := ztb_t (zt2 _ (List.mem_of_getElem? (i := 226) rfl)) rfl
theorem gX9_83 : Cond.methodLink "SmellAbbey" 83 yX3_open ∈ ztb ∧ Cond.instanceMethod yX3_open ∈ ztb ∧ Cond.selects yX3_open.cls yX3_open yX3_open ∈ ztb := ⟨ztb_t (zt2 _ (List.mem_of_getElem? (i := 224) rfl)) rfl, ztb_t (zt2 _ (List.mem_of_getElem? (i := 225) rfl)) rfl, sX3_open⟩
theorem sX3_hasMore : Cond.selects yX3_hasMore.cls yX3_hasMore yX3_hasMore ∈ ztb := ztb_t (zt3 _ (List.mem_of_getElem? (i := 32) rfl)) rfl
theorem gX9_87 : Cond.methodLink "SmellAbbey" 87 yX3_hasMore ∈ ztb ∧ Cond.instanceMethod yX3_hasMore ∈ ztb ∧ Cond.selects yX3_hasMore.cls yX3_hasMore yX3_hasMore ∈ ztb := ⟨ztb_t (zt3 _ (List.mem_of_getElem? (i := 30) rfl)) rfl, ztb_t (zt3 _ (List.mem_of_getElem? (i := 31) rfl)) rfl, sX3_hasMore⟩
theorem sX3_readLine : Cond.selects yX3_readLine.cls yX3_readLine yX3_readLine ∈ ztb := ztb_t (zt3 _ (List.mem_of_getElem? (i := 36) rfl)) rfl
theorem gX9_91 : Cond.methodLink "SmellAbbey" 91 yX3_readLine ∈ ztb ∧ Cond.instanceMethod yX3_readLine ∈ ztb ∧ Cond.selects yX3_readLine.cls yX3_readLine yX3_readLine ∈ ztb := ⟨ztb_t (zt3 _ (List.mem_of_getElem? (i := 34) rfl)) rfl, ztb_t (zt3 _ (List.mem_of_getElem? (i := 35) rfl)) rfl, sX3_readLine⟩
theorem sX3_exchange : Cond.selects yX3_exchange.cls yX3_exchange yX3_exchange ∈ ztb := ztb_t (zt3 _ (List.mem_of_getElem? (i := 147) rfl)) rfl
theorem gX9_95 : Cond.methodLink "SmellAbbey" 95 yX3_exchange ∈ ztb ∧ Cond.instanceMethod yX3_exchange ∈ ztb ∧ Cond.selects yX3_exchange.cls yX3_exchange yX3_exchange ∈ ztb := ⟨ztb_t (zt3 _ (List.mem_of_getElem? (i := 145) rfl)) rfl, ztb_t (zt3 _ (List.mem_of_getElem? (i := 146) rfl)) rfl, sX3_exchange⟩
theorem sX1_clear : Cond.selects yX1_clear.cls yX1_clear yX1_clear ∈ ztb := ztb_t (zt3 _ (List.mem_of_getElem? (i := 151) rfl)) rfl
theorem gX9_99 : Cond.methodLink "SmellAbbey" 99 yX1_clear ∈ ztb ∧ Cond.instanceMethod yX1_clear ∈ ztb ∧ Cond.selects yX1_clear.cls yX1_clear yX1_clear ∈ ztb := ⟨ztb_t (zt3 _ (List.mem_of_getElem? (i := 149) rfl)) rfl, ztb_t (zt3 _ (List.mem_of_getElem? (i := 150) rfl)) rfl, sX1_clear⟩
theorem sX8_clear : Cond.selects yX8_clear.cls yX8_clear yX8_clear ∈ ztb := ztb_t (zt3 _ (List.mem_of_getElem? (i := 155) rfl)) rfl
theorem gX9_102 : Cond.methodLink "SmellAbbey" 102 yX8_clear ∈ ztb ∧ Cond.instanceMethod yX8_clear ∈ ztb ∧ Cond.selects yX8_clear.cls yX8_clear yX8_clear ∈ ztb := ⟨ztb_t (zt3 _ (List.mem_of_getElem? (i := 153) rfl)) rfl, ztb_t (zt3 _ (List.mem_of_getElem? (i := 154) rfl)) rfl, sX8_clear⟩
theorem sX7_numberOf : Cond.selects yX7_numberOf.cls yX7_numberOf yX7_numberOf ∈ ztb := ztb_t (zt3 _ (List.mem_of_getElem? (i := 55) rfl)) rfl
theorem gX9_113 : Cond.methodLink "SmellAbbey" 113 yX7_numberOf ∈ ztb ∧ Cond.instanceMethod yX7_numberOf ∈ ztb ∧ Cond.selects yX7_numberOf.cls yX7_numberOf yX7_numberOf ∈ ztb := ⟨ztb_t (zt3 _ (List.mem_of_getElem? (i := 165) rfl)) rfl, ztb_t (zt3 _ (List.mem_of_getElem? (i := 54) rfl)) rfl, sX7_numberOf⟩
theorem sX9_has : Cond.selects yX9_has.cls yX9_has yX9_has ∈ ztb := zsel (q := (yX9_has, 14)) (List.mem_of_getElem? (i := 24) rfl) rfl
theorem gX9_117 : Cond.methodLink "SmellAbbey" 117 yX9_has ∈ ztb ∧ Cond.instanceMethod yX9_has ∈ ztb ∧ Cond.selects yX9_has.cls yX9_has yX9_has ∈ ztb := ⟨ztb_t (zt3 _ (List.mem_of_getElem? (i := 170) rfl)) rfl, ztb_t (zt3 _ (List.mem_of_getElem? (i := 172) rfl)) rfl, sX9_has⟩
theorem sX5_worthOf : Cond.selects yX5_worthOf.cls yX5_worthOf yX5_worthOf ∈ ztb := ztb_t (zt3 _ (List.mem_of_getElem? (i := 176) rfl)) rfl
theorem gX9_151 : Cond.methodLink "SmellAbbey" 151 yX5_worthOf ∈ ztb ∧ Cond.instanceMethod yX5_worthOf ∈ ztb ∧ Cond.selects yX5_worthOf.cls yX5_worthOf yX5_worthOf ∈ ztb := ⟨ztb_t (zt3 _ (List.mem_of_getElem? (i := 174) rfl)) rfl, ztb_t (zt3 _ (List.mem_of_getElem? (i := 175) rfl)) rfl, sX5_worthOf⟩
theorem sX9_keenNow : Cond.selects yX9_keenNow.cls yX9_keenNow yX9_keenNow ∈ ztb := zsel (q := (yX9_keenNow, 14)) (List.mem_of_getElem? (i := 25) rfl) rfl
theorem gX9_169 : Cond.methodLink "SmellAbbey" 169 yX9_keenNow ∈ ztb ∧ Cond.instanceMethod yX9_keenNow ∈ ztb ∧ Cond.selects yX9_keenNow.cls yX9_keenNow yX9_keenNow ∈ ztb := ⟨ztb_t (zt3 _ (List.mem_of_getElem? (i := 225) rfl)) rfl, ztb_t (zt3 _ (List.mem_of_getElem? (i := 227) rfl)) rfl, sX9_keenNow⟩
theorem sX5_markOf : Cond.selects yX5_markOf.cls yX5_markOf yX5_markOf ∈ ztb := ztb_t (zt3 _ (List.mem_of_getElem? (i := 239) rfl)) rfl
theorem gX9_173 : Cond.methodLink "SmellAbbey" 173 yX5_markOf ∈ ztb ∧ Cond.instanceMethod yX5_markOf ∈ ztb ∧ Cond.selects yX5_markOf.cls yX5_markOf yX5_markOf ∈ ztb := ⟨ztb_t (zt3 _ (List.mem_of_getElem? (i := 237) rfl)) rfl, ztb_t (zt3 _ (List.mem_of_getElem? (i := 238) rfl)) rfl, sX5_markOf⟩
theorem sX5_airLaw : Cond.selects yX5_airLaw.cls yX5_airLaw yX5_airLaw ∈ ztb := ztb_t (zt4 _ (List.mem_of_getElem? (i := 11) rfl)) rfl
theorem gX9_177 : Cond.methodLink "SmellAbbey" 177 yX5_airLaw ∈ ztb ∧ Cond.instanceMethod yX5_airLaw ∈ ztb ∧ Cond.selects yX5_airLaw.cls yX5_airLaw yX5_airLaw ∈ ztb := ⟨ztb_t (zt4 _ (List.mem_of_getElem? (i := 9) rfl)) rfl, ztb_t (zt4 _ (List.mem_of_getElem? (i := 10) rfl)) rfl, sX5_airLaw⟩
theorem sX5_keenLaw : Cond.selects yX5_keenLaw.cls yX5_keenLaw yX5_keenLaw ∈ ztb := ztb_t (zt3 _ (List.mem_of_getElem? (i := 235) rfl)) rfl
theorem gX9_183 : Cond.methodLink "SmellAbbey" 183 yX5_keenLaw ∈ ztb ∧ Cond.instanceMethod yX5_keenLaw ∈ ztb ∧ Cond.selects yX5_keenLaw.cls yX5_keenLaw yX5_keenLaw ∈ ztb := ⟨ztb_t (zt4 _ (List.mem_of_getElem? (i := 14) rfl)) rfl, ztb_t (zt3 _ (List.mem_of_getElem? (i := 234) rfl)) rfl, sX5_keenLaw⟩
theorem sX5_worthLaw : Cond.selects yX5_worthLaw.cls yX5_worthLaw yX5_worthLaw ∈ ztb := ztb_t (zt3 _ (List.mem_of_getElem? (i := 180) rfl)) rfl
theorem gX9_187 : Cond.methodLink "SmellAbbey" 187 yX5_worthLaw ∈ ztb ∧ Cond.instanceMethod yX5_worthLaw ∈ ztb ∧ Cond.selects yX5_worthLaw.cls yX5_worthLaw yX5_worthLaw ∈ ztb := ⟨ztb_t (zt4 _ (List.mem_of_getElem? (i := 15) rfl)) rfl, ztb_t (zt3 _ (List.mem_of_getElem? (i := 179) rfl)) rfl, sX5_worthLaw⟩
theorem sX8_add : Cond.selects yX8_add.cls yX8_add yX8_add ∈ ztb := ztb_t (zt4 _ (List.mem_of_getElem? (i := 22) rfl)) rfl
theorem gX9_191 : Cond.methodLink "SmellAbbey" 191 yX8_add ∈ ztb ∧ Cond.instanceMethod yX8_add ∈ ztb ∧ Cond.selects yX8_add.cls yX8_add yX8_add ∈ ztb := ⟨ztb_t (zt4 _ (List.mem_of_getElem? (i := 20) rfl)) rfl, ztb_t (zt4 _ (List.mem_of_getElem? (i := 21) rfl)) rfl, sX8_add⟩
theorem sX5_goThroughMorning : Cond.selects yX5_goThroughMorning.cls yX5_goThroughMorning yX5_goThroughMorning ∈ ztb := ztb_t (zt4 _ (List.mem_of_getElem? (i := 46) rfl)) rfl
theorem gX9_198 : Cond.methodLink "SmellAbbey" 198 yX5_goThroughMorning ∈ ztb ∧ Cond.instanceMethod yX5_goThroughMorning ∈ ztb ∧ Cond.selects yX5_goThroughMorning.cls yX5_goThroughMorning yX5_goThroughMorning ∈ ztb := ⟨ztb_t (zt4 _ (List.mem_of_getElem? (i := 44) rfl)) rfl, ztb_t (zt4 _ (List.mem_of_getElem? (i := 45) rfl)) rfl, sX5_goThroughMorning⟩
theorem sX9_markDays : Cond.selects yX9_markDays.cls yX9_markDays yX9_markDays ∈ ztb := zsel (q := (yX9_markDays, 14)) (List.mem_of_getElem? (i := 31) rfl) rfl
theorem gX9_201 : Cond.methodLink "SmellAbbey" 201 yX9_markDays ∈ ztb ∧ Cond.instanceMethod yX9_markDays ∈ ztb ∧ Cond.selects yX9_markDays.cls yX9_markDays yX9_markDays ∈ ztb := ⟨ztb_t (zt4 _ (List.mem_of_getElem? (i := 80) rfl)) rfl, ztb_t (zt4 _ (List.mem_of_getElem? (i := 82) rfl)) rfl, sX9_markDays⟩
theorem sX9_alikePairs : Cond.selects yX9_alikePairs.cls yX9_alikePairs yX9_alikePairs ∈ ztb := zsel (q := (yX9_alikePairs, 14)) (List.mem_of_getElem? (i := 32) rfl) rfl
theorem gX9_205 : Cond.methodLink "SmellAbbey" 205 yX9_alikePairs ∈ ztb ∧ Cond.instanceMethod yX9_alikePairs ∈ ztb ∧ Cond.selects yX9_alikePairs.cls yX9_alikePairs yX9_alikePairs ∈ ztb := ⟨ztb_t (zt4 _ (List.mem_of_getElem? (i := 85) rfl)) rfl, ztb_t (zt4 _ (List.mem_of_getElem? (i := 87) rfl)) rfl, sX9_alikePairs⟩
theorem gX9_211 : Cond.methodLink "SmellAbbey" 211 yJ9_max_7cf53 ∈ ztb ∧ Cond.static yJ9_max_7cf53 ∈ ztb := ⟨ztb_t (zt4 _ (List.mem_of_getElem? (i := 97) rfl)) rfl, ztb_t (zt4 _ (List.mem_of_getElem? (i := 98) rfl)) rfl⟩
theorem sX9_moreThatIsSmelled : Cond.selects yX9_moreThatIsSmelled.cls yX9_moreThatIsSmelled yX9_moreThatIsSmelled ∈ ztb := zsel (q := (yX9_moreThatIsSmelled, 14)) (List.mem_of_getElem? (i := 33) rfl) rfl
theorem gX9_216 : Cond.methodLink "SmellAbbey" 216 yX9_moreThatIsSmelled ∈ ztb ∧ Cond.instanceMethod yX9_moreThatIsSmelled ∈ ztb ∧ Cond.selects yX9_moreThatIsSmelled.cls yX9_moreThatIsSmelled yX9_moreThatIsSmelled ∈ ztb := ⟨ztb_t (zt4 _ (List.mem_of_getElem? (i := 100) rfl)) rfl, ztb_t (zt4 _ (List.mem_of_getElem? (i := 102) rfl)) rfl, sX9_moreThatIsSmelled⟩
theorem sX9_unlikeMarks : Cond.selects yX9_unlikeMarks.cls yX9_unlikeMarks yX9_unlikeMarks ∈ ztb := zsel (q := (yX9_unlikeMarks, 14)) (List.mem_of_getElem? (i := 34) rfl) rfl
theorem gX9_223 : Cond.methodLink "SmellAbbey" 223 yX9_unlikeMarks ∈ ztb ∧ Cond.instanceMethod yX9_unlikeMarks ∈ ztb ∧ Cond.selects yX9_unlikeMarks.cls yX9_unlikeMarks yX9_unlikeMarks ∈ ztb := ⟨ztb_t (zt4 _ (List.mem_of_getElem? (i := 108) rfl)) rfl, ztb_t (zt4 _ (List.mem_of_getElem? (i := 110) rfl)) rfl, sX9_unlikeMarks⟩
theorem sX5_copy : Cond.selects yX5_copy.cls yX5_copy yX5_copy ∈ ztb := ztb_t (zt4 _ (List.mem_of_getElem? (i := 118) rfl)) rfl
theorem gX9_226 : Cond.methodLink "SmellAbbey" 226 yX5_copy ∈ ztb ∧ Cond.instanceMethod yX5_copy ∈ ztb ∧ Cond.selects yX5_copy.cls yX5_copy yX5_copy ∈ ztb := ⟨ztb_t (zt4 _ (List.mem_of_getElem? (i := 116) rfl)) rfl, ztb_t (zt4 _ (List.mem_of_getElem? (i := 117) rfl)) rfl, sX5_copy⟩
theorem sX5_firstShort : Cond.selects yX5_firstShort.cls yX5_firstShort yX5_firstShort ∈ ztb := ztb_t (zt4 _ (List.mem_of_getElem? (i := 125) rfl)) rfl
theorem gX9_230 : Cond.methodLink "SmellAbbey" 230 yX5_firstShort ∈ ztb ∧ Cond.instanceMethod yX5_firstShort ∈ ztb ∧ Cond.selects yX5_firstShort.cls yX5_firstShort yX5_firstShort ∈ ztb := ⟨ztb_t (zt4 _ (List.mem_of_getElem? (i := 123) rfl)) rfl, ztb_t (zt4 _ (List.mem_of_getElem? (i := 124) rfl)) rfl, sX5_firstShort⟩
theorem sX5_takeOut : Cond.selects yX5_takeOut.cls yX5_takeOut yX5_takeOut ∈ ztb := ztb_t (zt4 _ (List.mem_of_getElem? (i := 50) rfl)) rfl
theorem gX9_234 : Cond.methodLink "SmellAbbey" 234 yX5_takeOut ∈ ztb ∧ Cond.instanceMethod yX5_takeOut ∈ ztb ∧ Cond.selects yX5_takeOut.cls yX5_takeOut yX5_takeOut ∈ ztb := ⟨ztb_t (zt4 _ (List.mem_of_getElem? (i := 127) rfl)) rfl, ztb_t (zt4 _ (List.mem_of_getElem? (i := 49) rfl)) rfl, sX5_takeOut⟩
theorem sX7_mixedOn : Cond.selects yX7_mixedOn.cls yX7_mixedOn yX7_mixedOn ∈ ztb := ztb_t (zt4 _ (List.mem_of_getElem? (i := 54) rfl)) rfl
theorem gX9_237 : Cond.methodLink "SmellAbbey" 237 yX7_mixedOn ∈ ztb ∧ Cond.instanceMethod yX7_mixedOn ∈ ztb ∧ Cond.selects yX7_mixedOn.cls yX7_mixedOn yX7_mixedOn ∈ ztb := ⟨ztb_t (zt4 _ (List.mem_of_getElem? (i := 132) rfl)) rfl, ztb_t (zt4 _ (List.mem_of_getElem? (i := 53) rfl)) rfl, sX7_mixedOn⟩
theorem sX9_markDaysInPlace : Cond.selects yX9_markDaysInPlace.cls yX9_markDaysInPlace yX9_markDaysInPlace ∈ ztb := zsel (q := (yX9_markDaysInPlace, 14)) (List.mem_of_getElem? (i := 35) rfl) rfl
theorem gX9_240 : Cond.methodLink "SmellAbbey" 240 yX9_markDaysInPlace ∈ ztb ∧ Cond.instanceMethod yX9_markDaysInPlace ∈ ztb ∧ Cond.selects yX9_markDaysInPlace.cls yX9_markDaysInPlace yX9_markDaysInPlace ∈ ztb := ⟨ztb_t (zt4 _ (List.mem_of_getElem? (i := 141) rfl)) rfl, ztb_t (zt4 _ (List.mem_of_getElem? (i := 143) rfl)) rfl, sX9_markDaysInPlace⟩
theorem sX7_smelt : Cond.selects yX7_smelt.cls yX7_smelt yX7_smelt ∈ ztb := ztb_t (zt4 _ (List.mem_of_getElem? (i := 3) rfl)) rfl
theorem gX9_249 : Cond.methodLink "SmellAbbey" 249 yX7_smelt ∈ ztb ∧ Cond.instanceMethod yX7_smelt ∈ ztb ∧ Cond.selects yX7_smelt.cls yX7_smelt yX7_smelt ∈ ztb := ⟨ztb_t (zt4 _ (List.mem_of_getElem? (i := 84) rfl)) rfl, ztb_t (zt4 _ (List.mem_of_getElem? (i := 2) rfl)) rfl, sX7_smelt⟩
theorem sX9_canBurn : Cond.selects yX9_canBurn.cls yX9_canBurn yX9_canBurn ∈ ztb := zsel (q := (yX9_canBurn, 14)) (List.mem_of_getElem? (i := 36) rfl) rfl
theorem gX9_256 : Cond.methodLink "SmellAbbey" 256 yX9_canBurn ∈ ztb ∧ Cond.instanceMethod yX9_canBurn ∈ ztb ∧ Cond.selects yX9_canBurn.cls yX9_canBurn yX9_canBurn ∈ ztb := ⟨ztb_t (zt4 _ (List.mem_of_getElem? (i := 158) rfl)) rfl, ztb_t (zt4 _ (List.mem_of_getElem? (i := 160) rfl)) rfl, sX9_canBurn⟩
theorem sX9_countFeastThinkers : Cond.selects yX9_countFeastThinkers.cls yX9_countFeastThinkers yX9_countFeastThinkers ∈ ztb := zsel (q := (yX9_countFeastThinkers, 14)) (List.mem_of_getElem? (i := 37) rfl) rfl
theorem gX9_260 : Cond.methodLink "SmellAbbey" 260 yX9_countFeastThinkers ∈ ztb ∧ Cond.instanceMethod yX9_countFeastThinkers ∈ ztb ∧ Cond.selects yX9_countFeastThinkers.cls yX9_countFeastThinkers yX9_countFeastThinkers ∈ ztb := ⟨ztb_t (zt4 _ (List.mem_of_getElem? (i := 162) rfl)) rfl, ztb_t (zt4 _ (List.mem_of_getElem? (i := 164) rfl)) rfl, sX9_countFeastThinkers⟩
theorem sX9_isRest : Cond.selects yX9_isRest.cls yX9_isRest yX9_isRest ∈ ztb := zsel (q := (yX9_isRest, 14)) (List.mem_of_getElem? (i := 38) rfl) rfl
theorem gX9_263 : Cond.methodLink "SmellAbbey" 263 yX9_isRest ∈ ztb ∧ Cond.instanceMethod yX9_isRest ∈ ztb ∧ Cond.selects yX9_isRest.cls yX9_isRest yX9_isRest ∈ ztb := ⟨ztb_t (zt4 _ (List.mem_of_getElem? (i := 170) rfl)) rfl, ztb_t (zt4 _ (List.mem_of_getElem? (i := 172) rfl)) rfl, sX9_isRest⟩
theorem sX5_feastThinkers : Cond.selects yX5_feastThinkers.cls yX5_feastThinkers yX5_feastThinkers ∈ ztb := ztb_t (zt4 _ (List.mem_of_getElem? (i := 168) rfl)) rfl
theorem gX9_266 : Cond.methodLink "SmellAbbey" 266 yX5_feastThinkers ∈ ztb ∧ Cond.instanceMethod yX5_feastThinkers ∈ ztb ∧ Cond.selects yX5_feastThinkers.cls yX5_feastThinkers yX5_feastThinkers ∈ ztb := ⟨ztb_t (zt4 _ (List.mem_of_getElem? (i := 166) rfl)) rfl, ztb_t (zt4 _ (List.mem_of_getElem? (i := 167) rfl)) rfl, sX5_feastThinkers⟩
theorem sX1_add : Cond.selects yX1_add.cls yX1_add yX1_add ∈ ztb := ztb_t (zt4 _ (List.mem_of_getElem? (i := 184) rfl)) rfl
theorem gX9_268 : Cond.methodLink "SmellAbbey" 268 yX1_add ∈ ztb ∧ Cond.instanceMethod yX1_add ∈ ztb ∧ Cond.selects yX1_add.cls yX1_add yX1_add ∈ ztb := ⟨ztb_t (zt4 _ (List.mem_of_getElem? (i := 182) rfl)) rfl, ztb_t (zt4 _ (List.mem_of_getElem? (i := 183) rfl)) rfl, sX1_add⟩
theorem sX1_strike : Cond.selects yX1_strike.cls yX1_strike yX1_strike ∈ ztb := ztb_t (zt4 _ (List.mem_of_getElem? (i := 192) rfl)) rfl
theorem gX9_271 : Cond.methodLink "SmellAbbey" 271 yX1_strike ∈ ztb ∧ Cond.instanceMethod yX1_strike ∈ ztb ∧ Cond.selects yX1_strike.cls yX1_strike yX1_strike ∈ ztb := ⟨ztb_t (zt4 _ (List.mem_of_getElem? (i := 190) rfl)) rfl, ztb_t (zt4 _ (List.mem_of_getElem? (i := 191) rfl)) rfl, sX1_strike⟩
theorem sX1_weigh : Cond.selects yX1_weigh.cls yX1_weigh yX1_weigh ∈ ztb := ztb_t (zt4 _ (List.mem_of_getElem? (i := 204) rfl)) rfl
theorem gX9_280 : Cond.methodLink "SmellAbbey" 280 yX1_weigh ∈ ztb ∧ Cond.instanceMethod yX1_weigh ∈ ztb ∧ Cond.selects yX1_weigh.cls yX1_weigh yX1_weigh ∈ ztb := ⟨ztb_t (zt4 _ (List.mem_of_getElem? (i := 202) rfl)) rfl, ztb_t (zt4 _ (List.mem_of_getElem? (i := 203) rfl)) rfl, sX1_weigh⟩
theorem sX9_agreesWithNotes : Cond.selects yX9_agreesWithNotes.cls yX9_agreesWithNotes yX9_agreesWithNotes ∈ ztb := zsel (q := (yX9_agreesWithNotes, 14)) (List.mem_of_getElem? (i := 39) rfl) rfl
theorem gX9_283 : Cond.methodLink "SmellAbbey" 283 yX9_agreesWithNotes ∈ ztb ∧ Cond.instanceMethod yX9_agreesWithNotes ∈ ztb ∧ Cond.selects yX9_agreesWithNotes.cls yX9_agreesWithNotes yX9_agreesWithNotes ∈ ztb := ⟨ztb_t (zt4 _ (List.mem_of_getElem? (i := 210) rfl)) rfl, ztb_t (zt4 _ (List.mem_of_getElem? (i := 212) rfl)) rfl, sX9_agreesWithNotes⟩
theorem sX1_lastMorning : Cond.selects yX1_lastMorning.cls yX1_lastMorning yX1_lastMorning ∈ ztb := ztb_t (zt4 _ (List.mem_of_getElem? (i := 216) rfl)) rfl
theorem gX9_286 : Cond.methodLink "SmellAbbey" 286 yX1_lastMorning ∈ ztb ∧ Cond.instanceMethod yX1_lastMorning ∈ ztb ∧ Cond.selects yX1_lastMorning.cls yX1_lastMorning yX1_lastMorning ∈ ztb := ⟨ztb_t (zt4 _ (List.mem_of_getElem? (i := 214) rfl)) rfl, ztb_t (zt4 _ (List.mem_of_getElem? (i := 215) rfl)) rfl, sX1_lastMorning⟩
theorem sX1_allow : Cond.selects yX1_allow.cls yX1_allow yX1_allow ∈ ztb := ztb_t (zt4 _ (List.mem_of_getElem? (i := 225) rfl)) rfl
theorem gX9_289 : Cond.methodLink "SmellAbbey" 289 yX1_allow ∈ ztb ∧ Cond.instanceMethod yX1_allow ∈ ztb ∧ Cond.selects yX1_allow.cls yX1_allow yX1_allow ∈ ztb := ⟨ztb_t (zt4 _ (List.mem_of_getElem? (i := 223) rfl)) rfl, ztb_t (zt4 _ (List.mem_of_getElem? (i := 224) rfl)) rfl, sX1_allow⟩
theorem sX2_begin : Cond.selects yX2_begin.cls yX2_begin yX2_begin ∈ ztb := ztb_t (zt4 _ (List.mem_of_getElem? (i := 233) rfl)) rfl
theorem gX9_293 : Cond.methodLink "SmellAbbey" 293 yX2_begin ∈ ztb ∧ Cond.instanceMethod yX2_begin ∈ ztb ∧ Cond.selects yX2_begin.cls yX2_begin yX2_begin ∈ ztb := ⟨ztb_t (zt4 _ (List.mem_of_getElem? (i := 231) rfl)) rfl, ztb_t (zt4 _ (List.mem_of_getElem? (i := 232) rfl)) rfl, sX2_begin⟩
theorem sX9_blowByChance : Cond.selects yX9_blowByChance.cls yX9_blowByChance yX9_blowByChance ∈ ztb := zsel (q := (yX9_blowByChance, 14)) (List.mem_of_getElem? (i := 41) rfl) rfl
theorem gX9_295 : Cond.methodLink "SmellAbbey" 295 yX9_blowByChance ∈ ztb ∧ Cond.instanceMethod yX9_blowByChance ∈ ztb ∧ Cond.selects yX9_blowByChance.cls yX9_blowByChance yX9_blowByChance ∈ ztb := ⟨ztb_t (zt4 _ (List.mem_of_getElem? (i := 235) rfl)) rfl, ztb_t (zt4 _ (List.mem_of_getElem? (i := 237) rfl)) rfl, sX9_blowByChance⟩
theorem sX2_draw : Cond.selects yX2_draw.cls yX2_draw yX2_draw ∈ ztb := ztb_t (zt5 _ (List.mem_of_getElem? (i := 1) rfl)) rfl
theorem gX9_301 : Cond.methodLink "SmellAbbey" 301 yX2_draw ∈ ztb ∧ Cond.instanceMethod yX2_draw ∈ ztb ∧ Cond.selects yX2_draw.cls yX2_draw yX2_draw ∈ ztb := ⟨ztb_t (zt4 _ (List.mem_of_getElem? (i := 239) rfl)) rfl, ztb_t (zt5 _ (List.mem_of_getElem? (i := 0) rfl)) rfl, sX2_draw⟩
theorem sX9_changeTrial : Cond.selects yX9_changeTrial.cls yX9_changeTrial yX9_changeTrial ∈ ztb := zsel (q := (yX9_changeTrial, 14)) (List.mem_of_getElem? (i := 42) rfl) rfl
theorem gX9_304 : Cond.methodLink "SmellAbbey" 304 yX9_changeTrial ∈ ztb ∧ Cond.instanceMethod yX9_changeTrial ∈ ztb ∧ Cond.selects yX9_changeTrial.cls yX9_changeTrial yX9_changeTrial ∈ ztb := ⟨ztb_t (zt5 _ (List.mem_of_getElem? (i := 11) rfl)) rfl, ztb_t (zt5 _ (List.mem_of_getElem? (i := 13) rfl)) rfl, sX9_changeTrial⟩
theorem sX5_clearAir : Cond.selects yX5_clearAir.cls yX5_clearAir yX5_clearAir ∈ ztb := ztb_t (zt2 _ (List.mem_of_getElem? (i := 167) rfl)) rfl
theorem gX9_307 : Cond.methodLink "SmellAbbey" 307 yX5_clearAir ∈ ztb ∧ Cond.instanceMethod yX5_clearAir ∈ ztb ∧ Cond.selects yX5_clearAir.cls yX5_clearAir yX5_clearAir ∈ ztb := ⟨ztb_t (zt5 _ (List.mem_of_getElem? (i := 16) rfl)) rfl, ztb_t (zt2 _ (List.mem_of_getElem? (i := 166) rfl)) rfl, sX5_clearAir⟩
theorem sX8_takeBack : Cond.selects yX8_takeBack.cls yX8_takeBack yX8_takeBack ∈ ztb := ztb_t (zt5 _ (List.mem_of_getElem? (i := 23) rfl)) rfl
theorem gX9_314 : Cond.methodLink "SmellAbbey" 314 yX8_takeBack ∈ ztb ∧ Cond.instanceMethod yX8_takeBack ∈ ztb ∧ Cond.selects yX8_takeBack.cls yX8_takeBack yX8_takeBack ∈ ztb := ⟨ztb_t (zt5 _ (List.mem_of_getElem? (i := 21) rfl)) rfl, ztb_t (zt5 _ (List.mem_of_getElem? (i := 22) rfl)) rfl, sX8_takeBack⟩
theorem sX9_allStores : Cond.selects yX9_allStores.cls yX9_allStores yX9_allStores ∈ ztb := zsel (q := (yX9_allStores, 14)) (List.mem_of_getElem? (i := 43) rfl) rfl
theorem gX9_333 : Cond.methodLink "SmellAbbey" 333 yX9_allStores ∈ ztb ∧ Cond.instanceMethod yX9_allStores ∈ ztb ∧ Cond.selects yX9_allStores.cls yX9_allStores yX9_allStores ∈ ztb := ⟨ztb_t (zt5 _ (List.mem_of_getElem? (i := 37) rfl)) rfl, ztb_t (zt5 _ (List.mem_of_getElem? (i := 39) rfl)) rfl, sX9_allStores⟩
theorem sX1_considered : Cond.selects yX1_considered.cls yX1_considered yX1_considered ∈ ztb := ztb_t (zt4 _ (List.mem_of_getElem? (i := 208) rfl)) rfl
theorem gX9_336 : Cond.methodLink "SmellAbbey" 336 yX1_considered ∈ ztb ∧ Cond.instanceMethod yX1_considered ∈ ztb ∧ Cond.selects yX1_considered.cls yX1_considered yX1_considered ∈ ztb := ⟨ztb_t (zt5 _ (List.mem_of_getElem? (i := 41) rfl)) rfl, ztb_t (zt4 _ (List.mem_of_getElem? (i := 207) rfl)) rfl, sX1_considered⟩
theorem sX5_keenOf : Cond.selects yX5_keenOf.cls yX5_keenOf yX5_keenOf ∈ ztb := ztb_t (zt3 _ (List.mem_of_getElem? (i := 231) rfl)) rfl
theorem gX9_340 : Cond.methodLink "SmellAbbey" 340 yX5_keenOf ∈ ztb ∧ Cond.instanceMethod yX5_keenOf ∈ ztb ∧ Cond.selects yX5_keenOf.cls yX5_keenOf yX5_keenOf ∈ ztb := ⟨ztb_t (zt3 _ (List.mem_of_getElem? (i := 229) rfl)) rfl, ztb_t (zt3 _ (List.mem_of_getElem? (i := 230) rfl)) rfl, sX5_keenOf⟩
theorem gX0_46 : Cond.methodLink "SmellAbbey$Laws" 46 yX0_multiplied ∈ ztb ∧ Cond.static yX0_multiplied ∈ ztb := ⟨ztb_t (zt3 _ (List.mem_of_getElem? (i := 191) rfl)) rfl, ztb_t (zt3 _ (List.mem_of_getElem? (i := 192) rfl)) rfl⟩
theorem gX0_50 : Cond.methodLink "SmellAbbey$Laws" 50 yX0_joined ∈ ztb ∧ Cond.static yX0_joined ∈ ztb := ⟨ztb_t (zt3 _ (List.mem_of_getElem? (i := 195) rfl)) rfl, ztb_t (zt3 _ (List.mem_of_getElem? (i := 196) rfl)) rfl⟩
theorem gX1_38 : Cond.methodLink "SmellAbbey$Notes" 38 yX1_considered ∈ ztb ∧ Cond.instanceMethod yX1_considered ∈ ztb ∧ Cond.selects yX1_considered.cls yX1_considered yX1_considered ∈ ztb := ⟨ztb_t (zt4 _ (List.mem_of_getElem? (i := 206) rfl)) rfl, ztb_t (zt4 _ (List.mem_of_getElem? (i := 207) rfl)) rfl, sX1_considered⟩
theorem sX1_counts : Cond.selects yX1_counts.cls yX1_counts yX1_counts ∈ ztb := zsel (q := (yX1_counts, 8)) (List.mem_of_getElem? (i := 40) rfl) rfl
theorem gX1_42 : Cond.methodLink "SmellAbbey$Notes" 42 yX1_counts ∈ ztb ∧ Cond.instanceMethod yX1_counts ∈ ztb ∧ Cond.selects yX1_counts.cls yX1_counts yX1_counts ∈ ztb := ⟨ztb_t (zt4 _ (List.mem_of_getElem? (i := 218) rfl)) rfl, ztb_t (zt4 _ (List.mem_of_getElem? (i := 220) rfl)) rfl, sX1_counts⟩
theorem gX1_46 : Cond.methodLink "SmellAbbey$Notes" 46 yJ9_max_7cf53 ∈ ztb ∧ Cond.static yJ9_max_7cf53 ∈ ztb := ⟨ztb_t (zt4 _ (List.mem_of_getElem? (i := 222) rfl)) rfl, ztb_t (zt4 _ (List.mem_of_getElem? (i := 98) rfl)) rfl⟩
theorem sX7_clear : Cond.selects yX7_clear.cls yX7_clear yX7_clear ∈ ztb := ztb_t (zt2 _ (List.mem_of_getElem? (i := 230) rfl)) rfl
theorem gX3_36 : Cond.methodLink "SmellAbbey$Reader" 36 yX7_clear ∈ ztb ∧ Cond.instanceMethod yX7_clear ∈ ztb ∧ Cond.selects yX7_clear.cls yX7_clear yX7_clear ∈ ztb := ⟨ztb_t (zt2 _ (List.mem_of_getElem? (i := 228) rfl)) rfl, ztb_t (zt2 _ (List.mem_of_getElem? (i := 229) rfl)) rfl, sX7_clear⟩
theorem sX4_open : Cond.selects yX4_open.cls yX4_open yX4_open ∈ ztb := ztb_t (zt2 _ (List.mem_of_getElem? (i := 238) rfl)) rfl
theorem gX3_42 : Cond.methodLink "SmellAbbey$Reader" 42 yX4_open ∈ ztb ∧ Cond.instanceMethod yX4_open ∈ ztb ∧ Cond.selects yX4_open.cls yX4_open yX4_open ∈ ztb := ⟨ztb_t (zt2 _ (List.mem_of_getElem? (i := 236) rfl)) rfl, ztb_t (zt2 _ (List.mem_of_getElem? (i := 237) rfl)) rfl, sX4_open⟩
theorem sX3_stuffLine : Cond.selects yX3_stuffLine.cls yX3_stuffLine yX3_stuffLine ∈ ztb := zsel (q := (yX3_stuffLine, 9)) (List.mem_of_getElem? (i := 5) rfl) rfl
theorem gX3_54 : Cond.methodLink "SmellAbbey$Reader" 54 yX3_stuffLine ∈ ztb ∧ Cond.instanceMethod yX3_stuffLine ∈ ztb ∧ Cond.selects yX3_stuffLine.cls yX3_stuffLine yX3_stuffLine ∈ ztb := ⟨ztb_t (zt3 _ (List.mem_of_getElem? (i := 38) rfl)) rfl, ztb_t (zt3 _ (List.mem_of_getElem? (i := 40) rfl)) rfl, sX3_stuffLine⟩
theorem sX3_dayLine : Cond.selects yX3_dayLine.cls yX3_dayLine yX3_dayLine ∈ ztb := zsel (q := (yX3_dayLine, 9)) (List.mem_of_getElem? (i := 10) rfl) rfl
theorem gX3_58 : Cond.methodLink "SmellAbbey$Reader" 58 yX3_dayLine ∈ ztb ∧ Cond.instanceMethod yX3_dayLine ∈ ztb ∧ Cond.selects yX3_dayLine.cls yX3_dayLine yX3_dayLine ∈ ztb := ⟨ztb_t (zt3 _ (List.mem_of_getElem? (i := 65) rfl)) rfl, ztb_t (zt3 _ (List.mem_of_getElem? (i := 67) rfl)) rfl, sX3_dayLine⟩
theorem sX3_mixLine : Cond.selects yX3_mixLine.cls yX3_mixLine yX3_mixLine ∈ ztb := zsel (q := (yX3_mixLine, 9)) (List.mem_of_getElem? (i := 11) rfl) rfl
theorem gX3_61 : Cond.methodLink "SmellAbbey$Reader" 61 yX3_mixLine ∈ ztb ∧ Cond.instanceMethod yX3_mixLine ∈ ztb ∧ Cond.selects yX3_mixLine.cls yX3_mixLine yX3_mixLine ∈ ztb := ⟨ztb_t (zt3 _ (List.mem_of_getElem? (i := 69) rfl)) rfl, ztb_t (zt3 _ (List.mem_of_getElem? (i := 71) rfl)) rfl, sX3_mixLine⟩
theorem sX3_roomLine : Cond.selects yX3_roomLine.cls yX3_roomLine yX3_roomLine ∈ ztb := zsel (q := (yX3_roomLine, 9)) (List.mem_of_getElem? (i := 13) rfl) rfl
theorem gX3_64 : Cond.methodLink "SmellAbbey$Reader" 64 yX3_roomLine ∈ ztb ∧ Cond.instanceMethod yX3_roomLine ∈ ztb ∧ Cond.selects yX3_roomLine.cls yX3_roomLine yX3_roomLine ∈ ztb := ⟨ztb_t (zt3 _ (List.mem_of_getElem? (i := 77) rfl)) rfl, ztb_t (zt3 _ (List.mem_of_getElem? (i := 79) rfl)) rfl, sX3_roomLine⟩
theorem sX3_monkLine : Cond.selects yX3_monkLine.cls yX3_monkLine yX3_monkLine ∈ ztb := zsel (q := (yX3_monkLine, 9)) (List.mem_of_getElem? (i := 14) rfl) rfl
theorem gX3_67 : Cond.methodLink "SmellAbbey$Reader" 67 yX3_monkLine ∈ ztb ∧ Cond.instanceMethod yX3_monkLine ∈ ztb ∧ Cond.selects yX3_monkLine.cls yX3_monkLine yX3_monkLine ∈ ztb := ⟨ztb_t (zt3 _ (List.mem_of_getElem? (i := 81) rfl)) rfl, ztb_t (zt3 _ (List.mem_of_getElem? (i := 83) rfl)) rfl, sX3_monkLine⟩
theorem sX3_lingerLine : Cond.selects yX3_lingerLine.cls yX3_lingerLine yX3_lingerLine ∈ ztb := zsel (q := (yX3_lingerLine, 9)) (List.mem_of_getElem? (i := 15) rfl) rfl
theorem gX3_70 : Cond.methodLink "SmellAbbey$Reader" 70 yX3_lingerLine ∈ ztb ∧ Cond.instanceMethod yX3_lingerLine ∈ ztb ∧ Cond.selects yX3_lingerLine.cls yX3_lingerLine yX3_lingerLine ∈ ztb := ⟨ztb_t (zt3 _ (List.mem_of_getElem? (i := 85) rfl)) rfl, ztb_t (zt3 _ (List.mem_of_getElem? (i := 87) rfl)) rfl, sX3_lingerLine⟩
theorem sX3_seedLine : Cond.selects yX3_seedLine.cls yX3_seedLine yX3_seedLine ∈ ztb := zsel (q := (yX3_seedLine, 9)) (List.mem_of_getElem? (i := 16) rfl) rfl
theorem gX3_73 : Cond.methodLink "SmellAbbey$Reader" 73 yX3_seedLine ∈ ztb ∧ Cond.instanceMethod yX3_seedLine ∈ ztb ∧ Cond.selects yX3_seedLine.cls yX3_seedLine yX3_seedLine ∈ ztb := ⟨ztb_t (zt3 _ (List.mem_of_getElem? (i := 89) rfl)) rfl, ztb_t (zt3 _ (List.mem_of_getElem? (i := 91) rfl)) rfl, sX3_seedLine⟩
theorem sX3_lawLine : Cond.selects yX3_lawLine.cls yX3_lawLine yX3_lawLine ∈ ztb := zsel (q := (yX3_lawLine, 9)) (List.mem_of_getElem? (i := 17) rfl) rfl
theorem gX3_76 : Cond.methodLink "SmellAbbey$Reader" 76 yX3_lawLine ∈ ztb ∧ Cond.instanceMethod yX3_lawLine ∈ ztb ∧ Cond.selects yX3_lawLine.cls yX3_lawLine yX3_lawLine ∈ ztb := ⟨ztb_t (zt3 _ (List.mem_of_getElem? (i := 94) rfl)) rfl, ztb_t (zt3 _ (List.mem_of_getElem? (i := 96) rfl)) rfl, sX3_lawLine⟩
theorem sX3_wrong : Cond.selects yX3_wrong.cls yX3_wrong yX3_wrong ∈ ztb := zsel (q := (yX3_wrong, 9)) (List.mem_of_getElem? (i := 7) rfl) rfl
theorem gX3_79 : Cond.methodLink "SmellAbbey$Reader" 79 yX3_wrong ∈ ztb ∧ Cond.instanceMethod yX3_wrong ∈ ztb ∧ Cond.selects yX3_wrong.cls yX3_wrong yX3_wrong ∈ ztb := ⟨ztb_t (zt3 _ (List.mem_of_getElem? (i := 48) rfl)) rfl, ztb_t (zt3 _ (List.mem_of_getElem? (i := 50) rfl)) rfl, sX3_wrong⟩
theorem sX3_newName : Cond.selects yX3_newName.cls yX3_newName yX3_newName ∈ ztb := zsel (q := (yX3_newName, 9)) (List.mem_of_getElem? (i := 6) rfl) rfl
theorem gX3_83 : Cond.methodLink "SmellAbbey$Reader" 83 yX3_newName ∈ ztb ∧ Cond.instanceMethod yX3_newName ∈ ztb ∧ Cond.selects yX3_newName.cls yX3_newName yX3_newName ∈ ztb := ⟨ztb_t (zt3 _ (List.mem_of_getElem? (i := 42) rfl)) rfl, ztb_t (zt3 _ (List.mem_of_getElem? (i := 44) rfl)) rfl, sX3_newName⟩
theorem sX3_readNumber : Cond.selects yX3_readNumber.cls yX3_readNumber yX3_readNumber ∈ ztb := zsel (q := (yX3_readNumber, 9)) (List.mem_of_getElem? (i := 8) rfl) rfl
theorem gX3_86 : Cond.methodLink "SmellAbbey$Reader" 86 yX3_readNumber ∈ ztb ∧ Cond.instanceMethod yX3_readNumber ∈ ztb ∧ Cond.selects yX3_readNumber.cls yX3_readNumber yX3_readNumber ∈ ztb := ⟨ztb_t (zt3 _ (List.mem_of_getElem? (i := 57) rfl)) rfl, ztb_t (zt3 _ (List.mem_of_getElem? (i := 59) rfl)) rfl, sX3_readNumber⟩
theorem sX3_readStop : Cond.selects yX3_readStop.cls yX3_readStop yX3_readStop ∈ ztb := zsel (q := (yX3_readStop, 9)) (List.mem_of_getElem? (i := 9) rfl) rfl
theorem gX3_93 : Cond.methodLink "SmellAbbey$Reader" 93 yX3_readStop ∈ ztb ∧ Cond.instanceMethod yX3_readStop ∈ ztb ∧ Cond.selects yX3_readStop.cls yX3_readStop yX3_readStop ∈ ztb := ⟨ztb_t (zt3 _ (List.mem_of_getElem? (i := 61) rfl)) rfl, ztb_t (zt3 _ (List.mem_of_getElem? (i := 63) rfl)) rfl, sX3_readStop⟩
theorem sX4_advance : Cond.selects yX4_advance.cls yX4_advance yX4_advance ∈ ztb := ztb_t (zt3 _ (List.mem_of_getElem? (i := 5) rfl)) rfl
theorem gX3_100 : Cond.methodLink "SmellAbbey$Reader" 100 yX4_advance ∈ ztb ∧ Cond.instanceMethod yX4_advance ∈ ztb ∧ Cond.selects yX4_advance.cls yX4_advance yX4_advance ∈ ztb := ⟨ztb_t (zt3 _ (List.mem_of_getElem? (i := 52) rfl)) rfl, ztb_t (zt3 _ (List.mem_of_getElem? (i := 4) rfl)) rfl, sX4_advance⟩
theorem sX3_toldName : Cond.selects yX3_toldName.cls yX3_toldName yX3_toldName ∈ ztb := zsel (q := (yX3_toldName, 9)) (List.mem_of_getElem? (i := 12) rfl) rfl
theorem gX3_106 : Cond.methodLink "SmellAbbey$Reader" 106 yX3_toldName ∈ ztb ∧ Cond.instanceMethod yX3_toldName ∈ ztb ∧ Cond.selects yX3_toldName.cls yX3_toldName yX3_toldName ∈ ztb := ⟨ztb_t (zt3 _ (List.mem_of_getElem? (i := 73) rfl)) rfl, ztb_t (zt3 _ (List.mem_of_getElem? (i := 75) rfl)) rfl, sX3_toldName⟩
theorem sX0_isTold : Cond.selects yX0_isTold.cls yX0_isTold yX0_isTold ∈ ztb := ztb_t (zt3 _ (List.mem_of_getElem? (i := 100) rfl)) rfl
theorem gX3_137 : Cond.methodLink "SmellAbbey$Reader" 137 yX0_isTold ∈ ztb ∧ Cond.instanceMethod yX0_isTold ∈ ztb ∧ Cond.selects yX0_isTold.cls yX0_isTold yX0_isTold ∈ ztb := ⟨ztb_t (zt3 _ (List.mem_of_getElem? (i := 98) rfl)) rfl, ztb_t (zt3 _ (List.mem_of_getElem? (i := 99) rfl)) rfl, sX0_isTold⟩
theorem sX0_begin : Cond.selects yX0_begin.cls yX0_begin yX0_begin ∈ ztb := ztb_t (zt3 _ (List.mem_of_getElem? (i := 104) rfl)) rfl
theorem gX3_143 : Cond.methodLink "SmellAbbey$Reader" 143 yX0_begin ∈ ztb ∧ Cond.instanceMethod yX0_begin ∈ ztb ∧ Cond.selects yX0_begin.cls yX0_begin yX0_begin ∈ ztb := ⟨ztb_t (zt3 _ (List.mem_of_getElem? (i := 102) rfl)) rfl, ztb_t (zt3 _ (List.mem_of_getElem? (i := 103) rfl)) rfl, sX0_begin⟩
theorem sX3_readFormula : Cond.selects yX3_readFormula.cls yX3_readFormula yX3_readFormula ∈ ztb := zsel (q := (yX3_readFormula, 9)) (List.mem_of_getElem? (i := 18) rfl) rfl
theorem gX3_147 : Cond.methodLink "SmellAbbey$Reader" 147 yX3_readFormula ∈ ztb ∧ Cond.instanceMethod yX3_readFormula ∈ ztb ∧ Cond.selects yX3_readFormula.cls yX3_readFormula yX3_readFormula ∈ ztb := ⟨ztb_t (zt3 _ (List.mem_of_getElem? (i := 106) rfl)) rfl, ztb_t (zt3 _ (List.mem_of_getElem? (i := 108) rfl)) rfl, sX3_readFormula⟩
theorem sX0_end : Cond.selects yX0_end.cls yX0_end yX0_end ∈ ztb := ztb_t (zt3 _ (List.mem_of_getElem? (i := 143) rfl)) rfl
theorem gX3_150 : Cond.methodLink "SmellAbbey$Reader" 150 yX0_end ∈ ztb ∧ Cond.instanceMethod yX0_end ∈ ztb ∧ Cond.selects yX0_end.cls yX0_end yX0_end ∈ ztb := ⟨ztb_t (zt3 _ (List.mem_of_getElem? (i := 141) rfl)) rfl, ztb_t (zt3 _ (List.mem_of_getElem? (i := 142) rfl)) rfl, sX0_end⟩
theorem gX3_162 : Cond.methodLink "SmellAbbey$Reader" 162 yX7_numberOf ∈ ztb ∧ Cond.instanceMethod yX7_numberOf ∈ ztb ∧ Cond.selects yX7_numberOf.cls yX7_numberOf yX7_numberOf ∈ ztb := ⟨ztb_t (zt3 _ (List.mem_of_getElem? (i := 53) rfl)) rfl, ztb_t (zt3 _ (List.mem_of_getElem? (i := 54) rfl)) rfl, sX7_numberOf⟩
theorem sX3_settle : Cond.selects yX3_settle.cls yX3_settle yX3_settle ∈ ztb := zsel (q := (yX3_settle, 9)) (List.mem_of_getElem? (i := 19) rfl) rfl
theorem gX3_180 : Cond.methodLink "SmellAbbey$Reader" 180 yX3_settle ∈ ztb ∧ Cond.instanceMethod yX3_settle ∈ ztb ∧ Cond.selects yX3_settle.cls yX3_settle yX3_settle ∈ ztb := ⟨ztb_t (zt3 _ (List.mem_of_getElem? (i := 110) rfl)) rfl, ztb_t (zt3 _ (List.mem_of_getElem? (i := 112) rfl)) rfl, sX3_settle⟩
theorem sX3_readValue : Cond.selects yX3_readValue.cls yX3_readValue yX3_readValue ∈ ztb := zsel (q := (yX3_readValue, 9)) (List.mem_of_getElem? (i := 21) rfl) rfl
theorem gX3_183 : Cond.methodLink "SmellAbbey$Reader" 183 yX3_readValue ∈ ztb ∧ Cond.instanceMethod yX3_readValue ∈ ztb ∧ Cond.selects yX3_readValue.cls yX3_readValue yX3_readValue ∈ ztb := ⟨ztb_t (zt3 _ (List.mem_of_getElem? (i := 122) rfl)) rfl, ztb_t (zt3 _ (List.mem_of_getElem? (i := 124) rfl)) rfl, sX3_readValue⟩
theorem sX3_readSign : Cond.selects yX3_readSign.cls yX3_readSign yX3_readSign ∈ ztb := zsel (q := (yX3_readSign, 9)) (List.mem_of_getElem? (i := 23) rfl) rfl
theorem gX3_186 : Cond.methodLink "SmellAbbey$Reader" 186 yX3_readSign ∈ ztb ∧ Cond.instanceMethod yX3_readSign ∈ ztb ∧ Cond.selects yX3_readSign.cls yX3_readSign yX3_readSign ∈ ztb := ⟨ztb_t (zt3 _ (List.mem_of_getElem? (i := 137) rfl)) rfl, ztb_t (zt3 _ (List.mem_of_getElem? (i := 139) rfl)) rfl, sX3_readSign⟩
theorem sX3_putOff : Cond.selects yX3_putOff.cls yX3_putOff yX3_putOff ∈ ztb := zsel (q := (yX3_putOff, 9)) (List.mem_of_getElem? (i := 22) rfl) rfl
theorem gX3_189 : Cond.methodLink "SmellAbbey$Reader" 189 yX3_putOff ∈ ztb ∧ Cond.instanceMethod yX3_putOff ∈ ztb ∧ Cond.selects yX3_putOff.cls yX3_putOff yX3_putOff ∈ ztb := ⟨ztb_t (zt3 _ (List.mem_of_getElem? (i := 126) rfl)) rfl, ztb_t (zt3 _ (List.mem_of_getElem? (i := 128) rfl)) rfl, sX3_putOff⟩
theorem sX3_topStrength : Cond.selects yX3_topStrength.cls yX3_topStrength yX3_topStrength ∈ ztb := zsel (q := (yX3_topStrength, 9)) (List.mem_of_getElem? (i := 20) rfl) rfl
theorem gX3_192 : Cond.methodLink "SmellAbbey$Reader" 192 yX3_topStrength ∈ ztb ∧ Cond.instanceMethod yX3_topStrength ∈ ztb ∧ Cond.selects yX3_topStrength.cls yX3_topStrength yX3_topStrength ∈ ztb := ⟨ztb_t (zt3 _ (List.mem_of_getElem? (i := 114) rfl)) rfl, ztb_t (zt3 _ (List.mem_of_getElem? (i := 116) rfl)) rfl, sX3_topStrength⟩
theorem gX3_195 : Cond.methodLink "SmellAbbey$Reader" 195 yX6_strength ∈ ztb ∧ Cond.static yX6_strength ∈ ztb := ⟨ztb_t (zt3 _ (List.mem_of_getElem? (i := 130) rfl)) rfl, ztb_t (zt3 _ (List.mem_of_getElem? (i := 131) rfl)) rfl⟩
theorem sX0_addKnot : Cond.selects yX0_addKnot.cls yX0_addKnot yX0_addKnot ∈ ztb := ztb_t (zt3 _ (List.mem_of_getElem? (i := 135) rfl)) rfl
theorem gX3_198 : Cond.methodLink "SmellAbbey$Reader" 198 yX0_addKnot ∈ ztb ∧ Cond.instanceMethod yX0_addKnot ∈ ztb ∧ Cond.selects yX0_addKnot.cls yX0_addKnot yX0_addKnot ∈ ztb := ⟨ztb_t (zt3 _ (List.mem_of_getElem? (i := 133) rfl)) rfl, ztb_t (zt3 _ (List.mem_of_getElem? (i := 134) rfl)) rfl, sX0_addKnot⟩
theorem sX0_append : Cond.selects yX0_append.cls yX0_append yX0_append ∈ ztb := ztb_t (zt3 _ (List.mem_of_getElem? (i := 120) rfl)) rfl
theorem gX3_202 : Cond.methodLink "SmellAbbey$Reader" 202 yX0_append ∈ ztb ∧ Cond.instanceMethod yX0_append ∈ ztb ∧ Cond.selects yX0_append.cls yX0_append yX0_append ∈ ztb := ⟨ztb_t (zt3 _ (List.mem_of_getElem? (i := 118) rfl)) rfl, ztb_t (zt3 _ (List.mem_of_getElem? (i := 119) rfl)) rfl, sX0_append⟩
theorem gX4_31 : Cond.methodLink "SmellAbbey$Scanner" 31 yJ9_min_7cf53 ∈ ztb ∧ Cond.static yJ9_min_7cf53 ∈ ztb := ⟨ztb_t (zt3 _ (List.mem_of_getElem? (i := 0) rfl)) rfl, ztb_t (zt3 _ (List.mem_of_getElem? (i := 1) rfl)) rfl⟩
theorem gX4_43 : Cond.methodLink "SmellAbbey$Scanner" 43 yX4_advance ∈ ztb ∧ Cond.instanceMethod yX4_advance ∈ ztb ∧ Cond.selects yX4_advance.cls yX4_advance yX4_advance ∈ ztb := ⟨ztb_t (zt3 _ (List.mem_of_getElem? (i := 3) rfl)) rfl, ztb_t (zt3 _ (List.mem_of_getElem? (i := 4) rfl)) rfl, sX4_advance⟩
theorem gX4_52 : Cond.methodLink "SmellAbbey$Scanner" 52 yX4_isLetter ∈ ztb ∧ Cond.static yX4_isLetter ∈ ztb := ⟨ztb_t (zt3 _ (List.mem_of_getElem? (i := 7) rfl)) rfl, ztb_t (zt3 _ (List.mem_of_getElem? (i := 8) rfl)) rfl⟩
theorem sX4_readWord : Cond.selects yX4_readWord.cls yX4_readWord yX4_readWord ∈ ztb := zsel (q := (yX4_readWord, 8)) (List.mem_of_getElem? (i := 1) rfl) rfl
theorem gX4_56 : Cond.methodLink "SmellAbbey$Scanner" 56 yX4_readWord ∈ ztb ∧ Cond.instanceMethod yX4_readWord ∈ ztb ∧ Cond.selects yX4_readWord.cls yX4_readWord yX4_readWord ∈ ztb := ⟨ztb_t (zt3 _ (List.mem_of_getElem? (i := 10) rfl)) rfl, ztb_t (zt3 _ (List.mem_of_getElem? (i := 12) rfl)) rfl, sX4_readWord⟩
theorem gX4_59 : Cond.methodLink "SmellAbbey$Scanner" 59 yX4_isDigit ∈ ztb ∧ Cond.static yX4_isDigit ∈ ztb := ⟨ztb_t (zt3 _ (List.mem_of_getElem? (i := 14) rfl)) rfl, ztb_t (zt3 _ (List.mem_of_getElem? (i := 15) rfl)) rfl⟩
theorem sX4_readNumber : Cond.selects yX4_readNumber.cls yX4_readNumber yX4_readNumber ∈ ztb := zsel (q := (yX4_readNumber, 8)) (List.mem_of_getElem? (i := 2) rfl) rfl
theorem gX4_62 : Cond.methodLink "SmellAbbey$Scanner" 62 yX4_readNumber ∈ ztb ∧ Cond.instanceMethod yX4_readNumber ∈ ztb ∧ Cond.selects yX4_readNumber.cls yX4_readNumber yX4_readNumber ∈ ztb := ⟨ztb_t (zt3 _ (List.mem_of_getElem? (i := 17) rfl)) rfl, ztb_t (zt3 _ (List.mem_of_getElem? (i := 19) rfl)) rfl, sX4_readNumber⟩
theorem sX4_signOf : Cond.selects yX4_signOf.cls yX4_signOf yX4_signOf ∈ ztb := zsel (q := (yX4_signOf, 8)) (List.mem_of_getElem? (i := 3) rfl) rfl
theorem gX4_65 : Cond.methodLink "SmellAbbey$Scanner" 65 yX4_signOf ∈ ztb ∧ Cond.instanceMethod yX4_signOf ∈ ztb ∧ Cond.selects yX4_signOf.cls yX4_signOf yX4_signOf ∈ ztb := ⟨ztb_t (zt3 _ (List.mem_of_getElem? (i := 22) rfl)) rfl, ztb_t (zt3 _ (List.mem_of_getElem? (i := 24) rfl)) rfl, sX4_signOf⟩
theorem sX4_takes : Cond.selects yX4_takes.cls yX4_takes yX4_takes ∈ ztb := zsel (q := (yX4_takes, 8)) (List.mem_of_getElem? (i := 4) rfl) rfl
theorem gX4_76 : Cond.methodLink "SmellAbbey$Scanner" 76 yX4_takes ∈ ztb ∧ Cond.instanceMethod yX4_takes ∈ ztb ∧ Cond.selects yX4_takes.cls yX4_takes yX4_takes ∈ ztb := ⟨ztb_t (zt3 _ (List.mem_of_getElem? (i := 26) rfl)) rfl, ztb_t (zt3 _ (List.mem_of_getElem? (i := 28) rfl)) rfl, sX4_takes⟩
theorem gX5_52 : Cond.methodLink "SmellAbbey$State" 52 yX5_clearAir ∈ ztb ∧ Cond.instanceMethod yX5_clearAir ∈ ztb ∧ Cond.selects yX5_clearAir.cls yX5_clearAir yX5_clearAir ∈ ztb := ⟨ztb_t (zt2 _ (List.mem_of_getElem? (i := 165) rfl)) rfl, ztb_t (zt2 _ (List.mem_of_getElem? (i := 166) rfl)) rfl, sX5_clearAir⟩
theorem gX5_77 : Cond.methodLink "SmellAbbey$State" 77 yX5_takeOut ∈ ztb ∧ Cond.instanceMethod yX5_takeOut ∈ ztb ∧ Cond.selects yX5_takeOut.cls yX5_takeOut yX5_takeOut ∈ ztb := ⟨ztb_t (zt4 _ (List.mem_of_getElem? (i := 48) rfl)) rfl, ztb_t (zt4 _ (List.mem_of_getElem? (i := 49) rfl)) rfl, sX5_takeOut⟩
theorem sX5_drift : Cond.selects yX5_drift.cls yX5_drift yX5_drift ∈ ztb := zsel (q := (yX5_drift, 15)) (List.mem_of_getElem? (i := 27) rfl) rfl
theorem gX5_81 : Cond.methodLink "SmellAbbey$State" 81 yX5_drift ∈ ztb ∧ Cond.instanceMethod yX5_drift ∈ ztb ∧ Cond.selects yX5_drift.cls yX5_drift yX5_drift ∈ ztb := ⟨ztb_t (zt4 _ (List.mem_of_getElem? (i := 57) rfl)) rfl, ztb_t (zt4 _ (List.mem_of_getElem? (i := 59) rfl)) rfl, sX5_drift⟩
theorem gX5_84 : Cond.methodLink "SmellAbbey$State" 84 yX5_keenOf ∈ ztb ∧ Cond.instanceMethod yX5_keenOf ∈ ztb ∧ Cond.selects yX5_keenOf.cls yX5_keenOf yX5_keenOf ∈ ztb := ⟨ztb_t (zt4 _ (List.mem_of_getElem? (i := 62) rfl)) rfl, ztb_t (zt3 _ (List.mem_of_getElem? (i := 230) rfl)) rfl, sX5_keenOf⟩
theorem sX5_smellAndThink : Cond.selects yX5_smellAndThink.cls yX5_smellAndThink yX5_smellAndThink ∈ ztb := zsel (q := (yX5_smellAndThink, 15)) (List.mem_of_getElem? (i := 28) rfl) rfl
theorem gX5_88 : Cond.methodLink "SmellAbbey$State" 88 yX5_smellAndThink ∈ ztb ∧ Cond.instanceMethod yX5_smellAndThink ∈ ztb ∧ Cond.selects yX5_smellAndThink.cls yX5_smellAndThink yX5_smellAndThink ∈ ztb := ⟨ztb_t (zt4 _ (List.mem_of_getElem? (i := 63) rfl)) rfl, ztb_t (zt4 _ (List.mem_of_getElem? (i := 65) rfl)) rfl, sX5_smellAndThink⟩
theorem sX5_vote : Cond.selects yX5_vote.cls yX5_vote yX5_vote ∈ ztb := zsel (q := (yX5_vote, 15)) (List.mem_of_getElem? (i := 29) rfl) rfl
theorem gX5_92 : Cond.methodLink "SmellAbbey$State" 92 yX5_vote ∈ ztb ∧ Cond.instanceMethod yX5_vote ∈ ztb ∧ Cond.selects yX5_vote.cls yX5_vote yX5_vote ∈ ztb := ⟨ztb_t (zt4 _ (List.mem_of_getElem? (i := 68) rfl)) rfl, ztb_t (zt4 _ (List.mem_of_getElem? (i := 70) rfl)) rfl, sX5_vote⟩
theorem gX5_95 : Cond.methodLink "SmellAbbey$State" 95 yX7_mixedOn ∈ ztb ∧ Cond.instanceMethod yX7_mixedOn ∈ ztb ∧ Cond.selects yX7_mixedOn.cls yX7_mixedOn yX7_mixedOn ∈ ztb := ⟨ztb_t (zt4 _ (List.mem_of_getElem? (i := 52) rfl)) rfl, ztb_t (zt4 _ (List.mem_of_getElem? (i := 53) rfl)) rfl, sX7_mixedOn⟩
theorem gX5_99 : Cond.methodLink "SmellAbbey$State" 99 yJ9_min_7cf53 ∈ ztb ∧ Cond.static yJ9_min_7cf53 ∈ ztb := ⟨ztb_t (zt4 _ (List.mem_of_getElem? (i := 56) rfl)) rfl, ztb_t (zt3 _ (List.mem_of_getElem? (i := 1) rfl)) rfl⟩
theorem gX5_104 : Cond.methodLink "SmellAbbey$State" 104 yX5_airLaw ∈ ztb ∧ Cond.instanceMethod yX5_airLaw ∈ ztb ∧ Cond.selects yX5_airLaw.cls yX5_airLaw yX5_airLaw ∈ ztb := ⟨ztb_t (zt4 _ (List.mem_of_getElem? (i := 61) rfl)) rfl, ztb_t (zt4 _ (List.mem_of_getElem? (i := 10) rfl)) rfl, sX5_airLaw⟩
theorem gX5_113 : Cond.methodLink "SmellAbbey$State" 113 yX5_within ∈ ztb ∧ Cond.static yX5_within ∈ ztb := ⟨ztb_t (zt3 _ (List.mem_of_getElem? (i := 200) rfl)) rfl, ztb_t (zt3 _ (List.mem_of_getElem? (i := 201) rfl)) rfl⟩
theorem gX5_117 : Cond.methodLink "SmellAbbey$State" 117 yX7_smelt ∈ ztb ∧ Cond.instanceMethod yX7_smelt ∈ ztb ∧ Cond.selects yX7_smelt.cls yX7_smelt yX7_smelt ∈ ztb := ⟨ztb_t (zt4 _ (List.mem_of_getElem? (i := 1) rfl)) rfl, ztb_t (zt4 _ (List.mem_of_getElem? (i := 2) rfl)) rfl, sX7_smelt⟩
theorem gX5_121 : Cond.methodLink "SmellAbbey$State" 121 yX5_markOf ∈ ztb ∧ Cond.instanceMethod yX5_markOf ∈ ztb ∧ Cond.selects yX5_markOf.cls yX5_markOf yX5_markOf ∈ ztb := ⟨ztb_t (zt4 _ (List.mem_of_getElem? (i := 67) rfl)) rfl, ztb_t (zt3 _ (List.mem_of_getElem? (i := 238) rfl)) rfl, sX5_markOf⟩
theorem sX5_mostThought : Cond.selects yX5_mostThought.cls yX5_mostThought yX5_mostThought ∈ ztb := zsel (q := (yX5_mostThought, 15)) (List.mem_of_getElem? (i := 30) rfl) rfl
theorem gX5_125 : Cond.methodLink "SmellAbbey$State" 125 yX5_mostThought ∈ ztb ∧ Cond.instanceMethod yX5_mostThought ∈ ztb ∧ Cond.selects yX5_mostThought.cls yX5_mostThought yX5_mostThought ∈ ztb := ⟨ztb_t (zt4 _ (List.mem_of_getElem? (i := 72) rfl)) rfl, ztb_t (zt4 _ (List.mem_of_getElem? (i := 74) rfl)) rfl, sX5_mostThought⟩
theorem sX0_setNames : Cond.selects yX0_setNames.cls yX0_setNames yX0_setNames ∈ ztb := ztb_t (zt3 _ (List.mem_of_getElem? (i := 184) rfl)) rfl
theorem gX5_140 : Cond.methodLink "SmellAbbey$State" 140 yX0_setNames ∈ ztb ∧ Cond.instanceMethod yX0_setNames ∈ ztb ∧ Cond.selects yX0_setNames.cls yX0_setNames yX0_setNames ∈ ztb := ⟨ztb_t (zt3 _ (List.mem_of_getElem? (i := 182) rfl)) rfl, ztb_t (zt3 _ (List.mem_of_getElem? (i := 183) rfl)) rfl, sX0_setNames⟩
theorem sX0_workOut : Cond.selects yX0_workOut.cls yX0_workOut yX0_workOut ∈ ztb := ztb_t (zt3 _ (List.mem_of_getElem? (i := 188) rfl)) rfl
theorem gX5_146 : Cond.methodLink "SmellAbbey$State" 146 yX0_workOut ∈ ztb ∧ Cond.instanceMethod yX0_workOut ∈ ztb ∧ Cond.selects yX0_workOut.cls yX0_workOut yX0_workOut ∈ ztb := ⟨ztb_t (zt3 _ (List.mem_of_getElem? (i := 186) rfl)) rfl, ztb_t (zt3 _ (List.mem_of_getElem? (i := 187) rfl)) rfl, sX0_workOut⟩
theorem gX5_153 : Cond.methodLink "SmellAbbey$State" 153 yX5_keenLaw ∈ ztb ∧ Cond.instanceMethod yX5_keenLaw ∈ ztb ∧ Cond.selects yX5_keenLaw.cls yX5_keenLaw yX5_keenLaw ∈ ztb := ⟨ztb_t (zt3 _ (List.mem_of_getElem? (i := 233) rfl)) rfl, ztb_t (zt3 _ (List.mem_of_getElem? (i := 234) rfl)) rfl, sX5_keenLaw⟩
theorem gX5_157 : Cond.methodLink "SmellAbbey$State" 157 yX5_worthLaw ∈ ztb ∧ Cond.instanceMethod yX5_worthLaw ∈ ztb ∧ Cond.selects yX5_worthLaw.cls yX5_worthLaw yX5_worthLaw ∈ ztb := ⟨ztb_t (zt3 _ (List.mem_of_getElem? (i := 178) rfl)) rfl, ztb_t (zt3 _ (List.mem_of_getElem? (i := 179) rfl)) rfl, sX5_worthLaw⟩
theorem gX5_161 : Cond.methodLink "SmellAbbey$State" 161 yJ9_min_f86c9 ∈ ztb ∧ Cond.static yJ9_min_f86c9 ∈ ztb := ⟨ztb_t (zt3 _ (List.mem_of_getElem? (i := 203) rfl)) rfl, ztb_t (zt3 _ (List.mem_of_getElem? (i := 204) rfl)) rfl⟩
theorem gX5_164 : Cond.methodLink "SmellAbbey$State" 164 yJ9_max_f86c9 ∈ ztb ∧ Cond.static yJ9_max_f86c9 ∈ ztb := ⟨ztb_t (zt3 _ (List.mem_of_getElem? (i := 206) rfl)) rfl, ztb_t (zt3 _ (List.mem_of_getElem? (i := 207) rfl)) rfl⟩
theorem sX0_clear : Cond.selects yX0_clear.cls yX0_clear yX0_clear ∈ ztb := ztb_t (zt2 _ (List.mem_of_getElem? (i := 234) rfl)) rfl
theorem gX7_46 : Cond.methodLink "SmellAbbey$Told" 46 yX0_clear ∈ ztb ∧ Cond.instanceMethod yX0_clear ∈ ztb ∧ Cond.selects yX0_clear.cls yX0_clear yX0_clear ∈ ztb := ⟨ztb_t (zt2 _ (List.mem_of_getElem? (i := 232) rfl)) rfl, ztb_t (zt2 _ (List.mem_of_getElem? (i := 233) rfl)) rfl, sX0_clear⟩
theorem sX8_forgetOldest : Cond.selects yX8_forgetOldest.cls yX8_forgetOldest yX8_forgetOldest ∈ ztb := zsel (q := (yX8_forgetOldest, 4)) (List.mem_of_getElem? (i := 26) rfl) rfl
theorem gX8_25 : Cond.methodLink "SmellAbbey$Undoing" 25 yX8_forgetOldest ∈ ztb ∧ Cond.instanceMethod yX8_forgetOldest ∈ ztb ∧ Cond.selects yX8_forgetOldest.cls yX8_forgetOldest yX8_forgetOldest ∈ ztb := ⟨ztb_t (zt4 _ (List.mem_of_getElem? (i := 24) rfl)) rfl, ztb_t (zt4 _ (List.mem_of_getElem? (i := 26) rfl)) rfl, sX8_forgetOldest⟩
theorem sX9_monk : Cond.selects yX9_monk.cls yX9_monk yX9_monk ∈ ztb := ztb_t (zt5 _ (List.mem_of_getElem? (i := 49) rfl)) rfl
theorem gL_7 : Cond.methodLink "SmellAbbeyLaw" 7 yX9_monk ∈ ztb ∧ Cond.instanceMethod yX9_monk ∈ ztb ∧ Cond.selects yX9_monk.cls yX9_monk yX9_monk ∈ ztb := ⟨ztb_t (zt5 _ (List.mem_of_getElem? (i := 47) rfl)) rfl, ztb_t (zt5 _ (List.mem_of_getElem? (i := 48) rfl)) rfl, sX9_monk⟩
theorem sX9_feed : Cond.selects yX9_feed.cls yX9_feed yX9_feed ∈ ztb := ztb_t (zt2 _ (List.mem_of_getElem? (i := 214) rfl)) rfl
theorem gL_21 : Cond.methodLink "SmellAbbeyLaw" 21 yX9_feed ∈ ztb ∧ Cond.instanceMethod yX9_feed ∈ ztb ∧ Cond.selects yX9_feed.cls yX9_feed yX9_feed ∈ ztb := ⟨ztb_t (zt2 _ (List.mem_of_getElem? (i := 212) rfl)) rfl, ztb_t (zt2 _ (List.mem_of_getElem? (i := 213) rfl)) rfl, sX9_feed⟩
theorem sX10_feed : Cond.selects yX10_feed.cls yX10_feed yX10_feed ∈ ztb := ztb_t (zt6 _ (List.mem_of_getElem? (i := 118) rfl)) rfl
theorem gL_25 : Cond.methodLink "SmellAbbeyLaw" 25 yX10_feed ∈ ztb ∧ Cond.instanceMethod yX10_feed ∈ ztb ∧ Cond.selects yX10_feed.cls yX10_feed yX10_feed ∈ ztb := ⟨ztb_t (zt6 _ (List.mem_of_getElem? (i := 116) rfl)) rfl, ztb_t (zt6 _ (List.mem_of_getElem? (i := 117) rfl)) rfl, sX10_feed⟩
theorem sX9_text : Cond.selects yX9_text.cls yX9_text yX9_text ∈ ztb := ztb_t (zt2 _ (List.mem_of_getElem? (i := 222) rfl)) rfl
theorem gL_26 : Cond.methodLink "SmellAbbeyLaw" 26 yX9_text ∈ ztb ∧ Cond.instanceMethod yX9_text ∈ ztb ∧ Cond.selects yX9_text.cls yX9_text yX9_text ∈ ztb := ⟨ztb_t (zt2 _ (List.mem_of_getElem? (i := 220) rfl)) rfl, ztb_t (zt2 _ (List.mem_of_getElem? (i := 221) rfl)) rfl, sX9_text⟩
theorem sX10_text : Cond.selects yX10_text.cls yX10_text yX10_text ∈ ztb := ztb_t (zt6 _ (List.mem_of_getElem? (i := 122) rfl)) rfl
theorem gL_30 : Cond.methodLink "SmellAbbeyLaw" 30 yX10_text ∈ ztb ∧ Cond.instanceMethod yX10_text ∈ ztb ∧ Cond.selects yX10_text.cls yX10_text yX10_text ∈ ztb := ⟨ztb_t (zt6 _ (List.mem_of_getElem? (i := 120) rfl)) rfl, ztb_t (zt6 _ (List.mem_of_getElem? (i := 121) rfl)) rfl, sX10_text⟩
theorem sX9_fault : Cond.selects yX9_fault.cls yX9_fault yX9_fault ∈ ztb := ztb_t (zt3 _ (List.mem_of_getElem? (i := 159) rfl)) rfl
theorem gL_31 : Cond.methodLink "SmellAbbeyLaw" 31 yX9_fault ∈ ztb ∧ Cond.instanceMethod yX9_fault ∈ ztb ∧ Cond.selects yX9_fault.cls yX9_fault yX9_fault ∈ ztb := ⟨ztb_t (zt3 _ (List.mem_of_getElem? (i := 157) rfl)) rfl, ztb_t (zt3 _ (List.mem_of_getElem? (i := 158) rfl)) rfl, sX9_fault⟩
theorem sX10_fault : Cond.selects yX10_fault.cls yX10_fault yX10_fault ∈ ztb := ztb_t (zt7 _ (List.mem_of_getElem? (i := 10) rfl)) rfl
theorem gL_34 : Cond.methodLink "SmellAbbeyLaw" 34 yX10_fault ∈ ztb ∧ Cond.instanceMethod yX10_fault ∈ ztb ∧ Cond.selects yX10_fault.cls yX10_fault yX10_fault ∈ ztb := ⟨ztb_t (zt7 _ (List.mem_of_getElem? (i := 8) rfl)) rfl, ztb_t (zt7 _ (List.mem_of_getElem? (i := 9) rfl)) rfl, sX10_fault⟩
theorem sX9_named : Cond.selects yX9_named.cls yX9_named yX9_named ∈ ztb := ztb_t (zt3 _ (List.mem_of_getElem? (i := 163) rfl)) rfl
theorem gL_35 : Cond.methodLink "SmellAbbeyLaw" 35 yX9_named ∈ ztb ∧ Cond.instanceMethod yX9_named ∈ ztb ∧ Cond.selects yX9_named.cls yX9_named yX9_named ∈ ztb := ⟨ztb_t (zt3 _ (List.mem_of_getElem? (i := 161) rfl)) rfl, ztb_t (zt3 _ (List.mem_of_getElem? (i := 162) rfl)) rfl, sX9_named⟩
theorem sX10_named : Cond.selects yX10_named.cls yX10_named yX10_named ∈ ztb := ztb_t (zt7 _ (List.mem_of_getElem? (i := 14) rfl)) rfl
theorem gL_38 : Cond.methodLink "SmellAbbeyLaw" 38 yX10_named ∈ ztb ∧ Cond.instanceMethod yX10_named ∈ ztb ∧ Cond.selects yX10_named.cls yX10_named yX10_named ∈ ztb := ⟨ztb_t (zt7 _ (List.mem_of_getElem? (i := 12) rfl)) rfl, ztb_t (zt7 _ (List.mem_of_getElem? (i := 13) rfl)) rfl, sX10_named⟩
theorem sX10_monk : Cond.selects yX10_monk.cls yX10_monk yX10_monk ∈ ztb := ztb_t (zt7 _ (List.mem_of_getElem? (i := 18) rfl)) rfl
theorem gL_44 : Cond.methodLink "SmellAbbeyLaw" 44 yX10_monk ∈ ztb ∧ Cond.instanceMethod yX10_monk ∈ ztb ∧ Cond.selects yX10_monk.cls yX10_monk yX10_monk ∈ ztb := ⟨ztb_t (zt7 _ (List.mem_of_getElem? (i := 16) rfl)) rfl, ztb_t (zt7 _ (List.mem_of_getElem? (i := 17) rfl)) rfl, sX10_monk⟩
theorem sX10_thrown : Cond.selects yX10_thrown.cls yX10_thrown yX10_thrown ∈ ztb := ztb_t (zt6 _ (List.mem_of_getElem? (i := 114) rfl)) rfl
theorem gL_45 : Cond.methodLink "SmellAbbeyLaw" 45 yX10_thrown ∈ ztb ∧ Cond.instanceMethod yX10_thrown ∈ ztb ∧ Cond.selects yX10_thrown.cls yX10_thrown yX10_thrown ∈ ztb := ⟨ztb_t (zt6 _ (List.mem_of_getElem? (i := 112) rfl)) rfl, ztb_t (zt6 _ (List.mem_of_getElem? (i := 113) rfl)) rfl, sX10_thrown⟩
theorem sX9_stuff : Cond.selects yX9_stuff.cls yX9_stuff yX9_stuff ∈ ztb := ztb_t (zt3 _ (List.mem_of_getElem? (i := 168) rfl)) rfl
theorem gL_49 : Cond.methodLink "SmellAbbeyLaw" 49 yX9_stuff ∈ ztb ∧ Cond.instanceMethod yX9_stuff ∈ ztb ∧ Cond.selects yX9_stuff.cls yX9_stuff yX9_stuff ∈ ztb := ⟨ztb_t (zt3 _ (List.mem_of_getElem? (i := 166) rfl)) rfl, ztb_t (zt3 _ (List.mem_of_getElem? (i := 167) rfl)) rfl, sX9_stuff⟩
theorem sX10_stuff : Cond.selects yX10_stuff.cls yX10_stuff yX10_stuff ∈ ztb := ztb_t (zt7 _ (List.mem_of_getElem? (i := 26) rfl)) rfl
theorem gL_52 : Cond.methodLink "SmellAbbeyLaw" 52 yX10_stuff ∈ ztb ∧ Cond.instanceMethod yX10_stuff ∈ ztb ∧ Cond.selects yX10_stuff.cls yX10_stuff yX10_stuff ∈ ztb := ⟨ztb_t (zt7 _ (List.mem_of_getElem? (i := 24) rfl)) rfl, ztb_t (zt7 _ (List.mem_of_getElem? (i := 25) rfl)) rfl, sX10_stuff⟩
theorem sX9_mix : Cond.selects yX9_mix.cls yX9_mix yX9_mix ∈ ztb := ztb_t (zt3 _ (List.mem_of_getElem? (i := 211) rfl)) rfl
theorem gL_53 : Cond.methodLink "SmellAbbeyLaw" 53 yX9_mix ∈ ztb ∧ Cond.instanceMethod yX9_mix ∈ ztb ∧ Cond.selects yX9_mix.cls yX9_mix yX9_mix ∈ ztb := ⟨ztb_t (zt3 _ (List.mem_of_getElem? (i := 209) rfl)) rfl, ztb_t (zt3 _ (List.mem_of_getElem? (i := 210) rfl)) rfl, sX9_mix⟩
theorem sX10_mix : Cond.selects yX10_mix.cls yX10_mix yX10_mix ∈ ztb := ztb_t (zt7 _ (List.mem_of_getElem? (i := 68) rfl)) rfl
theorem gL_56 : Cond.methodLink "SmellAbbeyLaw" 56 yX10_mix ∈ ztb ∧ Cond.instanceMethod yX10_mix ∈ ztb ∧ Cond.selects yX10_mix.cls yX10_mix yX10_mix ∈ ztb := ⟨ztb_t (zt7 _ (List.mem_of_getElem? (i := 66) rfl)) rfl, ztb_t (zt7 _ (List.mem_of_getElem? (i := 67) rfl)) rfl, sX10_mix⟩
theorem sX9_feast : Cond.selects yX9_feast.cls yX9_feast yX9_feast ∈ ztb := ztb_t (zt3 _ (List.mem_of_getElem? (i := 215) rfl)) rfl
theorem gL_57 : Cond.methodLink "SmellAbbeyLaw" 57 yX9_feast ∈ ztb ∧ Cond.instanceMethod yX9_feast ∈ ztb ∧ Cond.selects yX9_feast.cls yX9_feast yX9_feast ∈ ztb := ⟨ztb_t (zt3 _ (List.mem_of_getElem? (i := 213) rfl)) rfl, ztb_t (zt3 _ (List.mem_of_getElem? (i := 214) rfl)) rfl, sX9_feast⟩
theorem sX10_feast : Cond.selects yX10_feast.cls yX10_feast yX10_feast ∈ ztb := ztb_t (zt7 _ (List.mem_of_getElem? (i := 76) rfl)) rfl
theorem gL_60 : Cond.methodLink "SmellAbbeyLaw" 60 yX10_feast ∈ ztb ∧ Cond.instanceMethod yX10_feast ∈ ztb ∧ Cond.selects yX10_feast.cls yX10_feast yX10_feast ∈ ztb := ⟨ztb_t (zt7 _ (List.mem_of_getElem? (i := 74) rfl)) rfl, ztb_t (zt7 _ (List.mem_of_getElem? (i := 75) rfl)) rfl, sX10_feast⟩
theorem sX9_air : Cond.selects yX9_air.cls yX9_air yX9_air ∈ ztb := ztb_t (zt3 _ (List.mem_of_getElem? (i := 219) rfl)) rfl
theorem gL_61 : Cond.methodLink "SmellAbbeyLaw" 61 yX9_air ∈ ztb ∧ Cond.instanceMethod yX9_air ∈ ztb ∧ Cond.selects yX9_air.cls yX9_air yX9_air ∈ ztb := ⟨ztb_t (zt3 _ (List.mem_of_getElem? (i := 217) rfl)) rfl, ztb_t (zt3 _ (List.mem_of_getElem? (i := 218) rfl)) rfl, sX9_air⟩
theorem sX10_air : Cond.selects yX10_air.cls yX10_air yX10_air ∈ ztb := ztb_t (zt7 _ (List.mem_of_getElem? (i := 80) rfl)) rfl
theorem gL_64 : Cond.methodLink "SmellAbbeyLaw" 64 yX10_air ∈ ztb ∧ Cond.instanceMethod yX10_air ∈ ztb ∧ Cond.selects yX10_air.cls yX10_air yX10_air ∈ ztb := ⟨ztb_t (zt7 _ (List.mem_of_getElem? (i := 78) rfl)) rfl, ztb_t (zt7 _ (List.mem_of_getElem? (i := 79) rfl)) rfl, sX10_air⟩
theorem sX9_mark : Cond.selects yX9_mark.cls yX9_mark yX9_mark ∈ ztb := ztb_t (zt3 _ (List.mem_of_getElem? (i := 223) rfl)) rfl
theorem gL_65 : Cond.methodLink "SmellAbbeyLaw" 65 yX9_mark ∈ ztb ∧ Cond.instanceMethod yX9_mark ∈ ztb ∧ Cond.selects yX9_mark.cls yX9_mark yX9_mark ∈ ztb := ⟨ztb_t (zt3 _ (List.mem_of_getElem? (i := 221) rfl)) rfl, ztb_t (zt3 _ (List.mem_of_getElem? (i := 222) rfl)) rfl, sX9_mark⟩
theorem sX10_mark : Cond.selects yX10_mark.cls yX10_mark yX10_mark ∈ ztb := ztb_t (zt7 _ (List.mem_of_getElem? (i := 88) rfl)) rfl
theorem gL_68 : Cond.methodLink "SmellAbbeyLaw" 68 yX10_mark ∈ ztb ∧ Cond.instanceMethod yX10_mark ∈ ztb ∧ Cond.selects yX10_mark.cls yX10_mark yX10_mark ∈ ztb := ⟨ztb_t (zt7 _ (List.mem_of_getElem? (i := 86) rfl)) rfl, ztb_t (zt7 _ (List.mem_of_getElem? (i := 87) rfl)) rfl, sX10_mark⟩
theorem sX9_law : Cond.selects yX9_law.cls yX9_law yX9_law ∈ ztb := ztb_t (zt4 _ (List.mem_of_getElem? (i := 7) rfl)) rfl
theorem gL_69 : Cond.methodLink "SmellAbbeyLaw" 69 yX9_law ∈ ztb ∧ Cond.instanceMethod yX9_law ∈ ztb ∧ Cond.selects yX9_law.cls yX9_law yX9_law ∈ ztb := ⟨ztb_t (zt4 _ (List.mem_of_getElem? (i := 5) rfl)) rfl, ztb_t (zt4 _ (List.mem_of_getElem? (i := 6) rfl)) rfl, sX9_law⟩
theorem sX10_law : Cond.selects yX10_law.cls yX10_law yX10_law ∈ ztb := ztb_t (zt7 _ (List.mem_of_getElem? (i := 120) rfl)) rfl
theorem gL_73 : Cond.methodLink "SmellAbbeyLaw" 73 yX10_law ∈ ztb ∧ Cond.instanceMethod yX10_law ∈ ztb ∧ Cond.selects yX10_law.cls yX10_law yX10_law ∈ ztb := ⟨ztb_t (zt7 _ (List.mem_of_getElem? (i := 118) rfl)) rfl, ztb_t (zt7 _ (List.mem_of_getElem? (i := 119) rfl)) rfl, sX10_law⟩
theorem sX9_cold : Cond.selects yX9_cold.cls yX9_cold yX9_cold ∈ ztb := ztb_t (zt4 _ (List.mem_of_getElem? (i := 18) rfl)) rfl
theorem gL_74 : Cond.methodLink "SmellAbbeyLaw" 74 yX9_cold ∈ ztb ∧ Cond.instanceMethod yX9_cold ∈ ztb ∧ Cond.selects yX9_cold.cls yX9_cold yX9_cold ∈ ztb := ⟨ztb_t (zt4 _ (List.mem_of_getElem? (i := 16) rfl)) rfl, ztb_t (zt4 _ (List.mem_of_getElem? (i := 17) rfl)) rfl, sX9_cold⟩
theorem sX10_cold : Cond.selects yX10_cold.cls yX10_cold yX10_cold ∈ ztb := ztb_t (zt7 _ (List.mem_of_getElem? (i := 125) rfl)) rfl
theorem gL_78 : Cond.methodLink "SmellAbbeyLaw" 78 yX10_cold ∈ ztb ∧ Cond.instanceMethod yX10_cold ∈ ztb ∧ Cond.selects yX10_cold.cls yX10_cold yX10_cold ∈ ztb := ⟨ztb_t (zt7 _ (List.mem_of_getElem? (i := 123) rfl)) rfl, ztb_t (zt7 _ (List.mem_of_getElem? (i := 124) rfl)) rfl, sX10_cold⟩
theorem sX9_wind : Cond.selects yX9_wind.cls yX9_wind yX9_wind ∈ ztb := ztb_t (zt4 _ (List.mem_of_getElem? (i := 30) rfl)) rfl
theorem gL_79 : Cond.methodLink "SmellAbbeyLaw" 79 yX9_wind ∈ ztb ∧ Cond.instanceMethod yX9_wind ∈ ztb ∧ Cond.selects yX9_wind.cls yX9_wind yX9_wind ∈ ztb := ⟨ztb_t (zt4 _ (List.mem_of_getElem? (i := 28) rfl)) rfl, ztb_t (zt4 _ (List.mem_of_getElem? (i := 29) rfl)) rfl, sX9_wind⟩
theorem sX10_wind : Cond.selects yX10_wind.cls yX10_wind yX10_wind ∈ ztb := ztb_t (zt7 _ (List.mem_of_getElem? (i := 137) rfl)) rfl
theorem gL_83 : Cond.methodLink "SmellAbbeyLaw" 83 yX10_wind ∈ ztb ∧ Cond.instanceMethod yX10_wind ∈ ztb ∧ Cond.selects yX10_wind.cls yX10_wind yX10_wind ∈ ztb := ⟨ztb_t (zt7 _ (List.mem_of_getElem? (i := 135) rfl)) rfl, ztb_t (zt7 _ (List.mem_of_getElem? (i := 136) rfl)) rfl, sX10_wind⟩
theorem sX9_buy : Cond.selects yX9_buy.cls yX9_buy yX9_buy ∈ ztb := ztb_t (zt4 _ (List.mem_of_getElem? (i := 34) rfl)) rfl
theorem gL_84 : Cond.methodLink "SmellAbbeyLaw" 84 yX9_buy ∈ ztb ∧ Cond.instanceMethod yX9_buy ∈ ztb ∧ Cond.selects yX9_buy.cls yX9_buy yX9_buy ∈ ztb := ⟨ztb_t (zt4 _ (List.mem_of_getElem? (i := 32) rfl)) rfl, ztb_t (zt4 _ (List.mem_of_getElem? (i := 33) rfl)) rfl, sX9_buy⟩
theorem sX10_buy : Cond.selects yX10_buy.cls yX10_buy yX10_buy ∈ ztb := ztb_t (zt7 _ (List.mem_of_getElem? (i := 141) rfl)) rfl
theorem gL_87 : Cond.methodLink "SmellAbbeyLaw" 87 yX10_buy ∈ ztb ∧ Cond.instanceMethod yX10_buy ∈ ztb ∧ Cond.selects yX10_buy.cls yX10_buy yX10_buy ∈ ztb := ⟨ztb_t (zt7 _ (List.mem_of_getElem? (i := 139) rfl)) rfl, ztb_t (zt7 _ (List.mem_of_getElem? (i := 140) rfl)) rfl, sX10_buy⟩
theorem sX9_goes : Cond.selects yX9_goes.cls yX9_goes yX9_goes ∈ ztb := ztb_t (zt4 _ (List.mem_of_getElem? (i := 38) rfl)) rfl
theorem gL_88 : Cond.methodLink "SmellAbbeyLaw" 88 yX9_goes ∈ ztb ∧ Cond.instanceMethod yX9_goes ∈ ztb ∧ Cond.selects yX9_goes.cls yX9_goes yX9_goes ∈ ztb := ⟨ztb_t (zt4 _ (List.mem_of_getElem? (i := 36) rfl)) rfl, ztb_t (zt4 _ (List.mem_of_getElem? (i := 37) rfl)) rfl, sX9_goes⟩
theorem sX10_goes : Cond.selects yX10_goes.cls yX10_goes yX10_goes ∈ ztb := ztb_t (zt7 _ (List.mem_of_getElem? (i := 145) rfl)) rfl
theorem gL_91 : Cond.methodLink "SmellAbbeyLaw" 91 yX10_goes ∈ ztb ∧ Cond.instanceMethod yX10_goes ∈ ztb ∧ Cond.selects yX10_goes.cls yX10_goes yX10_goes ∈ ztb := ⟨ztb_t (zt7 _ (List.mem_of_getElem? (i := 143) rfl)) rfl, ztb_t (zt7 _ (List.mem_of_getElem? (i := 144) rfl)) rfl, sX10_goes⟩
theorem sX9_go : Cond.selects yX9_go.cls yX9_go yX9_go ∈ ztb := ztb_t (zt4 _ (List.mem_of_getElem? (i := 42) rfl)) rfl
theorem gL_92 : Cond.methodLink "SmellAbbeyLaw" 92 yX9_go ∈ ztb ∧ Cond.instanceMethod yX9_go ∈ ztb ∧ Cond.selects yX9_go.cls yX9_go yX9_go ∈ ztb := ⟨ztb_t (zt4 _ (List.mem_of_getElem? (i := 40) rfl)) rfl, ztb_t (zt4 _ (List.mem_of_getElem? (i := 41) rfl)) rfl, sX9_go⟩
theorem sX10_go : Cond.selects yX10_go.cls yX10_go yX10_go ∈ ztb := ztb_t (zt7 _ (List.mem_of_getElem? (i := 149) rfl)) rfl
theorem gL_95 : Cond.methodLink "SmellAbbeyLaw" 95 yX10_go ∈ ztb ∧ Cond.instanceMethod yX10_go ∈ ztb ∧ Cond.selects yX10_go.cls yX10_go yX10_go ∈ ztb := ⟨ztb_t (zt7 _ (List.mem_of_getElem? (i := 147) rfl)) rfl, ztb_t (zt7 _ (List.mem_of_getElem? (i := 148) rfl)) rfl, sX10_go⟩
theorem sX9_mixedUp : Cond.selects yX9_mixedUp.cls yX9_mixedUp yX9_mixedUp ∈ ztb := ztb_t (zt4 _ (List.mem_of_getElem? (i := 78) rfl)) rfl
theorem gL_96 : Cond.methodLink "SmellAbbeyLaw" 96 yX9_mixedUp ∈ ztb ∧ Cond.instanceMethod yX9_mixedUp ∈ ztb ∧ Cond.selects yX9_mixedUp.cls yX9_mixedUp yX9_mixedUp ∈ ztb := ⟨ztb_t (zt4 _ (List.mem_of_getElem? (i := 76) rfl)) rfl, ztb_t (zt4 _ (List.mem_of_getElem? (i := 77) rfl)) rfl, sX9_mixedUp⟩
theorem sX10_mixedUp : Cond.selects yX10_mixedUp.cls yX10_mixedUp yX10_mixedUp ∈ ztb := ztb_t (zt7 _ (List.mem_of_getElem? (i := 178) rfl)) rfl
theorem gL_99 : Cond.methodLink "SmellAbbeyLaw" 99 yX10_mixedUp ∈ ztb ∧ Cond.instanceMethod yX10_mixedUp ∈ ztb ∧ Cond.selects yX10_mixedUp.cls yX10_mixedUp yX10_mixedUp ∈ ztb := ⟨ztb_t (zt7 _ (List.mem_of_getElem? (i := 176) rfl)) rfl, ztb_t (zt7 _ (List.mem_of_getElem? (i := 177) rfl)) rfl, sX10_mixedUp⟩
theorem sX9_pair : Cond.selects yX9_pair.cls yX9_pair yX9_pair ∈ ztb := ztb_t (zt4 _ (List.mem_of_getElem? (i := 91) rfl)) rfl
theorem gL_100 : Cond.methodLink "SmellAbbeyLaw" 100 yX9_pair ∈ ztb ∧ Cond.instanceMethod yX9_pair ∈ ztb ∧ Cond.selects yX9_pair.cls yX9_pair yX9_pair ∈ ztb := ⟨ztb_t (zt4 _ (List.mem_of_getElem? (i := 89) rfl)) rfl, ztb_t (zt4 _ (List.mem_of_getElem? (i := 90) rfl)) rfl, sX9_pair⟩
theorem sX10_pair : Cond.selects yX10_pair.cls yX10_pair yX10_pair ∈ ztb := ztb_t (zt7 _ (List.mem_of_getElem? (i := 190) rfl)) rfl
theorem gL_103 : Cond.methodLink "SmellAbbeyLaw" 103 yX10_pair ∈ ztb ∧ Cond.instanceMethod yX10_pair ∈ ztb ∧ Cond.selects yX10_pair.cls yX10_pair yX10_pair ∈ ztb := ⟨ztb_t (zt7 _ (List.mem_of_getElem? (i := 188) rfl)) rfl, ztb_t (zt7 _ (List.mem_of_getElem? (i := 189) rfl)) rfl, sX10_pair⟩
theorem sX9_mending : Cond.selects yX9_mending.cls yX9_mending yX9_mending ∈ ztb := ztb_t (zt4 _ (List.mem_of_getElem? (i := 95) rfl)) rfl
theorem gL_104 : Cond.methodLink "SmellAbbeyLaw" 104 yX9_mending ∈ ztb ∧ Cond.instanceMethod yX9_mending ∈ ztb ∧ Cond.selects yX9_mending.cls yX9_mending yX9_mending ∈ ztb := ⟨ztb_t (zt4 _ (List.mem_of_getElem? (i := 93) rfl)) rfl, ztb_t (zt4 _ (List.mem_of_getElem? (i := 94) rfl)) rfl, sX9_mending⟩
theorem sX10_mending : Cond.selects yX10_mending.cls yX10_mending yX10_mending ∈ ztb := ztb_t (zt7 _ (List.mem_of_getElem? (i := 194) rfl)) rfl
theorem gL_108 : Cond.methodLink "SmellAbbeyLaw" 108 yX10_mending ∈ ztb ∧ Cond.instanceMethod yX10_mending ∈ ztb ∧ Cond.selects yX10_mending.cls yX10_mending yX10_mending ∈ ztb := ⟨ztb_t (zt7 _ (List.mem_of_getElem? (i := 192) rfl)) rfl, ztb_t (zt7 _ (List.mem_of_getElem? (i := 193) rfl)) rfl, sX10_mending⟩
theorem sX9_placeTo : Cond.selects yX9_placeTo.cls yX9_placeTo yX9_placeTo ∈ ztb := ztb_t (zt4 _ (List.mem_of_getElem? (i := 106) rfl)) rfl
theorem gL_109 : Cond.methodLink "SmellAbbeyLaw" 109 yX9_placeTo ∈ ztb ∧ Cond.instanceMethod yX9_placeTo ∈ ztb ∧ Cond.selects yX9_placeTo.cls yX9_placeTo yX9_placeTo ∈ ztb := ⟨ztb_t (zt4 _ (List.mem_of_getElem? (i := 104) rfl)) rfl, ztb_t (zt4 _ (List.mem_of_getElem? (i := 105) rfl)) rfl, sX9_placeTo⟩
theorem sX10_placeTo : Cond.selects yX10_placeTo.cls yX10_placeTo yX10_placeTo ∈ ztb := ztb_t (zt7 _ (List.mem_of_getElem? (i := 199) rfl)) rfl
theorem gL_112 : Cond.methodLink "SmellAbbeyLaw" 112 yX10_placeTo ∈ ztb ∧ Cond.instanceMethod yX10_placeTo ∈ ztb ∧ Cond.selects yX10_placeTo.cls yX10_placeTo yX10_placeTo ∈ ztb := ⟨ztb_t (zt7 _ (List.mem_of_getElem? (i := 197) rfl)) rfl, ztb_t (zt7 _ (List.mem_of_getElem? (i := 198) rfl)) rfl, sX10_placeTo⟩
theorem sX9_lasts : Cond.selects yX9_lasts.cls yX9_lasts yX9_lasts ∈ ztb := ztb_t (zt4 _ (List.mem_of_getElem? (i := 114) rfl)) rfl
theorem gL_113 : Cond.methodLink "SmellAbbeyLaw" 113 yX9_lasts ∈ ztb ∧ Cond.instanceMethod yX9_lasts ∈ ztb ∧ Cond.selects yX9_lasts.cls yX9_lasts yX9_lasts ∈ ztb := ⟨ztb_t (zt4 _ (List.mem_of_getElem? (i := 112) rfl)) rfl, ztb_t (zt4 _ (List.mem_of_getElem? (i := 113) rfl)) rfl, sX9_lasts⟩
theorem sX10_lasts : Cond.selects yX10_lasts.cls yX10_lasts yX10_lasts ∈ ztb := ztb_t (zt7 _ (List.mem_of_getElem? (i := 203) rfl)) rfl
theorem gL_116 : Cond.methodLink "SmellAbbeyLaw" 116 yX10_lasts ∈ ztb ∧ Cond.instanceMethod yX10_lasts ∈ ztb ∧ Cond.selects yX10_lasts.cls yX10_lasts yX10_lasts ∈ ztb := ⟨ztb_t (zt7 _ (List.mem_of_getElem? (i := 201) rfl)) rfl, ztb_t (zt7 _ (List.mem_of_getElem? (i := 202) rfl)) rfl, sX10_lasts⟩
theorem sX9_needs : Cond.selects yX9_needs.cls yX9_needs yX9_needs ∈ ztb := ztb_t (zt4 _ (List.mem_of_getElem? (i := 130) rfl)) rfl
theorem gL_117 : Cond.methodLink "SmellAbbeyLaw" 117 yX9_needs ∈ ztb ∧ Cond.instanceMethod yX9_needs ∈ ztb ∧ Cond.selects yX9_needs.cls yX9_needs yX9_needs ∈ ztb := ⟨ztb_t (zt4 _ (List.mem_of_getElem? (i := 128) rfl)) rfl, ztb_t (zt4 _ (List.mem_of_getElem? (i := 129) rfl)) rfl, sX9_needs⟩
theorem sX10_needs : Cond.selects yX10_needs.cls yX10_needs yX10_needs ∈ ztb := ztb_t (zt7 _ (List.mem_of_getElem? (i := 207) rfl)) rfl
theorem gL_120 : Cond.methodLink "SmellAbbeyLaw" 120 yX10_needs ∈ ztb ∧ Cond.instanceMethod yX10_needs ∈ ztb ∧ Cond.selects yX10_needs.cls yX10_needs yX10_needs ∈ ztb := ⟨ztb_t (zt7 _ (List.mem_of_getElem? (i := 205) rfl)) rfl, ztb_t (zt7 _ (List.mem_of_getElem? (i := 206) rfl)) rfl, sX10_needs⟩
theorem sX9_dearest : Cond.selects yX9_dearest.cls yX9_dearest yX9_dearest ∈ ztb := ztb_t (zt4 _ (List.mem_of_getElem? (i := 135) rfl)) rfl
theorem gL_121 : Cond.methodLink "SmellAbbeyLaw" 121 yX9_dearest ∈ ztb ∧ Cond.instanceMethod yX9_dearest ∈ ztb ∧ Cond.selects yX9_dearest.cls yX9_dearest yX9_dearest ∈ ztb := ⟨ztb_t (zt4 _ (List.mem_of_getElem? (i := 133) rfl)) rfl, ztb_t (zt4 _ (List.mem_of_getElem? (i := 134) rfl)) rfl, sX9_dearest⟩
theorem sX10_dearest : Cond.selects yX10_dearest.cls yX10_dearest yX10_dearest ∈ ztb := ztb_t (zt7 _ (List.mem_of_getElem? (i := 211) rfl)) rfl
theorem gL_124 : Cond.methodLink "SmellAbbeyLaw" 124 yX10_dearest ∈ ztb ∧ Cond.instanceMethod yX10_dearest ∈ ztb ∧ Cond.selects yX10_dearest.cls yX10_dearest yX10_dearest ∈ ztb := ⟨ztb_t (zt7 _ (List.mem_of_getElem? (i := 209) rfl)) rfl, ztb_t (zt7 _ (List.mem_of_getElem? (i := 210) rfl)) rfl, sX10_dearest⟩
theorem sX9_inPlace : Cond.selects yX9_inPlace.cls yX9_inPlace yX9_inPlace ∈ ztb := ztb_t (zt4 _ (List.mem_of_getElem? (i := 139) rfl)) rfl
theorem gL_125 : Cond.methodLink "SmellAbbeyLaw" 125 yX9_inPlace ∈ ztb ∧ Cond.instanceMethod yX9_inPlace ∈ ztb ∧ Cond.selects yX9_inPlace.cls yX9_inPlace yX9_inPlace ∈ ztb := ⟨ztb_t (zt4 _ (List.mem_of_getElem? (i := 137) rfl)) rfl, ztb_t (zt4 _ (List.mem_of_getElem? (i := 138) rfl)) rfl, sX9_inPlace⟩
theorem sX10_inPlace : Cond.selects yX10_inPlace.cls yX10_inPlace yX10_inPlace ∈ ztb := ztb_t (zt7 _ (List.mem_of_getElem? (i := 215) rfl)) rfl
theorem gL_128 : Cond.methodLink "SmellAbbeyLaw" 128 yX10_inPlace ∈ ztb ∧ Cond.instanceMethod yX10_inPlace ∈ ztb ∧ Cond.selects yX10_inPlace.cls yX10_inPlace yX10_inPlace ∈ ztb := ⟨ztb_t (zt7 _ (List.mem_of_getElem? (i := 213) rfl)) rfl, ztb_t (zt7 _ (List.mem_of_getElem? (i := 214) rfl)) rfl, sX10_inPlace⟩
theorem sX9_letter : Cond.selects yX9_letter.cls yX9_letter yX9_letter ∈ ztb := ztb_t (zt4 _ (List.mem_of_getElem? (i := 148) rfl)) rfl
theorem gL_129 : Cond.methodLink "SmellAbbeyLaw" 129 yX9_letter ∈ ztb ∧ Cond.instanceMethod yX9_letter ∈ ztb ∧ Cond.selects yX9_letter.cls yX9_letter yX9_letter ∈ ztb := ⟨ztb_t (zt4 _ (List.mem_of_getElem? (i := 146) rfl)) rfl, ztb_t (zt4 _ (List.mem_of_getElem? (i := 147) rfl)) rfl, sX9_letter⟩
theorem sX10_letter : Cond.selects yX10_letter.cls yX10_letter yX10_letter ∈ ztb := ztb_t (zt7 _ (List.mem_of_getElem? (i := 219) rfl)) rfl
theorem gL_133 : Cond.methodLink "SmellAbbeyLaw" 133 yX10_letter ∈ ztb ∧ Cond.instanceMethod yX10_letter ∈ ztb ∧ Cond.selects yX10_letter.cls yX10_letter yX10_letter ∈ ztb := ⟨ztb_t (zt7 _ (List.mem_of_getElem? (i := 217) rfl)) rfl, ztb_t (zt7 _ (List.mem_of_getElem? (i := 218) rfl)) rfl, sX10_letter⟩
theorem sX9_firstWrong : Cond.selects yX9_firstWrong.cls yX9_firstWrong yX9_firstWrong ∈ ztb := ztb_t (zt4 _ (List.mem_of_getElem? (i := 152) rfl)) rfl
theorem gL_134 : Cond.methodLink "SmellAbbeyLaw" 134 yX9_firstWrong ∈ ztb ∧ Cond.instanceMethod yX9_firstWrong ∈ ztb ∧ Cond.selects yX9_firstWrong.cls yX9_firstWrong yX9_firstWrong ∈ ztb := ⟨ztb_t (zt4 _ (List.mem_of_getElem? (i := 150) rfl)) rfl, ztb_t (zt4 _ (List.mem_of_getElem? (i := 151) rfl)) rfl, sX9_firstWrong⟩
theorem sX10_firstWrong : Cond.selects yX10_firstWrong.cls yX10_firstWrong yX10_firstWrong ∈ ztb := ztb_t (zt7 _ (List.mem_of_getElem? (i := 223) rfl)) rfl
theorem gL_137 : Cond.methodLink "SmellAbbeyLaw" 137 yX10_firstWrong ∈ ztb ∧ Cond.instanceMethod yX10_firstWrong ∈ ztb ∧ Cond.selects yX10_firstWrong.cls yX10_firstWrong yX10_firstWrong ∈ ztb := ⟨ztb_t (zt7 _ (List.mem_of_getElem? (i := 221) rfl)) rfl, ztb_t (zt7 _ (List.mem_of_getElem? (i := 222) rfl)) rfl, sX10_firstWrong⟩
theorem sX9_rests : Cond.selects yX9_rests.cls yX9_rests yX9_rests ∈ ztb := ztb_t (zt4 _ (List.mem_of_getElem? (i := 156) rfl)) rfl
theorem gL_138 : Cond.methodLink "SmellAbbeyLaw" 138 yX9_rests ∈ ztb ∧ Cond.instanceMethod yX9_rests ∈ ztb ∧ Cond.selects yX9_rests.cls yX9_rests yX9_rests ∈ ztb := ⟨ztb_t (zt4 _ (List.mem_of_getElem? (i := 154) rfl)) rfl, ztb_t (zt4 _ (List.mem_of_getElem? (i := 155) rfl)) rfl, sX9_rests⟩
theorem sX10_rests : Cond.selects yX10_rests.cls yX10_rests yX10_rests ∈ ztb := ztb_t (zt7 _ (List.mem_of_getElem? (i := 227) rfl)) rfl
theorem gL_141 : Cond.methodLink "SmellAbbeyLaw" 141 yX10_rests ∈ ztb ∧ Cond.instanceMethod yX10_rests ∈ ztb ∧ Cond.selects yX10_rests.cls yX10_rests yX10_rests ∈ ztb := ⟨ztb_t (zt7 _ (List.mem_of_getElem? (i := 225) rfl)) rfl, ztb_t (zt7 _ (List.mem_of_getElem? (i := 226) rfl)) rfl, sX10_rests⟩
theorem sX9_rest : Cond.selects yX9_rest.cls yX9_rest yX9_rest ∈ ztb := ztb_t (zt4 _ (List.mem_of_getElem? (i := 176) rfl)) rfl
theorem gL_142 : Cond.methodLink "SmellAbbeyLaw" 142 yX9_rest ∈ ztb ∧ Cond.instanceMethod yX9_rest ∈ ztb ∧ Cond.selects yX9_rest.cls yX9_rest yX9_rest ∈ ztb := ⟨ztb_t (zt4 _ (List.mem_of_getElem? (i := 174) rfl)) rfl, ztb_t (zt4 _ (List.mem_of_getElem? (i := 175) rfl)) rfl, sX9_rest⟩
theorem sX10_rest : Cond.selects yX10_rest.cls yX10_rest yX10_rest ∈ ztb := ztb_t (zt8 _ (List.mem_of_getElem? (i := 7) rfl)) rfl
theorem gL_145 : Cond.methodLink "SmellAbbeyLaw" 145 yX10_rest ∈ ztb ∧ Cond.instanceMethod yX10_rest ∈ ztb ∧ Cond.selects yX10_rest.cls yX10_rest yX10_rest ∈ ztb := ⟨ztb_t (zt8 _ (List.mem_of_getElem? (i := 5) rfl)) rfl, ztb_t (zt8 _ (List.mem_of_getElem? (i := 6) rfl)) rfl, sX10_rest⟩
theorem sX9_note : Cond.selects yX9_note.cls yX9_note yX9_note ∈ ztb := ztb_t (zt4 _ (List.mem_of_getElem? (i := 180) rfl)) rfl
theorem gL_146 : Cond.methodLink "SmellAbbeyLaw" 146 yX9_note ∈ ztb ∧ Cond.instanceMethod yX9_note ∈ ztb ∧ Cond.selects yX9_note.cls yX9_note yX9_note ∈ ztb := ⟨ztb_t (zt4 _ (List.mem_of_getElem? (i := 178) rfl)) rfl, ztb_t (zt4 _ (List.mem_of_getElem? (i := 179) rfl)) rfl, sX9_note⟩
theorem sX10_note : Cond.selects yX10_note.cls yX10_note yX10_note ∈ ztb := ztb_t (zt8 _ (List.mem_of_getElem? (i := 11) rfl)) rfl
theorem gL_150 : Cond.methodLink "SmellAbbeyLaw" 150 yX10_note ∈ ztb ∧ Cond.instanceMethod yX10_note ∈ ztb ∧ Cond.selects yX10_note.cls yX10_note yX10_note ∈ ztb := ⟨ztb_t (zt8 _ (List.mem_of_getElem? (i := 9) rfl)) rfl, ztb_t (zt8 _ (List.mem_of_getElem? (i := 10) rfl)) rfl, sX10_note⟩
theorem sX9_out : Cond.selects yX9_out.cls yX9_out yX9_out ∈ ztb := ztb_t (zt4 _ (List.mem_of_getElem? (i := 188) rfl)) rfl
theorem gL_151 : Cond.methodLink "SmellAbbeyLaw" 151 yX9_out ∈ ztb ∧ Cond.instanceMethod yX9_out ∈ ztb ∧ Cond.selects yX9_out.cls yX9_out yX9_out ∈ ztb := ⟨ztb_t (zt4 _ (List.mem_of_getElem? (i := 186) rfl)) rfl, ztb_t (zt4 _ (List.mem_of_getElem? (i := 187) rfl)) rfl, sX9_out⟩
theorem sX10_out : Cond.selects yX10_out.cls yX10_out yX10_out ∈ ztb := ztb_t (zt8 _ (List.mem_of_getElem? (i := 15) rfl)) rfl
theorem gL_154 : Cond.methodLink "SmellAbbeyLaw" 154 yX10_out ∈ ztb ∧ Cond.instanceMethod yX10_out ∈ ztb ∧ Cond.selects yX10_out.cls yX10_out yX10_out ∈ ztb := ⟨ztb_t (zt8 _ (List.mem_of_getElem? (i := 13) rfl)) rfl, ztb_t (zt8 _ (List.mem_of_getElem? (i := 14) rfl)) rfl, sX10_out⟩
theorem sX9_known : Cond.selects yX9_known.cls yX9_known yX9_known ∈ ztb := ztb_t (zt4 _ (List.mem_of_getElem? (i := 196) rfl)) rfl
theorem gL_155 : Cond.methodLink "SmellAbbeyLaw" 155 yX9_known ∈ ztb ∧ Cond.instanceMethod yX9_known ∈ ztb ∧ Cond.selects yX9_known.cls yX9_known yX9_known ∈ ztb := ⟨ztb_t (zt4 _ (List.mem_of_getElem? (i := 194) rfl)) rfl, ztb_t (zt4 _ (List.mem_of_getElem? (i := 195) rfl)) rfl, sX9_known⟩
theorem sX10_known : Cond.selects yX10_known.cls yX10_known yX10_known ∈ ztb := ztb_t (zt8 _ (List.mem_of_getElem? (i := 19) rfl)) rfl
theorem gL_159 : Cond.methodLink "SmellAbbeyLaw" 159 yX10_known ∈ ztb ∧ Cond.instanceMethod yX10_known ∈ ztb ∧ Cond.selects yX10_known.cls yX10_known yX10_known ∈ ztb := ⟨ztb_t (zt8 _ (List.mem_of_getElem? (i := 17) rfl)) rfl, ztb_t (zt8 _ (List.mem_of_getElem? (i := 18) rfl)) rfl, sX10_known⟩
theorem sX9_colds : Cond.selects yX9_colds.cls yX9_colds yX9_colds ∈ ztb := ztb_t (zt4 _ (List.mem_of_getElem? (i := 200) rfl)) rfl
theorem gL_160 : Cond.methodLink "SmellAbbeyLaw" 160 yX9_colds ∈ ztb ∧ Cond.instanceMethod yX9_colds ∈ ztb ∧ Cond.selects yX9_colds.cls yX9_colds yX9_colds ∈ ztb := ⟨ztb_t (zt4 _ (List.mem_of_getElem? (i := 198) rfl)) rfl, ztb_t (zt4 _ (List.mem_of_getElem? (i := 199) rfl)) rfl, sX9_colds⟩
theorem sX10_colds : Cond.selects yX10_colds.cls yX10_colds yX10_colds ∈ ztb := ztb_t (zt8 _ (List.mem_of_getElem? (i := 23) rfl)) rfl
theorem gL_163 : Cond.methodLink "SmellAbbeyLaw" 163 yX10_colds ∈ ztb ∧ Cond.instanceMethod yX10_colds ∈ ztb ∧ Cond.selects yX10_colds.cls yX10_colds yX10_colds ∈ ztb := ⟨ztb_t (zt8 _ (List.mem_of_getElem? (i := 21) rfl)) rfl, ztb_t (zt8 _ (List.mem_of_getElem? (i := 22) rfl)) rfl, sX10_colds⟩
theorem sX9_chance : Cond.selects yX9_chance.cls yX9_chance yX9_chance ∈ ztb := ztb_t (zt4 _ (List.mem_of_getElem? (i := 229) rfl)) rfl
theorem gL_164 : Cond.methodLink "SmellAbbeyLaw" 164 yX9_chance ∈ ztb ∧ Cond.instanceMethod yX9_chance ∈ ztb ∧ Cond.selects yX9_chance.cls yX9_chance yX9_chance ∈ ztb := ⟨ztb_t (zt4 _ (List.mem_of_getElem? (i := 227) rfl)) rfl, ztb_t (zt4 _ (List.mem_of_getElem? (i := 228) rfl)) rfl, sX9_chance⟩
theorem sX10_chance : Cond.selects yX10_chance.cls yX10_chance yX10_chance ∈ ztb := ztb_t (zt8 _ (List.mem_of_getElem? (i := 39) rfl)) rfl
theorem gL_167 : Cond.methodLink "SmellAbbeyLaw" 167 yX10_chance ∈ ztb ∧ Cond.instanceMethod yX10_chance ∈ ztb ∧ Cond.selects yX10_chance.cls yX10_chance yX10_chance ∈ ztb := ⟨ztb_t (zt8 _ (List.mem_of_getElem? (i := 37) rfl)) rfl, ztb_t (zt8 _ (List.mem_of_getElem? (i := 38) rfl)) rfl, sX10_chance⟩
theorem sX9_tried : Cond.selects yX9_tried.cls yX9_tried yX9_tried ∈ ztb := ztb_t (zt5 _ (List.mem_of_getElem? (i := 9) rfl)) rfl
theorem gL_168 : Cond.methodLink "SmellAbbeyLaw" 168 yX9_tried ∈ ztb ∧ Cond.instanceMethod yX9_tried ∈ ztb ∧ Cond.selects yX9_tried.cls yX9_tried yX9_tried ∈ ztb := ⟨ztb_t (zt5 _ (List.mem_of_getElem? (i := 7) rfl)) rfl, ztb_t (zt5 _ (List.mem_of_getElem? (i := 8) rfl)) rfl, sX9_tried⟩
theorem sX10_tried : Cond.selects yX10_tried.cls yX10_tried yX10_tried ∈ ztb := ztb_t (zt8 _ (List.mem_of_getElem? (i := 49) rfl)) rfl
theorem gL_171 : Cond.methodLink "SmellAbbeyLaw" 171 yX10_tried ∈ ztb ∧ Cond.instanceMethod yX10_tried ∈ ztb ∧ Cond.selects yX10_tried.cls yX10_tried yX10_tried ∈ ztb := ⟨ztb_t (zt8 _ (List.mem_of_getElem? (i := 47) rfl)) rfl, ztb_t (zt8 _ (List.mem_of_getElem? (i := 48) rfl)) rfl, sX10_tried⟩
theorem sX9_undo : Cond.selects yX9_undo.cls yX9_undo yX9_undo ∈ ztb := ztb_t (zt5 _ (List.mem_of_getElem? (i := 19) rfl)) rfl
theorem gL_172 : Cond.methodLink "SmellAbbeyLaw" 172 yX9_undo ∈ ztb ∧ Cond.instanceMethod yX9_undo ∈ ztb ∧ Cond.selects yX9_undo.cls yX9_undo yX9_undo ∈ ztb := ⟨ztb_t (zt5 _ (List.mem_of_getElem? (i := 17) rfl)) rfl, ztb_t (zt5 _ (List.mem_of_getElem? (i := 18) rfl)) rfl, sX9_undo⟩
theorem sX10_undo : Cond.selects yX10_undo.cls yX10_undo yX10_undo ∈ ztb := ztb_t (zt8 _ (List.mem_of_getElem? (i := 53) rfl)) rfl
theorem gL_175 : Cond.methodLink "SmellAbbeyLaw" 175 yX10_undo ∈ ztb ∧ Cond.instanceMethod yX10_undo ∈ ztb ∧ Cond.selects yX10_undo.cls yX10_undo yX10_undo ∈ ztb := ⟨ztb_t (zt8 _ (List.mem_of_getElem? (i := 51) rfl)) rfl, ztb_t (zt8 _ (List.mem_of_getElem? (i := 52) rfl)) rfl, sX10_undo⟩
theorem sX9_keep : Cond.selects yX9_keep.cls yX9_keep yX9_keep ∈ ztb := ztb_t (zt5 _ (List.mem_of_getElem? (i := 27) rfl)) rfl
theorem gL_176 : Cond.methodLink "SmellAbbeyLaw" 176 yX9_keep ∈ ztb ∧ Cond.instanceMethod yX9_keep ∈ ztb ∧ Cond.selects yX9_keep.cls yX9_keep yX9_keep ∈ ztb := ⟨ztb_t (zt5 _ (List.mem_of_getElem? (i := 25) rfl)) rfl, ztb_t (zt5 _ (List.mem_of_getElem? (i := 26) rfl)) rfl, sX9_keep⟩
theorem sX10_keep : Cond.selects yX10_keep.cls yX10_keep yX10_keep ∈ ztb := ztb_t (zt8 _ (List.mem_of_getElem? (i := 57) rfl)) rfl
theorem gL_179 : Cond.methodLink "SmellAbbeyLaw" 179 yX10_keep ∈ ztb ∧ Cond.instanceMethod yX10_keep ∈ ztb ∧ Cond.selects yX10_keep.cls yX10_keep yX10_keep ∈ ztb := ⟨ztb_t (zt8 _ (List.mem_of_getElem? (i := 55) rfl)) rfl, ztb_t (zt8 _ (List.mem_of_getElem? (i := 56) rfl)) rfl, sX10_keep⟩
theorem sX9_back : Cond.selects yX9_back.cls yX9_back yX9_back ∈ ztb := ztb_t (zt5 _ (List.mem_of_getElem? (i := 31) rfl)) rfl
theorem gL_180 : Cond.methodLink "SmellAbbeyLaw" 180 yX9_back ∈ ztb ∧ Cond.instanceMethod yX9_back ∈ ztb ∧ Cond.selects yX9_back.cls yX9_back yX9_back ∈ ztb := ⟨ztb_t (zt5 _ (List.mem_of_getElem? (i := 29) rfl)) rfl, ztb_t (zt5 _ (List.mem_of_getElem? (i := 30) rfl)) rfl, sX9_back⟩
theorem sX10_back : Cond.selects yX10_back.cls yX10_back yX10_back ∈ ztb := ztb_t (zt8 _ (List.mem_of_getElem? (i := 61) rfl)) rfl
theorem gL_183 : Cond.methodLink "SmellAbbeyLaw" 183 yX10_back ∈ ztb ∧ Cond.instanceMethod yX10_back ∈ ztb ∧ Cond.selects yX10_back.cls yX10_back yX10_back ∈ ztb := ⟨ztb_t (zt8 _ (List.mem_of_getElem? (i := 59) rfl)) rfl, ztb_t (zt8 _ (List.mem_of_getElem? (i := 60) rfl)) rfl, sX10_back⟩
theorem sX9_count : Cond.selects yX9_count.cls yX9_count yX9_count ∈ ztb := ztb_t (zt5 _ (List.mem_of_getElem? (i := 35) rfl)) rfl
theorem gL_184 : Cond.methodLink "SmellAbbeyLaw" 184 yX9_count ∈ ztb ∧ Cond.instanceMethod yX9_count ∈ ztb ∧ Cond.selects yX9_count.cls yX9_count yX9_count ∈ ztb := ⟨ztb_t (zt5 _ (List.mem_of_getElem? (i := 33) rfl)) rfl, ztb_t (zt5 _ (List.mem_of_getElem? (i := 34) rfl)) rfl, sX9_count⟩
theorem sX10_count : Cond.selects yX10_count.cls yX10_count yX10_count ∈ ztb := ztb_t (zt8 _ (List.mem_of_getElem? (i := 65) rfl)) rfl
theorem gL_187 : Cond.methodLink "SmellAbbeyLaw" 187 yX10_count ∈ ztb ∧ Cond.instanceMethod yX10_count ∈ ztb ∧ Cond.selects yX10_count.cls yX10_count yX10_count ∈ ztb := ⟨ztb_t (zt8 _ (List.mem_of_getElem? (i := 63) rfl)) rfl, ztb_t (zt8 _ (List.mem_of_getElem? (i := 64) rfl)) rfl, sX10_count⟩
theorem sX10_begins : Cond.selects yX10_begins.cls yX10_begins yX10_begins ∈ ztb := zsel (q := (yX10_begins, 68)) (List.mem_of_getElem? (i := 45) rfl) rfl
theorem gX10_157 : Cond.methodLink "SmellAbbeyModel" 157 yX10_begins ∈ ztb ∧ Cond.instanceMethod yX10_begins ∈ ztb ∧ Cond.selects yX10_begins.cls yX10_begins yX10_begins ∈ ztb := ⟨ztb_t (zt5 _ (List.mem_of_getElem? (i := 139) rfl)) rfl, ztb_t (zt5 _ (List.mem_of_getElem? (i := 141) rfl)) rfl, sX10_begins⟩
theorem sX10_here : Cond.selects yX10_here.cls yX10_here yX10_here ∈ ztb := zsel (q := (yX10_here, 68)) (List.mem_of_getElem? (i := 49) rfl) rfl
theorem gX10_172 : Cond.methodLink "SmellAbbeyModel" 172 yX10_here ∈ ztb ∧ Cond.instanceMethod yX10_here ∈ ztb ∧ Cond.selects yX10_here.cls yX10_here yX10_here ∈ ztb := ⟨ztb_t (zt6 _ (List.mem_of_getElem? (i := 132) rfl)) rfl, ztb_t (zt6 _ (List.mem_of_getElem? (i := 134) rfl)) rfl, sX10_here⟩
theorem gX10_182 : Cond.methodLink "SmellAbbeyModel" 182 yX10_isSmall ∈ ztb ∧ Cond.static yX10_isSmall ∈ ztb := ⟨ztb_t (zt6 _ (List.mem_of_getElem? (i := 136) rfl)) rfl, ztb_t (zt6 _ (List.mem_of_getElem? (i := 137) rfl)) rfl⟩
theorem sX10_word : Cond.selects yX10_word.cls yX10_word yX10_word ∈ ztb := zsel (q := (yX10_word, 68)) (List.mem_of_getElem? (i := 50) rfl) rfl
theorem gX10_186 : Cond.methodLink "SmellAbbeyModel" 186 yX10_word ∈ ztb ∧ Cond.instanceMethod yX10_word ∈ ztb ∧ Cond.selects yX10_word.cls yX10_word yX10_word ∈ ztb := ⟨ztb_t (zt6 _ (List.mem_of_getElem? (i := 139) rfl)) rfl, ztb_t (zt6 _ (List.mem_of_getElem? (i := 141) rfl)) rfl, sX10_word⟩
theorem sX10_name : Cond.selects yX10_name.cls yX10_name yX10_name ∈ ztb := zsel (q := (yX10_name, 68)) (List.mem_of_getElem? (i := 51) rfl) rfl
theorem gX10_192 : Cond.methodLink "SmellAbbeyModel" 192 yX10_name ∈ ztb ∧ Cond.instanceMethod yX10_name ∈ ztb ∧ Cond.selects yX10_name.cls yX10_name yX10_name ∈ ztb := ⟨ztb_t (zt6 _ (List.mem_of_getElem? (i := 146) rfl)) rfl, ztb_t (zt6 _ (List.mem_of_getElem? (i := 148) rfl)) rfl, sX10_name⟩
theorem gX10_195 : Cond.methodLink "SmellAbbeyModel" 195 yX10_isDigit ∈ ztb ∧ Cond.static yX10_isDigit ∈ ztb := ⟨ztb_t (zt6 _ (List.mem_of_getElem? (i := 150) rfl)) rfl, ztb_t (zt6 _ (List.mem_of_getElem? (i := 151) rfl)) rfl⟩
theorem sX10_sign : Cond.selects yX10_sign.cls yX10_sign yX10_sign ∈ ztb := zsel (q := (yX10_sign, 68)) (List.mem_of_getElem? (i := 52) rfl) rfl
theorem gX10_199 : Cond.methodLink "SmellAbbeyModel" 199 yX10_sign ∈ ztb ∧ Cond.instanceMethod yX10_sign ∈ ztb ∧ Cond.selects yX10_sign.cls yX10_sign yX10_sign ∈ ztb := ⟨ztb_t (zt6 _ (List.mem_of_getElem? (i := 154) rfl)) rfl, ztb_t (zt6 _ (List.mem_of_getElem? (i := 156) rfl)) rfl, sX10_sign⟩
theorem sX10_token : Cond.selects yX10_token.cls yX10_token yX10_token ∈ ztb := zsel (q := (yX10_token, 68)) (List.mem_of_getElem? (i := 48) rfl) rfl
theorem gX10_220 : Cond.methodLink "SmellAbbeyModel" 220 yX10_token ∈ ztb ∧ Cond.instanceMethod yX10_token ∈ ztb ∧ Cond.selects yX10_token.cls yX10_token yX10_token ∈ ztb := ⟨ztb_t (zt6 _ (List.mem_of_getElem? (i := 128) rfl)) rfl, ztb_t (zt6 _ (List.mem_of_getElem? (i := 130) rfl)) rfl, sX10_token⟩
theorem sX10_wrong : Cond.selects yX10_wrong.cls yX10_wrong yX10_wrong ∈ ztb := zsel (q := (yX10_wrong, 68)) (List.mem_of_getElem? (i := 54) rfl) rfl
theorem gX10_223 : Cond.methodLink "SmellAbbeyModel" 223 yX10_wrong ∈ ztb ∧ Cond.instanceMethod yX10_wrong ∈ ztb ∧ Cond.selects yX10_wrong.cls yX10_wrong yX10_wrong ∈ ztb := ⟨ztb_t (zt6 _ (List.mem_of_getElem? (i := 162) rfl)) rfl, ztb_t (zt6 _ (List.mem_of_getElem? (i := 164) rfl)) rfl, sX10_wrong⟩
theorem gX10_226 : Cond.methodLink "SmellAbbeyModel" 226 yX10_found ∈ ztb ∧ Cond.static yX10_found ∈ ztb := ⟨ztb_t (zt6 _ (List.mem_of_getElem? (i := 178) rfl)) rfl, ztb_t (zt6 _ (List.mem_of_getElem? (i := 179) rfl)) rfl⟩
theorem sX10_fresher : Cond.selects yX10_fresher.cls yX10_fresher yX10_fresher ∈ ztb := zsel (q := (yX10_fresher, 68)) (List.mem_of_getElem? (i := 56) rfl) rfl
theorem gX10_230 : Cond.methodLink "SmellAbbeyModel" 230 yX10_fresher ∈ ztb ∧ Cond.instanceMethod yX10_fresher ∈ ztb ∧ Cond.selects yX10_fresher.cls yX10_fresher yX10_fresher ∈ ztb := ⟨ztb_t (zt6 _ (List.mem_of_getElem? (i := 170) rfl)) rfl, ztb_t (zt6 _ (List.mem_of_getElem? (i := 172) rfl)) rfl, sX10_fresher⟩
theorem sX10_isFull : Cond.selects yX10_isFull.cls yX10_isFull yX10_isFull ∈ ztb := zsel (q := (yX10_isFull, 68)) (List.mem_of_getElem? (i := 55) rfl) rfl
theorem gX10_234 : Cond.methodLink "SmellAbbeyModel" 234 yX10_isFull ∈ ztb ∧ Cond.instanceMethod yX10_isFull ∈ ztb ∧ Cond.selects yX10_isFull.cls yX10_isFull yX10_isFull ∈ ztb := ⟨ztb_t (zt6 _ (List.mem_of_getElem? (i := 166) rfl)) rfl, ztb_t (zt6 _ (List.mem_of_getElem? (i := 168) rfl)) rfl, sX10_isFull⟩
theorem sX10_fresh : Cond.selects yX10_fresh.cls yX10_fresh yX10_fresh ∈ ztb := zsel (q := (yX10_fresh, 68)) (List.mem_of_getElem? (i := 57) rfl) rfl
theorem gX10_240 : Cond.methodLink "SmellAbbeyModel" 240 yX10_fresh ∈ ztb ∧ Cond.instanceMethod yX10_fresh ∈ ztb ∧ Cond.selects yX10_fresh.cls yX10_fresh yX10_fresh ∈ ztb := ⟨ztb_t (zt6 _ (List.mem_of_getElem? (i := 174) rfl)) rfl, ztb_t (zt6 _ (List.mem_of_getElem? (i := 176) rfl)) rfl, sX10_fresh⟩
theorem sX10_numeral : Cond.selects yX10_numeral.cls yX10_numeral yX10_numeral ∈ ztb := zsel (q := (yX10_numeral, 68)) (List.mem_of_getElem? (i := 58) rfl) rfl
theorem gX10_244 : Cond.methodLink "SmellAbbeyModel" 244 yX10_numeral ∈ ztb ∧ Cond.instanceMethod yX10_numeral ∈ ztb ∧ Cond.selects yX10_numeral.cls yX10_numeral yX10_numeral ∈ ztb := ⟨ztb_t (zt6 _ (List.mem_of_getElem? (i := 181) rfl)) rfl, ztb_t (zt6 _ (List.mem_of_getElem? (i := 183) rfl)) rfl, sX10_numeral⟩
theorem sX10_reads : Cond.selects yX10_reads.cls yX10_reads yX10_reads ∈ ztb := zsel (q := (yX10_reads, 68)) (List.mem_of_getElem? (i := 47) rfl) rfl
theorem gX10_248 : Cond.methodLink "SmellAbbeyModel" 248 yX10_reads ∈ ztb ∧ Cond.instanceMethod yX10_reads ∈ ztb ∧ Cond.selects yX10_reads.cls yX10_reads yX10_reads ∈ ztb := ⟨ztb_t (zt6 _ (List.mem_of_getElem? (i := 124) rfl)) rfl, ztb_t (zt6 _ (List.mem_of_getElem? (i := 126) rfl)) rfl, sX10_reads⟩
theorem sX10_dayLine : Cond.selects yX10_dayLine.cls yX10_dayLine yX10_dayLine ∈ ztb := zsel (q := (yX10_dayLine, 68)) (List.mem_of_getElem? (i := 59) rfl) rfl
theorem gX10_252 : Cond.methodLink "SmellAbbeyModel" 252 yX10_dayLine ∈ ztb ∧ Cond.instanceMethod yX10_dayLine ∈ ztb ∧ Cond.selects yX10_dayLine.cls yX10_dayLine yX10_dayLine ∈ ztb := ⟨ztb_t (zt6 _ (List.mem_of_getElem? (i := 185) rfl)) rfl, ztb_t (zt6 _ (List.mem_of_getElem? (i := 187) rfl)) rfl, sX10_dayLine⟩
theorem sX10_mixLine : Cond.selects yX10_mixLine.cls yX10_mixLine yX10_mixLine ∈ ztb := zsel (q := (yX10_mixLine, 68)) (List.mem_of_getElem? (i := 61) rfl) rfl
theorem gX10_255 : Cond.methodLink "SmellAbbeyModel" 255 yX10_mixLine ∈ ztb ∧ Cond.instanceMethod yX10_mixLine ∈ ztb ∧ Cond.selects yX10_mixLine.cls yX10_mixLine yX10_mixLine ∈ ztb := ⟨ztb_t (zt6 _ (List.mem_of_getElem? (i := 193) rfl)) rfl, ztb_t (zt6 _ (List.mem_of_getElem? (i := 195) rfl)) rfl, sX10_mixLine⟩
theorem sX10_toldAhead : Cond.selects yX10_toldAhead.cls yX10_toldAhead yX10_toldAhead ∈ ztb := zsel (q := (yX10_toldAhead, 68)) (List.mem_of_getElem? (i := 62) rfl) rfl
theorem gX10_258 : Cond.methodLink "SmellAbbeyModel" 258 yX10_toldAhead ∈ ztb ∧ Cond.instanceMethod yX10_toldAhead ∈ ztb ∧ Cond.selects yX10_toldAhead.cls yX10_toldAhead yX10_toldAhead ∈ ztb := ⟨ztb_t (zt6 _ (List.mem_of_getElem? (i := 197) rfl)) rfl, ztb_t (zt6 _ (List.mem_of_getElem? (i := 199) rfl)) rfl, sX10_toldAhead⟩
theorem sX10_goOn : Cond.selects yX10_goOn.cls yX10_goOn yX10_goOn ∈ ztb := zsel (q := (yX10_goOn, 68)) (List.mem_of_getElem? (i := 63) rfl) rfl
theorem gX10_261 : Cond.methodLink "SmellAbbeyModel" 261 yX10_goOn ∈ ztb ∧ Cond.instanceMethod yX10_goOn ∈ ztb ∧ Cond.selects yX10_goOn.cls yX10_goOn yX10_goOn ∈ ztb := ⟨ztb_t (zt6 _ (List.mem_of_getElem? (i := 201) rfl)) rfl, ztb_t (zt6 _ (List.mem_of_getElem? (i := 203) rfl)) rfl, sX10_goOn⟩
theorem sX10_lawLine : Cond.selects yX10_lawLine.cls yX10_lawLine yX10_lawLine ∈ ztb := zsel (q := (yX10_lawLine, 68)) (List.mem_of_getElem? (i := 64) rfl) rfl
theorem gX10_264 : Cond.methodLink "SmellAbbeyModel" 264 yX10_lawLine ∈ ztb ∧ Cond.instanceMethod yX10_lawLine ∈ ztb ∧ Cond.selects yX10_lawLine.cls yX10_lawLine yX10_lawLine ∈ ztb := ⟨ztb_t (zt6 _ (List.mem_of_getElem? (i := 205) rfl)) rfl, ztb_t (zt6 _ (List.mem_of_getElem? (i := 207) rfl)) rfl, sX10_lawLine⟩
theorem sX10_isSign : Cond.selects yX10_isSign.cls yX10_isSign yX10_isSign ∈ ztb := zsel (q := (yX10_isSign, 68)) (List.mem_of_getElem? (i := 73) rfl) rfl
theorem gX10_267 : Cond.methodLink "SmellAbbeyModel" 267 yX10_isSign ∈ ztb ∧ Cond.instanceMethod yX10_isSign ∈ ztb ∧ Cond.selects yX10_isSign.cls yX10_isSign yX10_isSign ∈ ztb := ⟨ztb_t (zt7 _ (List.mem_of_getElem? (i := 1) rfl)) rfl, ztb_t (zt7 _ (List.mem_of_getElem? (i := 3) rfl)) rfl, sX10_isSign⟩
theorem sX10_isWord : Cond.selects yX10_isWord.cls yX10_isWord yX10_isWord ∈ ztb := zsel (q := (yX10_isWord, 68)) (List.mem_of_getElem? (i := 60) rfl) rfl
theorem gX10_273 : Cond.methodLink "SmellAbbeyModel" 273 yX10_isWord ∈ ztb ∧ Cond.instanceMethod yX10_isWord ∈ ztb ∧ Cond.selects yX10_isWord.cls yX10_isWord yX10_isWord ∈ ztb := ⟨ztb_t (zt6 _ (List.mem_of_getElem? (i := 189) rfl)) rfl, ztb_t (zt6 _ (List.mem_of_getElem? (i := 191) rfl)) rfl, sX10_isWord⟩
theorem sX10_expression : Cond.selects yX10_expression.cls yX10_expression yX10_expression ∈ ztb := zsel (q := (yX10_expression, 68)) (List.mem_of_getElem? (i := 65) rfl) rfl
theorem gX10_276 : Cond.methodLink "SmellAbbeyModel" 276 yX10_expression ∈ ztb ∧ Cond.instanceMethod yX10_expression ∈ ztb ∧ Cond.selects yX10_expression.cls yX10_expression yX10_expression ∈ ztb := ⟨ztb_t (zt6 _ (List.mem_of_getElem? (i := 209) rfl)) rfl, ztb_t (zt6 _ (List.mem_of_getElem? (i := 211) rfl)) rfl, sX10_expression⟩
theorem sX10_conjunction : Cond.selects yX10_conjunction.cls yX10_conjunction yX10_conjunction ∈ ztb := zsel (q := (yX10_conjunction, 68)) (List.mem_of_getElem? (i := 66) rfl) rfl
theorem gX10_282 : Cond.methodLink "SmellAbbeyModel" 282 yX10_conjunction ∈ ztb ∧ Cond.instanceMethod yX10_conjunction ∈ ztb ∧ Cond.selects yX10_conjunction.cls yX10_conjunction yX10_conjunction ∈ ztb := ⟨ztb_t (zt6 _ (List.mem_of_getElem? (i := 213) rfl)) rfl, ztb_t (zt6 _ (List.mem_of_getElem? (i := 215) rfl)) rfl, sX10_conjunction⟩
theorem sX10_knot : Cond.selects yX10_knot.cls yX10_knot yX10_knot ∈ ztb := zsel (q := (yX10_knot, 68)) (List.mem_of_getElem? (i := 68) rfl) rfl
theorem gX10_285 : Cond.methodLink "SmellAbbeyModel" 285 yX10_knot ∈ ztb ∧ Cond.instanceMethod yX10_knot ∈ ztb ∧ Cond.selects yX10_knot.cls yX10_knot yX10_knot ∈ ztb := ⟨ztb_t (zt6 _ (List.mem_of_getElem? (i := 221) rfl)) rfl, ztb_t (zt6 _ (List.mem_of_getElem? (i := 223) rfl)) rfl, sX10_knot⟩
theorem sX10_puts : Cond.selects yX10_puts.cls yX10_puts yX10_puts ∈ ztb := zsel (q := (yX10_puts, 68)) (List.mem_of_getElem? (i := 69) rfl) rfl
theorem gX10_288 : Cond.methodLink "SmellAbbeyModel" 288 yX10_puts ∈ ztb ∧ Cond.instanceMethod yX10_puts ∈ ztb ∧ Cond.selects yX10_puts.cls yX10_puts yX10_puts ∈ ztb := ⟨ztb_t (zt6 _ (List.mem_of_getElem? (i := 225) rfl)) rfl, ztb_t (zt6 _ (List.mem_of_getElem? (i := 227) rfl)) rfl, sX10_puts⟩
theorem sX10_negation : Cond.selects yX10_negation.cls yX10_negation yX10_negation ∈ ztb := zsel (q := (yX10_negation, 68)) (List.mem_of_getElem? (i := 67) rfl) rfl
theorem gX10_291 : Cond.methodLink "SmellAbbeyModel" 291 yX10_negation ∈ ztb ∧ Cond.instanceMethod yX10_negation ∈ ztb ∧ Cond.selects yX10_negation.cls yX10_negation yX10_negation ∈ ztb := ⟨ztb_t (zt6 _ (List.mem_of_getElem? (i := 217) rfl)) rfl, ztb_t (zt6 _ (List.mem_of_getElem? (i := 219) rfl)) rfl, sX10_negation⟩
theorem sX10_sum : Cond.selects yX10_sum.cls yX10_sum yX10_sum ∈ ztb := zsel (q := (yX10_sum, 68)) (List.mem_of_getElem? (i := 70) rfl) rfl
theorem gX10_294 : Cond.methodLink "SmellAbbeyModel" 294 yX10_sum ∈ ztb ∧ Cond.instanceMethod yX10_sum ∈ ztb ∧ Cond.selects yX10_sum.cls yX10_sum yX10_sum ∈ ztb := ⟨ztb_t (zt6 _ (List.mem_of_getElem? (i := 229) rfl)) rfl, ztb_t (zt6 _ (List.mem_of_getElem? (i := 231) rfl)) rfl, sX10_sum⟩
theorem sX10_product : Cond.selects yX10_product.cls yX10_product yX10_product ∈ ztb := zsel (q := (yX10_product, 68)) (List.mem_of_getElem? (i := 71) rfl) rfl
theorem gX10_297 : Cond.methodLink "SmellAbbeyModel" 297 yX10_product ∈ ztb ∧ Cond.instanceMethod yX10_product ∈ ztb ∧ Cond.selects yX10_product.cls yX10_product yX10_product ∈ ztb := ⟨ztb_t (zt6 _ (List.mem_of_getElem? (i := 233) rfl)) rfl, ztb_t (zt6 _ (List.mem_of_getElem? (i := 235) rfl)) rfl, sX10_product⟩
theorem sX10_primary : Cond.selects yX10_primary.cls yX10_primary yX10_primary ∈ ztb := zsel (q := (yX10_primary, 68)) (List.mem_of_getElem? (i := 72) rfl) rfl
theorem gX10_300 : Cond.methodLink "SmellAbbeyModel" 300 yX10_primary ∈ ztb ∧ Cond.instanceMethod yX10_primary ∈ ztb ∧ Cond.selects yX10_primary.cls yX10_primary yX10_primary ∈ ztb := ⟨ztb_t (zt6 _ (List.mem_of_getElem? (i := 237) rfl)) rfl, ztb_t (zt6 _ (List.mem_of_getElem? (i := 239) rfl)) rfl, sX10_primary⟩
theorem sX10_line : Cond.selects yX10_line.cls yX10_line yX10_line ∈ ztb := zsel (q := (yX10_line, 68)) (List.mem_of_getElem? (i := 53) rfl) rfl
theorem gX10_306 : Cond.methodLink "SmellAbbeyModel" 306 yX10_line ∈ ztb ∧ Cond.instanceMethod yX10_line ∈ ztb ∧ Cond.selects yX10_line.cls yX10_line yX10_line ∈ ztb := ⟨ztb_t (zt6 _ (List.mem_of_getElem? (i := 158) rfl)) rfl, ztb_t (zt6 _ (List.mem_of_getElem? (i := 160) rfl)) rfl, sX10_line⟩
theorem gX10_312 : Cond.methodLink "SmellAbbeyModel" 312 yX10_half ∈ ztb ∧ Cond.static yX10_half ∈ ztb := ⟨ztb_t (zt7 _ (List.mem_of_getElem? (i := 5) rfl)) rfl, ztb_t (zt7 _ (List.mem_of_getElem? (i := 6) rfl)) rfl⟩
theorem gX10_329 : Cond.methodLink "SmellAbbeyModel" 329 yX10_is ∈ ztb ∧ Cond.static yX10_is ∈ ztb := ⟨ztb_t (zt7 _ (List.mem_of_getElem? (i := 56) rfl)) rfl, ztb_t (zt7 _ (List.mem_of_getElem? (i := 57) rfl)) rfl⟩
theorem gX10_333 : Cond.methodLink "SmellAbbeyModel" 333 yJ9_abs_067f4 ∈ ztb ∧ Cond.static yJ9_abs_067f4 ∈ ztb := ⟨ztb_t (zt7 _ (List.mem_of_getElem? (i := 59) rfl)) rfl, ztb_t (zt7 _ (List.mem_of_getElem? (i := 60) rfl)) rfl⟩
theorem sX10_works : Cond.selects yX10_works.cls yX10_works yX10_works ∈ ztb := zsel (q := (yX10_works, 68)) (List.mem_of_getElem? (i := 81) rfl) rfl
theorem gX10_343 : Cond.methodLink "SmellAbbeyModel" 343 yX10_works ∈ ztb ∧ Cond.instanceMethod yX10_works ∈ ztb ∧ Cond.selects yX10_works.cls yX10_works yX10_works ∈ ztb := ⟨ztb_t (zt7 _ (List.mem_of_getElem? (i := 52) rfl)) rfl, ztb_t (zt7 _ (List.mem_of_getElem? (i := 54) rfl)) rfl, sX10_works⟩
theorem sX10_starts : Cond.selects yX10_starts.cls yX10_starts yX10_starts ∈ ztb := zsel (q := (yX10_starts, 68)) (List.mem_of_getElem? (i := 46) rfl) rfl
theorem gX10_346 : Cond.methodLink "SmellAbbeyModel" 346 yX10_starts ∈ ztb ∧ Cond.instanceMethod yX10_starts ∈ ztb ∧ Cond.selects yX10_starts.cls yX10_starts yX10_starts ∈ ztb := ⟨ztb_t (zt5 _ (List.mem_of_getElem? (i := 143) rfl)) rfl, ztb_t (zt5 _ (List.mem_of_getElem? (i := 145) rfl)) rfl, sX10_starts⟩
theorem sX10_hasLaw : Cond.selects yX10_hasLaw.cls yX10_hasLaw yX10_hasLaw ∈ ztb := zsel (q := (yX10_hasLaw, 68)) (List.mem_of_getElem? (i := 79) rfl) rfl
theorem gX10_355 : Cond.methodLink "SmellAbbeyModel" 355 yX10_hasLaw ∈ ztb ∧ Cond.instanceMethod yX10_hasLaw ∈ ztb ∧ Cond.selects yX10_hasLaw.cls yX10_hasLaw yX10_hasLaw ∈ ztb := ⟨ztb_t (zt7 _ (List.mem_of_getElem? (i := 44) rfl)) rfl, ztb_t (zt7 _ (List.mem_of_getElem? (i := 46) rfl)) rfl, sX10_hasLaw⟩
theorem sX10_comesOut : Cond.selects yX10_comesOut.cls yX10_comesOut yX10_comesOut ∈ ztb := zsel (q := (yX10_comesOut, 68)) (List.mem_of_getElem? (i := 80) rfl) rfl
theorem gX10_358 : Cond.methodLink "SmellAbbeyModel" 358 yX10_comesOut ∈ ztb ∧ Cond.instanceMethod yX10_comesOut ∈ ztb ∧ Cond.selects yX10_comesOut.cls yX10_comesOut yX10_comesOut ∈ ztb := ⟨ztb_t (zt7 _ (List.mem_of_getElem? (i := 48) rfl)) rfl, ztb_t (zt7 _ (List.mem_of_getElem? (i := 50) rfl)) rfl, sX10_comesOut⟩
theorem gX10_361 : Cond.methodLink "SmellAbbeyModel" 361 yJ9_min_f86c9 ∈ ztb ∧ Cond.static yJ9_min_f86c9 ∈ ztb := ⟨ztb_t (zt7 _ (List.mem_of_getElem? (i := 64) rfl)) rfl, ztb_t (zt3 _ (List.mem_of_getElem? (i := 204) rfl)) rfl⟩
theorem gX10_365 : Cond.methodLink "SmellAbbeyModel" 365 yJ9_max_f86c9 ∈ ztb ∧ Cond.static yJ9_max_f86c9 ∈ ztb := ⟨ztb_t (zt7 _ (List.mem_of_getElem? (i := 65) rfl)) rfl, ztb_t (zt3 _ (List.mem_of_getElem? (i := 207) rfl)) rfl⟩
theorem sX10_partIn : Cond.selects yX10_partIn.cls yX10_partIn yX10_partIn ∈ ztb := zsel (q := (yX10_partIn, 68)) (List.mem_of_getElem? (i := 87) rfl) rfl
theorem gX10_368 : Cond.methodLink "SmellAbbeyModel" 368 yX10_partIn ∈ ztb ∧ Cond.instanceMethod yX10_partIn ∈ ztb ∧ Cond.selects yX10_partIn.cls yX10_partIn yX10_partIn ∈ ztb := ⟨ztb_t (zt7 _ (List.mem_of_getElem? (i := 102) rfl)) rfl, ztb_t (zt7 _ (List.mem_of_getElem? (i := 104) rfl)) rfl, sX10_partIn⟩
theorem sX10_calls : Cond.selects yX10_calls.cls yX10_calls yX10_calls ∈ ztb := zsel (q := (yX10_calls, 68)) (List.mem_of_getElem? (i := 77) rfl) rfl
theorem gX10_371 : Cond.methodLink "SmellAbbeyModel" 371 yX10_calls ∈ ztb ∧ Cond.instanceMethod yX10_calls ∈ ztb ∧ Cond.selects yX10_calls.cls yX10_calls yX10_calls ∈ ztb := ⟨ztb_t (zt7 _ (List.mem_of_getElem? (i := 36) rfl)) rfl, ztb_t (zt7 _ (List.mem_of_getElem? (i := 38) rfl)) rfl, sX10_calls⟩
theorem sX10_within : Cond.selects yX10_within.cls yX10_within yX10_within ∈ ztb := zsel (q := (yX10_within, 68)) (List.mem_of_getElem? (i := 78) rfl) rfl
theorem gX10_375 : Cond.methodLink "SmellAbbeyModel" 375 yX10_within ∈ ztb ∧ Cond.instanceMethod yX10_within ∈ ztb ∧ Cond.selects yX10_within.cls yX10_within yX10_within ∈ ztb := ⟨ztb_t (zt7 _ (List.mem_of_getElem? (i := 40) rfl)) rfl, ztb_t (zt7 _ (List.mem_of_getElem? (i := 42) rfl)) rfl, sX10_within⟩
theorem sX10_keenIn : Cond.selects yX10_keenIn.cls yX10_keenIn yX10_keenIn ∈ ztb := zsel (q := (yX10_keenIn, 68)) (List.mem_of_getElem? (i := 86) rfl) rfl
theorem gX10_379 : Cond.methodLink "SmellAbbeyModel" 379 yX10_keenIn ∈ ztb ∧ Cond.instanceMethod yX10_keenIn ∈ ztb ∧ Cond.selects yX10_keenIn.cls yX10_keenIn yX10_keenIn ∈ ztb := ⟨ztb_t (zt7 _ (List.mem_of_getElem? (i := 98) rfl)) rfl, ztb_t (zt7 _ (List.mem_of_getElem? (i := 100) rfl)) rfl, sX10_keenIn⟩
theorem sX10_mixOf : Cond.selects yX10_mixOf.cls yX10_mixOf yX10_mixOf ∈ ztb := zsel (q := (yX10_mixOf, 68)) (List.mem_of_getElem? (i := 90) rfl) rfl
theorem gX10_383 : Cond.methodLink "SmellAbbeyModel" 383 yX10_mixOf ∈ ztb ∧ Cond.instanceMethod yX10_mixOf ∈ ztb ∧ Cond.selects yX10_mixOf.cls yX10_mixOf yX10_mixOf ∈ ztb := ⟨ztb_t (zt7 _ (List.mem_of_getElem? (i := 114) rfl)) rfl, ztb_t (zt7 _ (List.mem_of_getElem? (i := 116) rfl)) rfl, sX10_mixOf⟩
theorem sX10_keenOf : Cond.selects yX10_keenOf.cls yX10_keenOf yX10_keenOf ∈ ztb := zsel (q := (yX10_keenOf, 68)) (List.mem_of_getElem? (i := 85) rfl) rfl
theorem gX10_386 : Cond.methodLink "SmellAbbeyModel" 386 yX10_keenOf ∈ ztb ∧ Cond.instanceMethod yX10_keenOf ∈ ztb ∧ Cond.selects yX10_keenOf.cls yX10_keenOf yX10_keenOf ∈ ztb := ⟨ztb_t (zt7 _ (List.mem_of_getElem? (i := 94) rfl)) rfl, ztb_t (zt7 _ (List.mem_of_getElem? (i := 96) rfl)) rfl, sX10_keenOf⟩
theorem sX10_coldsOf : Cond.selects yX10_coldsOf.cls yX10_coldsOf yX10_coldsOf ∈ ztb := zsel (q := (yX10_coldsOf, 68)) (List.mem_of_getElem? (i := 88) rfl) rfl
theorem gX10_389 : Cond.methodLink "SmellAbbeyModel" 389 yX10_coldsOf ∈ ztb ∧ Cond.instanceMethod yX10_coldsOf ∈ ztb ∧ Cond.selects yX10_coldsOf.cls yX10_coldsOf yX10_coldsOf ∈ ztb := ⟨ztb_t (zt7 _ (List.mem_of_getElem? (i := 106) rfl)) rfl, ztb_t (zt7 _ (List.mem_of_getElem? (i := 108) rfl)) rfl, sX10_coldsOf⟩
theorem sX10_markBy : Cond.selects yX10_markBy.cls yX10_markBy yX10_markBy ∈ ztb := zsel (q := (yX10_markBy, 68)) (List.mem_of_getElem? (i := 89) rfl) rfl
theorem gX10_392 : Cond.methodLink "SmellAbbeyModel" 392 yX10_markBy ∈ ztb ∧ Cond.instanceMethod yX10_markBy ∈ ztb ∧ Cond.selects yX10_markBy.cls yX10_markBy yX10_markBy ∈ ztb := ⟨ztb_t (zt7 _ (List.mem_of_getElem? (i := 110) rfl)) rfl, ztb_t (zt7 _ (List.mem_of_getElem? (i := 112) rfl)) rfl, sX10_markBy⟩
theorem gX10_395 : Cond.methodLink "SmellAbbeyModel" 395 yJ9_min_7cf53 ∈ ztb ∧ Cond.static yJ9_min_7cf53 ∈ ztb := ⟨ztb_t (zt7 _ (List.mem_of_getElem? (i := 159) rfl)) rfl, ztb_t (zt3 _ (List.mem_of_getElem? (i := 1) rfl)) rfl⟩
theorem sX10_markOf : Cond.selects yX10_markOf.cls yX10_markOf yX10_markOf ∈ ztb := zsel (q := (yX10_markOf, 68)) (List.mem_of_getElem? (i := 84) rfl) rfl
theorem gX10_397 : Cond.methodLink "SmellAbbeyModel" 397 yX10_markOf ∈ ztb ∧ Cond.instanceMethod yX10_markOf ∈ ztb ∧ Cond.selects yX10_markOf.cls yX10_markOf yX10_markOf ∈ ztb := ⟨ztb_t (zt7 _ (List.mem_of_getElem? (i := 90) rfl)) rfl, ztb_t (zt7 _ (List.mem_of_getElem? (i := 92) rfl)) rfl, sX10_markOf⟩
theorem sX10_mixes : Cond.selects yX10_mixes.cls yX10_mixes yX10_mixes ∈ ztb := zsel (q := (yX10_mixes, 68)) (List.mem_of_getElem? (i := 94) rfl) rfl
theorem gX10_400 : Cond.methodLink "SmellAbbeyModel" 400 yX10_mixes ∈ ztb ∧ Cond.instanceMethod yX10_mixes ∈ ztb ∧ Cond.selects yX10_mixes.cls yX10_mixes yX10_mixes ∈ ztb := ⟨ztb_t (zt7 _ (List.mem_of_getElem? (i := 155) rfl)) rfl, ztb_t (zt7 _ (List.mem_of_getElem? (i := 157) rfl)) rfl, sX10_mixes⟩
theorem sX10_drifts : Cond.selects yX10_drifts.cls yX10_drifts yX10_drifts ∈ ztb := zsel (q := (yX10_drifts, 68)) (List.mem_of_getElem? (i := 95) rfl) rfl
theorem gX10_403 : Cond.methodLink "SmellAbbeyModel" 403 yX10_drifts ∈ ztb ∧ Cond.instanceMethod yX10_drifts ∈ ztb ∧ Cond.selects yX10_drifts.cls yX10_drifts yX10_drifts ∈ ztb := ⟨ztb_t (zt7 _ (List.mem_of_getElem? (i := 160) rfl)) rfl, ztb_t (zt7 _ (List.mem_of_getElem? (i := 162) rfl)) rfl, sX10_drifts⟩
theorem sX10_smells : Cond.selects yX10_smells.cls yX10_smells yX10_smells ∈ ztb := zsel (q := (yX10_smells, 68)) (List.mem_of_getElem? (i := 96) rfl) rfl
theorem gX10_406 : Cond.methodLink "SmellAbbeyModel" 406 yX10_smells ∈ ztb ∧ Cond.instanceMethod yX10_smells ∈ ztb ∧ Cond.selects yX10_smells.cls yX10_smells yX10_smells ∈ ztb := ⟨ztb_t (zt7 _ (List.mem_of_getElem? (i := 164) rfl)) rfl, ztb_t (zt7 _ (List.mem_of_getElem? (i := 166) rfl)) rfl, sX10_smells⟩
theorem sX10_thinks : Cond.selects yX10_thinks.cls yX10_thinks yX10_thinks ∈ ztb := zsel (q := (yX10_thinks, 68)) (List.mem_of_getElem? (i := 97) rfl) rfl
theorem gX10_409 : Cond.methodLink "SmellAbbeyModel" 409 yX10_thinks ∈ ztb ∧ Cond.instanceMethod yX10_thinks ∈ ztb ∧ Cond.selects yX10_thinks.cls yX10_thinks yX10_thinks ∈ ztb := ⟨ztb_t (zt7 _ (List.mem_of_getElem? (i := 168) rfl)) rfl, ztb_t (zt7 _ (List.mem_of_getElem? (i := 170) rfl)) rfl, sX10_thinks⟩
theorem sX10_keepsHouse : Cond.selects yX10_keepsHouse.cls yX10_keepsHouse yX10_keepsHouse ∈ ztb := zsel (q := (yX10_keepsHouse, 68)) (List.mem_of_getElem? (i := 98) rfl) rfl
theorem gX10_412 : Cond.methodLink "SmellAbbeyModel" 412 yX10_keepsHouse ∈ ztb ∧ Cond.instanceMethod yX10_keepsHouse ∈ ztb ∧ Cond.selects yX10_keepsHouse.cls yX10_keepsHouse yX10_keepsHouse ∈ ztb := ⟨ztb_t (zt7 _ (List.mem_of_getElem? (i := 172) rfl)) rfl, ztb_t (zt7 _ (List.mem_of_getElem? (i := 174) rfl)) rfl, sX10_keepsHouse⟩
theorem sX10_isMonk : Cond.selects yX10_isMonk.cls yX10_isMonk yX10_isMonk ∈ ztb := zsel (q := (yX10_isMonk, 68)) (List.mem_of_getElem? (i := 74) rfl) rfl
theorem gX10_415 : Cond.methodLink "SmellAbbeyModel" 415 yX10_isMonk ∈ ztb ∧ Cond.instanceMethod yX10_isMonk ∈ ztb ∧ Cond.selects yX10_isMonk.cls yX10_isMonk yX10_isMonk ∈ ztb := ⟨ztb_t (zt7 _ (List.mem_of_getElem? (i := 20) rfl)) rfl, ztb_t (zt7 _ (List.mem_of_getElem? (i := 22) rfl)) rfl, sX10_isMonk⟩
theorem sX10_isStuff : Cond.selects yX10_isStuff.cls yX10_isStuff yX10_isStuff ∈ ztb := zsel (q := (yX10_isStuff, 68)) (List.mem_of_getElem? (i := 75) rfl) rfl
theorem gX10_418 : Cond.methodLink "SmellAbbeyModel" 418 yX10_isStuff ∈ ztb ∧ Cond.instanceMethod yX10_isStuff ∈ ztb ∧ Cond.selects yX10_isStuff.cls yX10_isStuff yX10_isStuff ∈ ztb := ⟨ztb_t (zt7 _ (List.mem_of_getElem? (i := 28) rfl)) rfl, ztb_t (zt7 _ (List.mem_of_getElem? (i := 30) rfl)) rfl, sX10_isStuff⟩
theorem sX10_worthOf : Cond.selects yX10_worthOf.cls yX10_worthOf yX10_worthOf ∈ ztb := zsel (q := (yX10_worthOf, 68)) (List.mem_of_getElem? (i := 76) rfl) rfl
theorem gX10_421 : Cond.methodLink "SmellAbbeyModel" 421 yX10_worthOf ∈ ztb ∧ Cond.instanceMethod yX10_worthOf ∈ ztb ∧ Cond.selects yX10_worthOf.cls yX10_worthOf yX10_worthOf ∈ ztb := ⟨ztb_t (zt7 _ (List.mem_of_getElem? (i := 32) rfl)) rfl, ztb_t (zt7 _ (List.mem_of_getElem? (i := 34) rfl)) rfl, sX10_worthOf⟩
theorem sX10_isDay : Cond.selects yX10_isDay.cls yX10_isDay yX10_isDay ∈ ztb := zsel (q := (yX10_isDay, 68)) (List.mem_of_getElem? (i := 82) rfl) rfl
theorem gX10_424 : Cond.methodLink "SmellAbbeyModel" 424 yX10_isDay ∈ ztb ∧ Cond.instanceMethod yX10_isDay ∈ ztb ∧ Cond.selects yX10_isDay.cls yX10_isDay yX10_isDay ∈ ztb := ⟨ztb_t (zt7 _ (List.mem_of_getElem? (i := 70) rfl)) rfl, ztb_t (zt7 _ (List.mem_of_getElem? (i := 72) rfl)) rfl, sX10_isDay⟩
theorem sX10_isRoom : Cond.selects yX10_isRoom.cls yX10_isRoom yX10_isRoom ∈ ztb := zsel (q := (yX10_isRoom, 68)) (List.mem_of_getElem? (i := 83) rfl) rfl
theorem gX10_427 : Cond.methodLink "SmellAbbeyModel" 427 yX10_isRoom ∈ ztb ∧ Cond.instanceMethod yX10_isRoom ∈ ztb ∧ Cond.selects yX10_isRoom.cls yX10_isRoom yX10_isRoom ∈ ztb := ⟨ztb_t (zt7 _ (List.mem_of_getElem? (i := 82) rfl)) rfl, ztb_t (zt7 _ (List.mem_of_getElem? (i := 84) rfl)) rfl, sX10_isRoom⟩
theorem sX10_copies : Cond.selects yX10_copies.cls yX10_copies yX10_copies ∈ ztb := zsel (q := (yX10_copies, 68)) (List.mem_of_getElem? (i := 92) rfl) rfl
theorem gX10_434 : Cond.methodLink "SmellAbbeyModel" 434 yX10_copies ∈ ztb ∧ Cond.instanceMethod yX10_copies ∈ ztb ∧ Cond.selects yX10_copies.cls yX10_copies yX10_copies ∈ ztb := ⟨ztb_t (zt7 _ (List.mem_of_getElem? (i := 131) rfl)) rfl, ztb_t (zt7 _ (List.mem_of_getElem? (i := 133) rfl)) rfl, sX10_copies⟩
theorem sX10_keepNow : Cond.selects yX10_keepNow.cls yX10_keepNow yX10_keepNow ∈ ztb := zsel (q := (yX10_keepNow, 68)) (List.mem_of_getElem? (i := 91) rfl) rfl
theorem gX10_437 : Cond.methodLink "SmellAbbeyModel" 437 yX10_keepNow ∈ ztb ∧ Cond.instanceMethod yX10_keepNow ∈ ztb ∧ Cond.selects yX10_keepNow.cls yX10_keepNow yX10_keepNow ∈ ztb := ⟨ztb_t (zt7 _ (List.mem_of_getElem? (i := 127) rfl)) rfl, ztb_t (zt7 _ (List.mem_of_getElem? (i := 129) rfl)) rfl, sX10_keepNow⟩
theorem sX10_passes : Cond.selects yX10_passes.cls yX10_passes yX10_passes ∈ ztb := zsel (q := (yX10_passes, 68)) (List.mem_of_getElem? (i := 93) rfl) rfl
theorem gX10_440 : Cond.methodLink "SmellAbbeyModel" 440 yX10_passes ∈ ztb ∧ Cond.instanceMethod yX10_passes ∈ ztb ∧ Cond.selects yX10_passes.cls yX10_passes yX10_passes ∈ ztb := ⟨ztb_t (zt7 _ (List.mem_of_getElem? (i := 151) rfl)) rfl, ztb_t (zt7 _ (List.mem_of_getElem? (i := 153) rfl)) rfl, sX10_passes⟩
theorem sX10_layMarks : Cond.selects yX10_layMarks.cls yX10_layMarks yX10_layMarks ∈ ztb := zsel (q := (yX10_layMarks, 68)) (List.mem_of_getElem? (i := 100) rfl) rfl
theorem gX10_443 : Cond.methodLink "SmellAbbeyModel" 443 yX10_layMarks ∈ ztb ∧ Cond.instanceMethod yX10_layMarks ∈ ztb ∧ Cond.selects yX10_layMarks.cls yX10_layMarks yX10_layMarks ∈ ztb := ⟨ztb_t (zt7 _ (List.mem_of_getElem? (i := 184) rfl)) rfl, ztb_t (zt7 _ (List.mem_of_getElem? (i := 186) rfl)) rfl, sX10_layMarks⟩
theorem sX10_pairOf : Cond.selects yX10_pairOf.cls yX10_pairOf yX10_pairOf ∈ ztb := zsel (q := (yX10_pairOf, 68)) (List.mem_of_getElem? (i := 99) rfl) rfl
theorem gX10_446 : Cond.methodLink "SmellAbbeyModel" 446 yX10_pairOf ∈ ztb ∧ Cond.instanceMethod yX10_pairOf ∈ ztb ∧ Cond.selects yX10_pairOf.cls yX10_pairOf yX10_pairOf ∈ ztb := ⟨ztb_t (zt7 _ (List.mem_of_getElem? (i := 180) rfl)) rfl, ztb_t (zt7 _ (List.mem_of_getElem? (i := 182) rfl)) rfl, sX10_pairOf⟩
theorem gX10_449 : Cond.methodLink "SmellAbbeyModel" 449 yJ9_max_7cf53 ∈ ztb ∧ Cond.static yJ9_max_7cf53 ∈ ztb := ⟨ztb_t (zt7 _ (List.mem_of_getElem? (i := 196) rfl)) rfl, ztb_t (zt4 _ (List.mem_of_getElem? (i := 98) rfl)) rfl⟩
theorem sX10_laySextons : Cond.selects yX10_laySextons.cls yX10_laySextons yX10_laySextons ∈ ztb := zsel (q := (yX10_laySextons, 68)) (List.mem_of_getElem? (i := 103) rfl) rfl
theorem gX10_451 : Cond.methodLink "SmellAbbeyModel" 451 yX10_laySextons ∈ ztb ∧ Cond.instanceMethod yX10_laySextons ∈ ztb ∧ Cond.selects yX10_laySextons.cls yX10_laySextons yX10_laySextons ∈ ztb := ⟨ztb_t (zt7 _ (List.mem_of_getElem? (i := 237) rfl)) rfl, ztb_t (zt7 _ (List.mem_of_getElem? (i := 239) rfl)) rfl, sX10_laySextons⟩
theorem sX10_isRest : Cond.selects yX10_isRest.cls yX10_isRest yX10_isRest ∈ ztb := zsel (q := (yX10_isRest, 68)) (List.mem_of_getElem? (i := 104) rfl) rfl
theorem gX10_454 : Cond.methodLink "SmellAbbeyModel" 454 yX10_isRest ∈ ztb ∧ Cond.instanceMethod yX10_isRest ∈ ztb ∧ Cond.selects yX10_isRest.cls yX10_isRest yX10_isRest ∈ ztb := ⟨ztb_t (zt8 _ (List.mem_of_getElem? (i := 1) rfl)) rfl, ztb_t (zt8 _ (List.mem_of_getElem? (i := 3) rfl)) rfl, sX10_isRest⟩
theorem sX10_areSextons : Cond.selects yX10_areSextons.cls yX10_areSextons yX10_areSextons ∈ ztb := zsel (q := (yX10_areSextons, 68)) (List.mem_of_getElem? (i := 101) rfl) rfl
theorem gX10_458 : Cond.methodLink "SmellAbbeyModel" 458 yX10_areSextons ∈ ztb ∧ Cond.instanceMethod yX10_areSextons ∈ ztb ∧ Cond.selects yX10_areSextons.cls yX10_areSextons yX10_areSextons ∈ ztb := ⟨ztb_t (zt7 _ (List.mem_of_getElem? (i := 229) rfl)) rfl, ztb_t (zt7 _ (List.mem_of_getElem? (i := 231) rfl)) rfl, sX10_areSextons⟩
theorem sX10_restOf : Cond.selects yX10_restOf.cls yX10_restOf yX10_restOf ∈ ztb := zsel (q := (yX10_restOf, 68)) (List.mem_of_getElem? (i := 102) rfl) rfl
theorem gX10_461 : Cond.methodLink "SmellAbbeyModel" 461 yX10_restOf ∈ ztb ∧ Cond.instanceMethod yX10_restOf ∈ ztb ∧ Cond.selects yX10_restOf.cls yX10_restOf yX10_restOf ∈ ztb := ⟨ztb_t (zt7 _ (List.mem_of_getElem? (i := 233) rfl)) rfl, ztb_t (zt7 _ (List.mem_of_getElem? (i := 235) rfl)) rfl, sX10_restOf⟩
theorem sX10_knownMany : Cond.selects yX10_knownMany.cls yX10_knownMany yX10_knownMany ∈ ztb := zsel (q := (yX10_knownMany, 68)) (List.mem_of_getElem? (i := 105) rfl) rfl
theorem gX10_464 : Cond.methodLink "SmellAbbeyModel" 464 yX10_knownMany ∈ ztb ∧ Cond.instanceMethod yX10_knownMany ∈ ztb ∧ Cond.selects yX10_knownMany.cls yX10_knownMany yX10_knownMany ∈ ztb := ⟨ztb_t (zt8 _ (List.mem_of_getElem? (i := 25) rfl)) rfl, ztb_t (zt8 _ (List.mem_of_getElem? (i := 27) rfl)) rfl, sX10_knownMany⟩
theorem sX10_isSo : Cond.selects yX10_isSo.cls yX10_isSo yX10_isSo ∈ ztb := zsel (q := (yX10_isSo, 68)) (List.mem_of_getElem? (i := 107) rfl) rfl
theorem gX10_467 : Cond.methodLink "SmellAbbeyModel" 467 yX10_isSo ∈ ztb ∧ Cond.instanceMethod yX10_isSo ∈ ztb ∧ Cond.selects yX10_isSo.cls yX10_isSo yX10_isSo ∈ ztb := ⟨ztb_t (zt8 _ (List.mem_of_getElem? (i := 33) rfl)) rfl, ztb_t (zt8 _ (List.mem_of_getElem? (i := 35) rfl)) rfl, sX10_isSo⟩
theorem sX10_fitsCold : Cond.selects yX10_fitsCold.cls yX10_fitsCold yX10_fitsCold ∈ ztb := zsel (q := (yX10_fitsCold, 68)) (List.mem_of_getElem? (i := 106) rfl) rfl
theorem gX10_470 : Cond.methodLink "SmellAbbeyModel" 470 yX10_fitsCold ∈ ztb ∧ Cond.instanceMethod yX10_fitsCold ∈ ztb ∧ Cond.selects yX10_fitsCold.cls yX10_fitsCold yX10_fitsCold ∈ ztb := ⟨ztb_t (zt8 _ (List.mem_of_getElem? (i := 29) rfl)) rfl, ztb_t (zt8 _ (List.mem_of_getElem? (i := 31) rfl)) rfl, sX10_fitsCold⟩
theorem sX10_draw : Cond.selects yX10_draw.cls yX10_draw yX10_draw ∈ ztb := zsel (q := (yX10_draw, 68)) (List.mem_of_getElem? (i := 108) rfl) rfl
theorem gX10_478 : Cond.methodLink "SmellAbbeyModel" 478 yX10_draw ∈ ztb ∧ Cond.instanceMethod yX10_draw ∈ ztb ∧ Cond.selects yX10_draw.cls yX10_draw yX10_draw ∈ ztb := ⟨ztb_t (zt8 _ (List.mem_of_getElem? (i := 41) rfl)) rfl, ztb_t (zt8 _ (List.mem_of_getElem? (i := 43) rfl)) rfl, sX10_draw⟩
theorem kX9_313 : Cond.constant "SmellAbbey" 313 (1000000) ∈ ztb := ztb_t (zt5 _ (List.mem_of_getElem? (i := 15) rfl)) rfl
theorem kX3_132 : Cond.constant "SmellAbbey$Reader" 132 (99999) ∈ ztb := ztb_t (zt3 _ (List.mem_of_getElem? (i := 93) rfl)) rfl
theorem kX4_75 : Cond.constant "SmellAbbey$Scanner" 75 (1000000) ∈ ztb := ztb_t (zt3 _ (List.mem_of_getElem? (i := 21) rfl)) rfl
theorem kX10_198 : Cond.constant "SmellAbbeyModel" 198 (99999) ∈ ztb := ztb_t (zt6 _ (List.mem_of_getElem? (i := 153) rfl)) rfl
theorem kX10_474 : Cond.constant "SmellAbbeyModel" 474 (1103515245) ∈ ztb := ztb_t (zt8 _ (List.mem_of_getElem? (i := 45) rfl)) rfl
theorem kX10_477 : Cond.constant "SmellAbbeyModel" 477 (2147483647) ∈ ztb := ztb_t (zt8 _ (List.mem_of_getElem? (i := 46) rfl)) rfl
theorem kX9_181 : Cond.constantLong "SmellAbbey" 181 (-9223372036854775808) ∈ ztb := ztb_t (zt4 _ (List.mem_of_getElem? (i := 13) rfl)) rfl
theorem kX0_44 : Cond.constantLong "SmellAbbey$Laws" 44 (-9223372036854775808) ∈ ztb := ztb_t (zt3 _ (List.mem_of_getElem? (i := 190) rfl)) rfl
theorem kX0_54 : Cond.constantLong "SmellAbbey$Laws" 54 (1000000000000) ∈ ztb := ztb_t (zt3 _ (List.mem_of_getElem? (i := 194) rfl)) rfl
theorem kX0_56 : Cond.constantLong "SmellAbbey$Laws" 56 (-1000000000000) ∈ ztb := ztb_t (zt3 _ (List.mem_of_getElem? (i := 198) rfl)) rfl
theorem kX2_13 : Cond.constantLong "SmellAbbey$Numbers" 13 (1103515245) ∈ ztb := ztb_t (zt5 _ (List.mem_of_getElem? (i := 3) rfl)) rfl
theorem kX2_15 : Cond.constantLong "SmellAbbey$Numbers" 15 (12345) ∈ ztb := ztb_t (zt5 _ (List.mem_of_getElem? (i := 4) rfl)) rfl
theorem kX2_17 : Cond.constantLong "SmellAbbey$Numbers" 17 (2147483647) ∈ ztb := ztb_t (zt5 _ (List.mem_of_getElem? (i := 5) rfl)) rfl
theorem kX2_19 : Cond.constantLong "SmellAbbey$Numbers" 19 (65536) ∈ ztb := ztb_t (zt5 _ (List.mem_of_getElem? (i := 6) rfl)) rfl
theorem kX5_111 : Cond.constantLong "SmellAbbey$State" 111 (-9223372036854775808) ∈ ztb := ztb_t (zt3 _ (List.mem_of_getElem? (i := 199) rfl)) rfl
theorem kX10_339 : Cond.constantLong "SmellAbbeyModel" 339 (1000000000000) ∈ ztb := ztb_t (zt7 _ (List.mem_of_getElem? (i := 62) rfl)) rfl
theorem kX10_341 : Cond.constantLong "SmellAbbeyModel" 341 (-1000000000000) ∈ ztb := ztb_t (zt7 _ (List.mem_of_getElem? (i := 63) rfl)) rfl
theorem kX10_432 : Cond.constantLong "SmellAbbeyModel" 432 (-9223372036854775808) ∈ ztb := ztb_t (zt7 _ (List.mem_of_getElem? (i := 122) rfl)) rfl
end
section
/-! typed ends, and calls by them; methods that make nothing -/
abbrev zg (G : zG) (μ : zM) (d pc : Nat) (lv st : List Value) (h : zMem) (P : Option Value → zMem → Prop) : Prop := zGo G μ d (zn h + zx h, zs h, 0, 0) pc lv st h P
def zPI (Q : Int32 → zMem → Prop) : Option Value → zMem → Prop := fun r h => ∃ v, r = some (.int v) ∧ Q v h
def zPL (Q : Int64 → zMem → Prop) : Option Value → zMem → Prop := fun r h => ∃ v, r = some (.long v) ∧ Q v h
def zPV (Q : zMem → Prop) : Option Value → zMem → Prop := fun r h => r = none ∧ Q h
def zPR (Q : Nat → zMem → Prop) : Option Value → zMem → Prop := fun r h => ∃ v, r = some (.ref v) ∧ Q v h
def zConI (G : zG) (μ : zM) (d : Nat) (as : List Value) (h : zMem) (Q : Int32 → zMem → Prop) : Prop := zCon G μ d 0 0 as h (zPI Q)
def zConL (G : zG) (μ : zM) (d : Nat) (as : List Value) (h : zMem) (Q : Int64 → zMem → Prop) : Prop := zCon G μ d 0 0 as h (zPL Q)
def zConV (G : zG) (μ : zM) (d : Nat) (as : List Value) (h : zMem) (Q : zMem → Prop) : Prop := zCon G μ d 0 0 as h (zPV Q)
def zConR (G : zG) (μ : zM) (d : Nat) (as : List Value) (h : zMem) (Q : Nat → zMem → Prop) : Prop := zCon G μ d 0 0 as h (zPR Q)
theorem zcon0 {G : zG} {μ : zM} {d : Nat} {as : List Value} {h : zMem} {P : Option Value → zMem → Prop} (hy : plainName μ.1.cls = true) (hdec : zdec μ) (hw : zwid as ≤ μ.2.2.1) (hcat : as.all zcat1 = true) (k : zg G μ d 0 (zent μ.2.2.1 as) [] h P) : zCon G μ d 0 0 as h P := zcon_intro hy hdec hw (fun a ha => List.all_eq_true.mp hcat a ha) k
theorem zgo_cnt {G : zG} {μ : zM} {d pc : Nat} {lv st : List Value} {h h' : zMem} {P : Option Value → zMem → Prop} (c1 : zn h' + zx h' = zn h + zx h + 0) (c2 : zs h' = zs h + 0) (k : zg G μ d pc lv st h' P) : zGo G μ d (zn h + zx h, zs h, 0, 0) pc lv st h' P := by
  have e1 : zn h' + zx h' = zn h + zx h := c1
  have e2 : zs h' = zs h := c2
  rw [← e1, ← e2]
  exact k
theorem z_drop {G : zG} {μ : zM} {d : Nat} {b : zB} {pc : Nat} {lv st : List Value} {h : zMem} {P : Option Value → zMem → Prop} (j : Nat) (k : zGo G μ d b pc (lv.set j zU) st h P) : zGo G μ d b pc lv st h P := by
  refine z_locals (fun i v hi hu => ?_) k
  by_cases e : i = j
  · subst e
    have hl : i < lv.length := by
      have := (List.getElem?_eq_some_iff.mp hi).1
      simpa using this
    rw [List.getElem?_set_self hl] at hi
    cases hi
    cases hu
  · rwa [List.getElem?_set_ne (Ne.symm e)] at hi
theorem zbool_n {v : Int32} (h : v = 0 ∨ v = 1) : narrow .boolean (.int v) = .int v := by rcases h with rfl | rfl <;> rfl
theorem zbool_f {v : Int32} (h : v = 0 ∨ v = 1) : fits .boolean (.int v) = true := by rcases h with rfl | rfl <;> rfl
theorem z_tableD {G : zG} {μ : zM} {d : Nat} {b : zB} {pc : Nat} {lv st : List Value} {h : zMem} {P : Option Value → zMem → Prop} (i tgt : Nat) {dflt lo hi9 : Int} {offs : Array Int} {len : Nat} {x : Int32} (hi : μ.2.2.2.2[i]? = some (pc, .tableswitch dflt lo hi9 offs, len)) (ht : (pc : Int) + dflt = (tgt : Int)) (hx : ¬ x.toInt < lo → ¬ hi9 < x.toInt → offs[(x.toInt - lo).toNat]? = some dflt) (k : zGo G μ d b tgt lv st h P) : zGo G μ d b pc lv (.int x :: st) h P := by
  by_cases h1 : x.toInt < lo
  · exact z_tableOut i tgt hi ht (Or.inl h1) k
  · by_cases h2 : hi9 < x.toInt
    · exact z_tableOut i tgt hi ht (Or.inr h2) k
    · exact z_tableIn i tgt hi x.toInt rfl h1 h2 (hx h1 h2) ht k
section ZB7
variable {G : zG} {μ : zM} {d : Nat} {pc : Nat} {lv st : List Value} {h : zMem} {P : Option Value → zMem → Prop}
theorem z_cVI0 (i : Nat) {index : Nat} {ν : zM} {a ci : Nat} {Q : Int32 → zMem → Prop} (hi : μ.2.2.2.2[i]? = some (pc, .invokevirtual index, 3)) (hν : zMF ν 0) (hlk : Cond.methodLink μ.1.cls index ν.1 ∈ ztb ∧ Cond.instanceMethod ν.1 ∈ ztb ∧ Cond.selects ν.1.cls ν.1 ν.1 ∈ ztb) (hcl : ∃ q, zcl[ci]? = some q ∧ q.1 = ν.1.cls) (hci : ci < 100) (ho : zO h a ci) (hw : (st.map fun v => v.category).sum ≤ 8) (K : zConI G ν d [.ref a] h Q) (k : ∀ (v : Int32) (h' : zMem), Q v h' → zg G μ (d + 1) (pc + 3) lv (.int v :: st) h' P) : zGo G μ (d + 1) (zn h + zx h, zs h, 0, 0) pc lv (.ref a :: st) h P := z_callV i 0 [] hi hν hlk ho hcl hci rfl hw (Nat.le_refl _) ⟨Nat.le_refl _, Nat.le_refl _⟩ K (fun r h' q c1 c2 => by
  obtain ⟨v, rfl, q⟩ := q
  exact zgo_cnt c1 c2 (k v h' q))
theorem z_cVL0 (i : Nat) {index : Nat} {ν : zM} {a ci : Nat} {Q : Int64 → zMem → Prop} (hi : μ.2.2.2.2[i]? = some (pc, .invokevirtual index, 3)) (hν : zMF ν 0) (hlk : Cond.methodLink μ.1.cls index ν.1 ∈ ztb ∧ Cond.instanceMethod ν.1 ∈ ztb ∧ Cond.selects ν.1.cls ν.1 ν.1 ∈ ztb) (hcl : ∃ q, zcl[ci]? = some q ∧ q.1 = ν.1.cls) (hci : ci < 100) (ho : zO h a ci) (hw : (st.map fun v => v.category).sum ≤ 8) (K : zConL G ν d [.ref a] h Q) (k : ∀ (v : Int64) (h' : zMem), Q v h' → zg G μ (d + 1) (pc + 3) lv (.long v :: st) h' P) : zGo G μ (d + 1) (zn h + zx h, zs h, 0, 0) pc lv (.ref a :: st) h P := z_callV i 0 [] hi hν hlk ho hcl hci rfl hw (Nat.le_refl _) ⟨Nat.le_refl _, Nat.le_refl _⟩ K (fun r h' q c1 c2 => by
  obtain ⟨v, rfl, q⟩ := q
  exact zgo_cnt c1 c2 (k v h' q))
theorem z_cVV0 (i : Nat) {index : Nat} {ν : zM} {a ci : Nat} {Q : zMem → Prop} (hi : μ.2.2.2.2[i]? = some (pc, .invokevirtual index, 3)) (hν : zMF ν 0) (hlk : Cond.methodLink μ.1.cls index ν.1 ∈ ztb ∧ Cond.instanceMethod ν.1 ∈ ztb ∧ Cond.selects ν.1.cls ν.1 ν.1 ∈ ztb) (hcl : ∃ q, zcl[ci]? = some q ∧ q.1 = ν.1.cls) (hci : ci < 100) (ho : zO h a ci) (hw : (st.map fun v => v.category).sum ≤ 8) (K : zConV G ν d [.ref a] h Q) (k : ∀ (h' : zMem), Q h' → zg G μ (d + 1) (pc + 3) lv (st) h' P) : zGo G μ (d + 1) (zn h + zx h, zs h, 0, 0) pc lv (.ref a :: st) h P := z_callV i 0 [] hi hν hlk ho hcl hci rfl hw (Nat.le_refl _) ⟨Nat.le_refl _, Nat.le_refl _⟩ K (fun r h' q c1 c2 => by
  obtain ⟨rfl, q⟩ := q
  exact zgo_cnt c1 c2 (k h' q))
theorem z_cVR0 (i : Nat) {index : Nat} {ν : zM} {a ci : Nat} {Q : Nat → zMem → Prop} (hi : μ.2.2.2.2[i]? = some (pc, .invokevirtual index, 3)) (hν : zMF ν 0) (hlk : Cond.methodLink μ.1.cls index ν.1 ∈ ztb ∧ Cond.instanceMethod ν.1 ∈ ztb ∧ Cond.selects ν.1.cls ν.1 ν.1 ∈ ztb) (hcl : ∃ q, zcl[ci]? = some q ∧ q.1 = ν.1.cls) (hci : ci < 100) (ho : zO h a ci) (hw : (st.map fun v => v.category).sum ≤ 8) (K : zConR G ν d [.ref a] h Q) (k : ∀ (v : Nat) (h' : zMem), Q v h' → zg G μ (d + 1) (pc + 3) lv (.ref v :: st) h' P) : zGo G μ (d + 1) (zn h + zx h, zs h, 0, 0) pc lv (.ref a :: st) h P := z_callV i 0 [] hi hν hlk ho hcl hci rfl hw (Nat.le_refl _) ⟨Nat.le_refl _, Nat.le_refl _⟩ K (fun r h' q c1 c2 => by
  obtain ⟨v, rfl, q⟩ := q
  exact zgo_cnt c1 c2 (k v h' q))
theorem z_cVI1 (i : Nat) {index : Nat} {ν : zM} {a ci : Nat} {v1 : Value} {Q : Int32 → zMem → Prop} (hi : μ.2.2.2.2[i]? = some (pc, .invokevirtual index, 3)) (hν : zMF ν 1) (hlk : Cond.methodLink μ.1.cls index ν.1 ∈ ztb ∧ Cond.instanceMethod ν.1 ∈ ztb ∧ Cond.selects ν.1.cls ν.1 ν.1 ∈ ztb) (hcl : ∃ q, zcl[ci]? = some q ∧ q.1 = ν.1.cls) (hci : ci < 100) (ho : zO h a ci) (hw : (st.map fun v => v.category).sum ≤ 8) (K : zConI G ν d [.ref a, v1] h Q) (k : ∀ (v : Int32) (h' : zMem), Q v h' → zg G μ (d + 1) (pc + 3) lv (.int v :: st) h' P) : zGo G μ (d + 1) (zn h + zx h, zs h, 0, 0) pc lv (v1 :: .ref a :: st) h P := z_callV i 1 [v1] hi hν hlk ho hcl hci rfl hw (Nat.le_refl _) ⟨Nat.le_refl _, Nat.le_refl _⟩ K (fun r h' q c1 c2 => by
  obtain ⟨v, rfl, q⟩ := q
  exact zgo_cnt c1 c2 (k v h' q))
theorem z_cSI1 (i : Nat) {index : Nat} {ν : zM} {v1 : Value} {Q : Int32 → zMem → Prop} (hi : μ.2.2.2.2[i]? = some (pc, .invokestatic index, 3)) (hν : zMF ν 1) (hlk : Cond.methodLink μ.1.cls index ν.1 ∈ ztb ∧ Cond.static ν.1 ∈ ztb) (hw : (st.map fun v => v.category).sum ≤ 8) (K : zConI G ν d [v1] h Q) (k : ∀ (v : Int32) (h' : zMem), Q v h' → zg G μ (d + 1) (pc + 3) lv (.int v :: st) h' P) : zGo G μ (d + 1) (zn h + zx h, zs h, 0, 0) pc lv (v1 :: st) h P := z_callS i 1 [v1] hi hν hlk rfl hw (Nat.le_refl _) ⟨Nat.le_refl _, Nat.le_refl _⟩ K (fun r h' q c1 c2 => by
  obtain ⟨v, rfl, q⟩ := q
  exact zgo_cnt c1 c2 (k v h' q))
theorem z_cVL1 (i : Nat) {index : Nat} {ν : zM} {a ci : Nat} {v1 : Value} {Q : Int64 → zMem → Prop} (hi : μ.2.2.2.2[i]? = some (pc, .invokevirtual index, 3)) (hν : zMF ν 1) (hlk : Cond.methodLink μ.1.cls index ν.1 ∈ ztb ∧ Cond.instanceMethod ν.1 ∈ ztb ∧ Cond.selects ν.1.cls ν.1 ν.1 ∈ ztb) (hcl : ∃ q, zcl[ci]? = some q ∧ q.1 = ν.1.cls) (hci : ci < 100) (ho : zO h a ci) (hw : (st.map fun v => v.category).sum ≤ 8) (K : zConL G ν d [.ref a, v1] h Q) (k : ∀ (v : Int64) (h' : zMem), Q v h' → zg G μ (d + 1) (pc + 3) lv (.long v :: st) h' P) : zGo G μ (d + 1) (zn h + zx h, zs h, 0, 0) pc lv (v1 :: .ref a :: st) h P := z_callV i 1 [v1] hi hν hlk ho hcl hci rfl hw (Nat.le_refl _) ⟨Nat.le_refl _, Nat.le_refl _⟩ K (fun r h' q c1 c2 => by
  obtain ⟨v, rfl, q⟩ := q
  exact zgo_cnt c1 c2 (k v h' q))
theorem z_cSL1 (i : Nat) {index : Nat} {ν : zM} {v1 : Value} {Q : Int64 → zMem → Prop} (hi : μ.2.2.2.2[i]? = some (pc, .invokestatic index, 3)) (hν : zMF ν 1) (hlk : Cond.methodLink μ.1.cls index ν.1 ∈ ztb ∧ Cond.static ν.1 ∈ ztb) (hw : (st.map fun v => v.category).sum ≤ 8) (K : zConL G ν d [v1] h Q) (k : ∀ (v : Int64) (h' : zMem), Q v h' → zg G μ (d + 1) (pc + 3) lv (.long v :: st) h' P) : zGo G μ (d + 1) (zn h + zx h, zs h, 0, 0) pc lv (v1 :: st) h P := z_callS i 1 [v1] hi hν hlk rfl hw (Nat.le_refl _) ⟨Nat.le_refl _, Nat.le_refl _⟩ K (fun r h' q c1 c2 => by
  obtain ⟨v, rfl, q⟩ := q
  exact zgo_cnt c1 c2 (k v h' q))
theorem z_cVV1 (i : Nat) {index : Nat} {ν : zM} {a ci : Nat} {v1 : Value} {Q : zMem → Prop} (hi : μ.2.2.2.2[i]? = some (pc, .invokevirtual index, 3)) (hν : zMF ν 1) (hlk : Cond.methodLink μ.1.cls index ν.1 ∈ ztb ∧ Cond.instanceMethod ν.1 ∈ ztb ∧ Cond.selects ν.1.cls ν.1 ν.1 ∈ ztb) (hcl : ∃ q, zcl[ci]? = some q ∧ q.1 = ν.1.cls) (hci : ci < 100) (ho : zO h a ci) (hw : (st.map fun v => v.category).sum ≤ 8) (K : zConV G ν d [.ref a, v1] h Q) (k : ∀ (h' : zMem), Q h' → zg G μ (d + 1) (pc + 3) lv (st) h' P) : zGo G μ (d + 1) (zn h + zx h, zs h, 0, 0) pc lv (v1 :: .ref a :: st) h P := z_callV i 1 [v1] hi hν hlk ho hcl hci rfl hw (Nat.le_refl _) ⟨Nat.le_refl _, Nat.le_refl _⟩ K (fun r h' q c1 c2 => by
  obtain ⟨rfl, q⟩ := q
  exact zgo_cnt c1 c2 (k h' q))
theorem z_cSV1 (i : Nat) {index : Nat} {ν : zM} {v1 : Value} {Q : zMem → Prop} (hi : μ.2.2.2.2[i]? = some (pc, .invokestatic index, 3)) (hν : zMF ν 1) (hlk : Cond.methodLink μ.1.cls index ν.1 ∈ ztb ∧ Cond.static ν.1 ∈ ztb) (hw : (st.map fun v => v.category).sum ≤ 8) (K : zConV G ν d [v1] h Q) (k : ∀ (h' : zMem), Q h' → zg G μ (d + 1) (pc + 3) lv (st) h' P) : zGo G μ (d + 1) (zn h + zx h, zs h, 0, 0) pc lv (v1 :: st) h P := z_callS i 1 [v1] hi hν hlk rfl hw (Nat.le_refl _) ⟨Nat.le_refl _, Nat.le_refl _⟩ K (fun r h' q c1 c2 => by
  obtain ⟨rfl, q⟩ := q
  exact zgo_cnt c1 c2 (k h' q))
theorem z_cVR1 (i : Nat) {index : Nat} {ν : zM} {a ci : Nat} {v1 : Value} {Q : Nat → zMem → Prop} (hi : μ.2.2.2.2[i]? = some (pc, .invokevirtual index, 3)) (hν : zMF ν 1) (hlk : Cond.methodLink μ.1.cls index ν.1 ∈ ztb ∧ Cond.instanceMethod ν.1 ∈ ztb ∧ Cond.selects ν.1.cls ν.1 ν.1 ∈ ztb) (hcl : ∃ q, zcl[ci]? = some q ∧ q.1 = ν.1.cls) (hci : ci < 100) (ho : zO h a ci) (hw : (st.map fun v => v.category).sum ≤ 8) (K : zConR G ν d [.ref a, v1] h Q) (k : ∀ (v : Nat) (h' : zMem), Q v h' → zg G μ (d + 1) (pc + 3) lv (.ref v :: st) h' P) : zGo G μ (d + 1) (zn h + zx h, zs h, 0, 0) pc lv (v1 :: .ref a :: st) h P := z_callV i 1 [v1] hi hν hlk ho hcl hci rfl hw (Nat.le_refl _) ⟨Nat.le_refl _, Nat.le_refl _⟩ K (fun r h' q c1 c2 => by
  obtain ⟨v, rfl, q⟩ := q
  exact zgo_cnt c1 c2 (k v h' q))
theorem z_cSR1 (i : Nat) {index : Nat} {ν : zM} {v1 : Value} {Q : Nat → zMem → Prop} (hi : μ.2.2.2.2[i]? = some (pc, .invokestatic index, 3)) (hν : zMF ν 1) (hlk : Cond.methodLink μ.1.cls index ν.1 ∈ ztb ∧ Cond.static ν.1 ∈ ztb) (hw : (st.map fun v => v.category).sum ≤ 8) (K : zConR G ν d [v1] h Q) (k : ∀ (v : Nat) (h' : zMem), Q v h' → zg G μ (d + 1) (pc + 3) lv (.ref v :: st) h' P) : zGo G μ (d + 1) (zn h + zx h, zs h, 0, 0) pc lv (v1 :: st) h P := z_callS i 1 [v1] hi hν hlk rfl hw (Nat.le_refl _) ⟨Nat.le_refl _, Nat.le_refl _⟩ K (fun r h' q c1 c2 => by
  obtain ⟨v, rfl, q⟩ := q
  exact zgo_cnt c1 c2 (k v h' q))
theorem z_cVI2 (i : Nat) {index : Nat} {ν : zM} {a ci : Nat} {v1 v2 : Value} {Q : Int32 → zMem → Prop} (hi : μ.2.2.2.2[i]? = some (pc, .invokevirtual index, 3)) (hν : zMF ν 2) (hlk : Cond.methodLink μ.1.cls index ν.1 ∈ ztb ∧ Cond.instanceMethod ν.1 ∈ ztb ∧ Cond.selects ν.1.cls ν.1 ν.1 ∈ ztb) (hcl : ∃ q, zcl[ci]? = some q ∧ q.1 = ν.1.cls) (hci : ci < 100) (ho : zO h a ci) (hw : (st.map fun v => v.category).sum ≤ 8) (K : zConI G ν d [.ref a, v1, v2] h Q) (k : ∀ (v : Int32) (h' : zMem), Q v h' → zg G μ (d + 1) (pc + 3) lv (.int v :: st) h' P) : zGo G μ (d + 1) (zn h + zx h, zs h, 0, 0) pc lv (v2 :: v1 :: .ref a :: st) h P := z_callV i 2 [v1, v2] hi hν hlk ho hcl hci rfl hw (Nat.le_refl _) ⟨Nat.le_refl _, Nat.le_refl _⟩ K (fun r h' q c1 c2 => by
  obtain ⟨v, rfl, q⟩ := q
  exact zgo_cnt c1 c2 (k v h' q))
theorem z_cSI2 (i : Nat) {index : Nat} {ν : zM} {v1 v2 : Value} {Q : Int32 → zMem → Prop} (hi : μ.2.2.2.2[i]? = some (pc, .invokestatic index, 3)) (hν : zMF ν 2) (hlk : Cond.methodLink μ.1.cls index ν.1 ∈ ztb ∧ Cond.static ν.1 ∈ ztb) (hw : (st.map fun v => v.category).sum ≤ 8) (K : zConI G ν d [v1, v2] h Q) (k : ∀ (v : Int32) (h' : zMem), Q v h' → zg G μ (d + 1) (pc + 3) lv (.int v :: st) h' P) : zGo G μ (d + 1) (zn h + zx h, zs h, 0, 0) pc lv (v2 :: v1 :: st) h P := z_callS i 2 [v1, v2] hi hν hlk rfl hw (Nat.le_refl _) ⟨Nat.le_refl _, Nat.le_refl _⟩ K (fun r h' q c1 c2 => by
  obtain ⟨v, rfl, q⟩ := q
  exact zgo_cnt c1 c2 (k v h' q))
theorem z_cVL2 (i : Nat) {index : Nat} {ν : zM} {a ci : Nat} {v1 v2 : Value} {Q : Int64 → zMem → Prop} (hi : μ.2.2.2.2[i]? = some (pc, .invokevirtual index, 3)) (hν : zMF ν 2) (hlk : Cond.methodLink μ.1.cls index ν.1 ∈ ztb ∧ Cond.instanceMethod ν.1 ∈ ztb ∧ Cond.selects ν.1.cls ν.1 ν.1 ∈ ztb) (hcl : ∃ q, zcl[ci]? = some q ∧ q.1 = ν.1.cls) (hci : ci < 100) (ho : zO h a ci) (hw : (st.map fun v => v.category).sum ≤ 8) (K : zConL G ν d [.ref a, v1, v2] h Q) (k : ∀ (v : Int64) (h' : zMem), Q v h' → zg G μ (d + 1) (pc + 3) lv (.long v :: st) h' P) : zGo G μ (d + 1) (zn h + zx h, zs h, 0, 0) pc lv (v2 :: v1 :: .ref a :: st) h P := z_callV i 2 [v1, v2] hi hν hlk ho hcl hci rfl hw (Nat.le_refl _) ⟨Nat.le_refl _, Nat.le_refl _⟩ K (fun r h' q c1 c2 => by
  obtain ⟨v, rfl, q⟩ := q
  exact zgo_cnt c1 c2 (k v h' q))
theorem z_cSL2 (i : Nat) {index : Nat} {ν : zM} {v1 v2 : Value} {Q : Int64 → zMem → Prop} (hi : μ.2.2.2.2[i]? = some (pc, .invokestatic index, 3)) (hν : zMF ν 2) (hlk : Cond.methodLink μ.1.cls index ν.1 ∈ ztb ∧ Cond.static ν.1 ∈ ztb) (hw : (st.map fun v => v.category).sum ≤ 8) (K : zConL G ν d [v1, v2] h Q) (k : ∀ (v : Int64) (h' : zMem), Q v h' → zg G μ (d + 1) (pc + 3) lv (.long v :: st) h' P) : zGo G μ (d + 1) (zn h + zx h, zs h, 0, 0) pc lv (v2 :: v1 :: st) h P := z_callS i 2 [v1, v2] hi hν hlk rfl hw (Nat.le_refl _) ⟨Nat.le_refl _, Nat.le_refl _⟩ K (fun r h' q c1 c2 => by
  obtain ⟨v, rfl, q⟩ := q
  exact zgo_cnt c1 c2 (k v h' q))
theorem z_cVV2 (i : Nat) {index : Nat} {ν : zM} {a ci : Nat} {v1 v2 : Value} {Q : zMem → Prop} (hi : μ.2.2.2.2[i]? = some (pc, .invokevirtual index, 3)) (hν : zMF ν 2) (hlk : Cond.methodLink μ.1.cls index ν.1 ∈ ztb ∧ Cond.instanceMethod ν.1 ∈ ztb ∧ Cond.selects ν.1.cls ν.1 ν.1 ∈ ztb) (hcl : ∃ q, zcl[ci]? = some q ∧ q.1 = ν.1.cls) (hci : ci < 100) (ho : zO h a ci) (hw : (st.map fun v => v.category).sum ≤ 8) (K : zConV G ν d [.ref a, v1, v2] h Q) (k : ∀ (h' : zMem), Q h' → zg G μ (d + 1) (pc + 3) lv (st) h' P) : zGo G μ (d + 1) (zn h + zx h, zs h, 0, 0) pc lv (v2 :: v1 :: .ref a :: st) h P := z_callV i 2 [v1, v2] hi hν hlk ho hcl hci rfl hw (Nat.le_refl _) ⟨Nat.le_refl _, Nat.le_refl _⟩ K (fun r h' q c1 c2 => by
  obtain ⟨rfl, q⟩ := q
  exact zgo_cnt c1 c2 (k h' q))
theorem z_cSV2 (i : Nat) {index : Nat} {ν : zM} {v1 v2 : Value} {Q : zMem → Prop} (hi : μ.2.2.2.2[i]? = some (pc, .invokestatic index, 3)) (hν : zMF ν 2) (hlk : Cond.methodLink μ.1.cls index ν.1 ∈ ztb ∧ Cond.static ν.1 ∈ ztb) (hw : (st.map fun v => v.category).sum ≤ 8) (K : zConV G ν d [v1, v2] h Q) (k : ∀ (h' : zMem), Q h' → zg G μ (d + 1) (pc + 3) lv (st) h' P) : zGo G μ (d + 1) (zn h + zx h, zs h, 0, 0) pc lv (v2 :: v1 :: st) h P := z_callS i 2 [v1, v2] hi hν hlk rfl hw (Nat.le_refl _) ⟨Nat.le_refl _, Nat.le_refl _⟩ K (fun r h' q c1 c2 => by
  obtain ⟨rfl, q⟩ := q
  exact zgo_cnt c1 c2 (k h' q))
theorem z_cVR2 (i : Nat) {index : Nat} {ν : zM} {a ci : Nat} {v1 v2 : Value} {Q : Nat → zMem → Prop} (hi : μ.2.2.2.2[i]? = some (pc, .invokevirtual index, 3)) (hν : zMF ν 2) (hlk : Cond.methodLink μ.1.cls index ν.1 ∈ ztb ∧ Cond.instanceMethod ν.1 ∈ ztb ∧ Cond.selects ν.1.cls ν.1 ν.1 ∈ ztb) (hcl : ∃ q, zcl[ci]? = some q ∧ q.1 = ν.1.cls) (hci : ci < 100) (ho : zO h a ci) (hw : (st.map fun v => v.category).sum ≤ 8) (K : zConR G ν d [.ref a, v1, v2] h Q) (k : ∀ (v : Nat) (h' : zMem), Q v h' → zg G μ (d + 1) (pc + 3) lv (.ref v :: st) h' P) : zGo G μ (d + 1) (zn h + zx h, zs h, 0, 0) pc lv (v2 :: v1 :: .ref a :: st) h P := z_callV i 2 [v1, v2] hi hν hlk ho hcl hci rfl hw (Nat.le_refl _) ⟨Nat.le_refl _, Nat.le_refl _⟩ K (fun r h' q c1 c2 => by
  obtain ⟨v, rfl, q⟩ := q
  exact zgo_cnt c1 c2 (k v h' q))
theorem z_cSR2 (i : Nat) {index : Nat} {ν : zM} {v1 v2 : Value} {Q : Nat → zMem → Prop} (hi : μ.2.2.2.2[i]? = some (pc, .invokestatic index, 3)) (hν : zMF ν 2) (hlk : Cond.methodLink μ.1.cls index ν.1 ∈ ztb ∧ Cond.static ν.1 ∈ ztb) (hw : (st.map fun v => v.category).sum ≤ 8) (K : zConR G ν d [v1, v2] h Q) (k : ∀ (v : Nat) (h' : zMem), Q v h' → zg G μ (d + 1) (pc + 3) lv (.ref v :: st) h' P) : zGo G μ (d + 1) (zn h + zx h, zs h, 0, 0) pc lv (v2 :: v1 :: st) h P := z_callS i 2 [v1, v2] hi hν hlk rfl hw (Nat.le_refl _) ⟨Nat.le_refl _, Nat.le_refl _⟩ K (fun r h' q c1 c2 => by
  obtain ⟨v, rfl, q⟩ := q
  exact zgo_cnt c1 c2 (k v h' q))
theorem z_cVI3 (i : Nat) {index : Nat} {ν : zM} {a ci : Nat} {v1 v2 v3 : Value} {Q : Int32 → zMem → Prop} (hi : μ.2.2.2.2[i]? = some (pc, .invokevirtual index, 3)) (hν : zMF ν 3) (hlk : Cond.methodLink μ.1.cls index ν.1 ∈ ztb ∧ Cond.instanceMethod ν.1 ∈ ztb ∧ Cond.selects ν.1.cls ν.1 ν.1 ∈ ztb) (hcl : ∃ q, zcl[ci]? = some q ∧ q.1 = ν.1.cls) (hci : ci < 100) (ho : zO h a ci) (hw : (st.map fun v => v.category).sum ≤ 8) (K : zConI G ν d [.ref a, v1, v2, v3] h Q) (k : ∀ (v : Int32) (h' : zMem), Q v h' → zg G μ (d + 1) (pc + 3) lv (.int v :: st) h' P) : zGo G μ (d + 1) (zn h + zx h, zs h, 0, 0) pc lv (v3 :: v2 :: v1 :: .ref a :: st) h P := z_callV i 3 [v1, v2, v3] hi hν hlk ho hcl hci rfl hw (Nat.le_refl _) ⟨Nat.le_refl _, Nat.le_refl _⟩ K (fun r h' q c1 c2 => by
  obtain ⟨v, rfl, q⟩ := q
  exact zgo_cnt c1 c2 (k v h' q))
theorem z_cSI3 (i : Nat) {index : Nat} {ν : zM} {v1 v2 v3 : Value} {Q : Int32 → zMem → Prop} (hi : μ.2.2.2.2[i]? = some (pc, .invokestatic index, 3)) (hν : zMF ν 3) (hlk : Cond.methodLink μ.1.cls index ν.1 ∈ ztb ∧ Cond.static ν.1 ∈ ztb) (hw : (st.map fun v => v.category).sum ≤ 8) (K : zConI G ν d [v1, v2, v3] h Q) (k : ∀ (v : Int32) (h' : zMem), Q v h' → zg G μ (d + 1) (pc + 3) lv (.int v :: st) h' P) : zGo G μ (d + 1) (zn h + zx h, zs h, 0, 0) pc lv (v3 :: v2 :: v1 :: st) h P := z_callS i 3 [v1, v2, v3] hi hν hlk rfl hw (Nat.le_refl _) ⟨Nat.le_refl _, Nat.le_refl _⟩ K (fun r h' q c1 c2 => by
  obtain ⟨v, rfl, q⟩ := q
  exact zgo_cnt c1 c2 (k v h' q))
theorem z_cVL3 (i : Nat) {index : Nat} {ν : zM} {a ci : Nat} {v1 v2 v3 : Value} {Q : Int64 → zMem → Prop} (hi : μ.2.2.2.2[i]? = some (pc, .invokevirtual index, 3)) (hν : zMF ν 3) (hlk : Cond.methodLink μ.1.cls index ν.1 ∈ ztb ∧ Cond.instanceMethod ν.1 ∈ ztb ∧ Cond.selects ν.1.cls ν.1 ν.1 ∈ ztb) (hcl : ∃ q, zcl[ci]? = some q ∧ q.1 = ν.1.cls) (hci : ci < 100) (ho : zO h a ci) (hw : (st.map fun v => v.category).sum ≤ 8) (K : zConL G ν d [.ref a, v1, v2, v3] h Q) (k : ∀ (v : Int64) (h' : zMem), Q v h' → zg G μ (d + 1) (pc + 3) lv (.long v :: st) h' P) : zGo G μ (d + 1) (zn h + zx h, zs h, 0, 0) pc lv (v3 :: v2 :: v1 :: .ref a :: st) h P := z_callV i 3 [v1, v2, v3] hi hν hlk ho hcl hci rfl hw (Nat.le_refl _) ⟨Nat.le_refl _, Nat.le_refl _⟩ K (fun r h' q c1 c2 => by
  obtain ⟨v, rfl, q⟩ := q
  exact zgo_cnt c1 c2 (k v h' q))
theorem z_cSL3 (i : Nat) {index : Nat} {ν : zM} {v1 v2 v3 : Value} {Q : Int64 → zMem → Prop} (hi : μ.2.2.2.2[i]? = some (pc, .invokestatic index, 3)) (hν : zMF ν 3) (hlk : Cond.methodLink μ.1.cls index ν.1 ∈ ztb ∧ Cond.static ν.1 ∈ ztb) (hw : (st.map fun v => v.category).sum ≤ 8) (K : zConL G ν d [v1, v2, v3] h Q) (k : ∀ (v : Int64) (h' : zMem), Q v h' → zg G μ (d + 1) (pc + 3) lv (.long v :: st) h' P) : zGo G μ (d + 1) (zn h + zx h, zs h, 0, 0) pc lv (v3 :: v2 :: v1 :: st) h P := z_callS i 3 [v1, v2, v3] hi hν hlk rfl hw (Nat.le_refl _) ⟨Nat.le_refl _, Nat.le_refl _⟩ K (fun r h' q c1 c2 => by
  obtain ⟨v, rfl, q⟩ := q
  exact zgo_cnt c1 c2 (k v h' q))
theorem z_cVV3 (i : Nat) {index : Nat} {ν : zM} {a ci : Nat} {v1 v2 v3 : Value} {Q : zMem → Prop} (hi : μ.2.2.2.2[i]? = some (pc, .invokevirtual index, 3)) (hν : zMF ν 3) (hlk : Cond.methodLink μ.1.cls index ν.1 ∈ ztb ∧ Cond.instanceMethod ν.1 ∈ ztb ∧ Cond.selects ν.1.cls ν.1 ν.1 ∈ ztb) (hcl : ∃ q, zcl[ci]? = some q ∧ q.1 = ν.1.cls) (hci : ci < 100) (ho : zO h a ci) (hw : (st.map fun v => v.category).sum ≤ 8) (K : zConV G ν d [.ref a, v1, v2, v3] h Q) (k : ∀ (h' : zMem), Q h' → zg G μ (d + 1) (pc + 3) lv (st) h' P) : zGo G μ (d + 1) (zn h + zx h, zs h, 0, 0) pc lv (v3 :: v2 :: v1 :: .ref a :: st) h P := z_callV i 3 [v1, v2, v3] hi hν hlk ho hcl hci rfl hw (Nat.le_refl _) ⟨Nat.le_refl _, Nat.le_refl _⟩ K (fun r h' q c1 c2 => by
  obtain ⟨rfl, q⟩ := q
  exact zgo_cnt c1 c2 (k h' q))
theorem z_cSV3 (i : Nat) {index : Nat} {ν : zM} {v1 v2 v3 : Value} {Q : zMem → Prop} (hi : μ.2.2.2.2[i]? = some (pc, .invokestatic index, 3)) (hν : zMF ν 3) (hlk : Cond.methodLink μ.1.cls index ν.1 ∈ ztb ∧ Cond.static ν.1 ∈ ztb) (hw : (st.map fun v => v.category).sum ≤ 8) (K : zConV G ν d [v1, v2, v3] h Q) (k : ∀ (h' : zMem), Q h' → zg G μ (d + 1) (pc + 3) lv (st) h' P) : zGo G μ (d + 1) (zn h + zx h, zs h, 0, 0) pc lv (v3 :: v2 :: v1 :: st) h P := z_callS i 3 [v1, v2, v3] hi hν hlk rfl hw (Nat.le_refl _) ⟨Nat.le_refl _, Nat.le_refl _⟩ K (fun r h' q c1 c2 => by
  obtain ⟨rfl, q⟩ := q
  exact zgo_cnt c1 c2 (k h' q))
theorem z_cVR3 (i : Nat) {index : Nat} {ν : zM} {a ci : Nat} {v1 v2 v3 : Value} {Q : Nat → zMem → Prop} (hi : μ.2.2.2.2[i]? = some (pc, .invokevirtual index, 3)) (hν : zMF ν 3) (hlk : Cond.methodLink μ.1.cls index ν.1 ∈ ztb ∧ Cond.instanceMethod ν.1 ∈ ztb ∧ Cond.selects ν.1.cls ν.1 ν.1 ∈ ztb) (hcl : ∃ q, zcl[ci]? = some q ∧ q.1 = ν.1.cls) (hci : ci < 100) (ho : zO h a ci) (hw : (st.map fun v => v.category).sum ≤ 8) (K : zConR G ν d [.ref a, v1, v2, v3] h Q) (k : ∀ (v : Nat) (h' : zMem), Q v h' → zg G μ (d + 1) (pc + 3) lv (.ref v :: st) h' P) : zGo G μ (d + 1) (zn h + zx h, zs h, 0, 0) pc lv (v3 :: v2 :: v1 :: .ref a :: st) h P := z_callV i 3 [v1, v2, v3] hi hν hlk ho hcl hci rfl hw (Nat.le_refl _) ⟨Nat.le_refl _, Nat.le_refl _⟩ K (fun r h' q c1 c2 => by
  obtain ⟨v, rfl, q⟩ := q
  exact zgo_cnt c1 c2 (k v h' q))
theorem z_cSR3 (i : Nat) {index : Nat} {ν : zM} {v1 v2 v3 : Value} {Q : Nat → zMem → Prop} (hi : μ.2.2.2.2[i]? = some (pc, .invokestatic index, 3)) (hν : zMF ν 3) (hlk : Cond.methodLink μ.1.cls index ν.1 ∈ ztb ∧ Cond.static ν.1 ∈ ztb) (hw : (st.map fun v => v.category).sum ≤ 8) (K : zConR G ν d [v1, v2, v3] h Q) (k : ∀ (v : Nat) (h' : zMem), Q v h' → zg G μ (d + 1) (pc + 3) lv (.ref v :: st) h' P) : zGo G μ (d + 1) (zn h + zx h, zs h, 0, 0) pc lv (v3 :: v2 :: v1 :: st) h P := z_callS i 3 [v1, v2, v3] hi hν hlk rfl hw (Nat.le_refl _) ⟨Nat.le_refl _, Nat.le_refl _⟩ K (fun r h' q c1 c2 => by
  obtain ⟨v, rfl, q⟩ := q
  exact zgo_cnt c1 c2 (k v h' q))
theorem z_cVI4 (i : Nat) {index : Nat} {ν : zM} {a ci : Nat} {v1 v2 v3 v4 : Value} {Q : Int32 → zMem → Prop} (hi : μ.2.2.2.2[i]? = some (pc, .invokevirtual index, 3)) (hν : zMF ν 4) (hlk : Cond.methodLink μ.1.cls index ν.1 ∈ ztb ∧ Cond.instanceMethod ν.1 ∈ ztb ∧ Cond.selects ν.1.cls ν.1 ν.1 ∈ ztb) (hcl : ∃ q, zcl[ci]? = some q ∧ q.1 = ν.1.cls) (hci : ci < 100) (ho : zO h a ci) (hw : (st.map fun v => v.category).sum ≤ 8) (K : zConI G ν d [.ref a, v1, v2, v3, v4] h Q) (k : ∀ (v : Int32) (h' : zMem), Q v h' → zg G μ (d + 1) (pc + 3) lv (.int v :: st) h' P) : zGo G μ (d + 1) (zn h + zx h, zs h, 0, 0) pc lv (v4 :: v3 :: v2 :: v1 :: .ref a :: st) h P := z_callV i 4 [v1, v2, v3, v4] hi hν hlk ho hcl hci rfl hw (Nat.le_refl _) ⟨Nat.le_refl _, Nat.le_refl _⟩ K (fun r h' q c1 c2 => by
  obtain ⟨v, rfl, q⟩ := q
  exact zgo_cnt c1 c2 (k v h' q))
theorem z_cSI4 (i : Nat) {index : Nat} {ν : zM} {v1 v2 v3 v4 : Value} {Q : Int32 → zMem → Prop} (hi : μ.2.2.2.2[i]? = some (pc, .invokestatic index, 3)) (hν : zMF ν 4) (hlk : Cond.methodLink μ.1.cls index ν.1 ∈ ztb ∧ Cond.static ν.1 ∈ ztb) (hw : (st.map fun v => v.category).sum ≤ 8) (K : zConI G ν d [v1, v2, v3, v4] h Q) (k : ∀ (v : Int32) (h' : zMem), Q v h' → zg G μ (d + 1) (pc + 3) lv (.int v :: st) h' P) : zGo G μ (d + 1) (zn h + zx h, zs h, 0, 0) pc lv (v4 :: v3 :: v2 :: v1 :: st) h P := z_callS i 4 [v1, v2, v3, v4] hi hν hlk rfl hw (Nat.le_refl _) ⟨Nat.le_refl _, Nat.le_refl _⟩ K (fun r h' q c1 c2 => by
  obtain ⟨v, rfl, q⟩ := q
  exact zgo_cnt c1 c2 (k v h' q))
theorem z_cVL4 (i : Nat) {index : Nat} {ν : zM} {a ci : Nat} {v1 v2 v3 v4 : Value} {Q : Int64 → zMem → Prop} (hi : μ.2.2.2.2[i]? = some (pc, .invokevirtual index, 3)) (hν : zMF ν 4) (hlk : Cond.methodLink μ.1.cls index ν.1 ∈ ztb ∧ Cond.instanceMethod ν.1 ∈ ztb ∧ Cond.selects ν.1.cls ν.1 ν.1 ∈ ztb) (hcl : ∃ q, zcl[ci]? = some q ∧ q.1 = ν.1.cls) (hci : ci < 100) (ho : zO h a ci) (hw : (st.map fun v => v.category).sum ≤ 8) (K : zConL G ν d [.ref a, v1, v2, v3, v4] h Q) (k : ∀ (v : Int64) (h' : zMem), Q v h' → zg G μ (d + 1) (pc + 3) lv (.long v :: st) h' P) : zGo G μ (d + 1) (zn h + zx h, zs h, 0, 0) pc lv (v4 :: v3 :: v2 :: v1 :: .ref a :: st) h P := z_callV i 4 [v1, v2, v3, v4] hi hν hlk ho hcl hci rfl hw (Nat.le_refl _) ⟨Nat.le_refl _, Nat.le_refl _⟩ K (fun r h' q c1 c2 => by
  obtain ⟨v, rfl, q⟩ := q
  exact zgo_cnt c1 c2 (k v h' q))
theorem z_cSL4 (i : Nat) {index : Nat} {ν : zM} {v1 v2 v3 v4 : Value} {Q : Int64 → zMem → Prop} (hi : μ.2.2.2.2[i]? = some (pc, .invokestatic index, 3)) (hν : zMF ν 4) (hlk : Cond.methodLink μ.1.cls index ν.1 ∈ ztb ∧ Cond.static ν.1 ∈ ztb) (hw : (st.map fun v => v.category).sum ≤ 8) (K : zConL G ν d [v1, v2, v3, v4] h Q) (k : ∀ (v : Int64) (h' : zMem), Q v h' → zg G μ (d + 1) (pc + 3) lv (.long v :: st) h' P) : zGo G μ (d + 1) (zn h + zx h, zs h, 0, 0) pc lv (v4 :: v3 :: v2 :: v1 :: st) h P := z_callS i 4 [v1, v2, v3, v4] hi hν hlk rfl hw (Nat.le_refl _) ⟨Nat.le_refl _, Nat.le_refl _⟩ K (fun r h' q c1 c2 => by
  obtain ⟨v, rfl, q⟩ := q
  exact zgo_cnt c1 c2 (k v h' q))
theorem z_cVV4 (i : Nat) {index : Nat} {ν : zM} {a ci : Nat} {v1 v2 v3 v4 : Value} {Q : zMem → Prop} (hi : μ.2.2.2.2[i]? = some (pc, .invokevirtual index, 3)) (hν : zMF ν 4) (hlk : Cond.methodLink μ.1.cls index ν.1 ∈ ztb ∧ Cond.instanceMethod ν.1 ∈ ztb ∧ Cond.selects ν.1.cls ν.1 ν.1 ∈ ztb) (hcl : ∃ q, zcl[ci]? = some q ∧ q.1 = ν.1.cls) (hci : ci < 100) (ho : zO h a ci) (hw : (st.map fun v => v.category).sum ≤ 8) (K : zConV G ν d [.ref a, v1, v2, v3, v4] h Q) (k : ∀ (h' : zMem), Q h' → zg G μ (d + 1) (pc + 3) lv (st) h' P) : zGo G μ (d + 1) (zn h + zx h, zs h, 0, 0) pc lv (v4 :: v3 :: v2 :: v1 :: .ref a :: st) h P := z_callV i 4 [v1, v2, v3, v4] hi hν hlk ho hcl hci rfl hw (Nat.le_refl _) ⟨Nat.le_refl _, Nat.le_refl _⟩ K (fun r h' q c1 c2 => by
  obtain ⟨rfl, q⟩ := q
  exact zgo_cnt c1 c2 (k h' q))
theorem z_cSV4 (i : Nat) {index : Nat} {ν : zM} {v1 v2 v3 v4 : Value} {Q : zMem → Prop} (hi : μ.2.2.2.2[i]? = some (pc, .invokestatic index, 3)) (hν : zMF ν 4) (hlk : Cond.methodLink μ.1.cls index ν.1 ∈ ztb ∧ Cond.static ν.1 ∈ ztb) (hw : (st.map fun v => v.category).sum ≤ 8) (K : zConV G ν d [v1, v2, v3, v4] h Q) (k : ∀ (h' : zMem), Q h' → zg G μ (d + 1) (pc + 3) lv (st) h' P) : zGo G μ (d + 1) (zn h + zx h, zs h, 0, 0) pc lv (v4 :: v3 :: v2 :: v1 :: st) h P := z_callS i 4 [v1, v2, v3, v4] hi hν hlk rfl hw (Nat.le_refl _) ⟨Nat.le_refl _, Nat.le_refl _⟩ K (fun r h' q c1 c2 => by
  obtain ⟨rfl, q⟩ := q
  exact zgo_cnt c1 c2 (k h' q))
theorem z_cVR4 (i : Nat) {index : Nat} {ν : zM} {a ci : Nat} {v1 v2 v3 v4 : Value} {Q : Nat → zMem → Prop} (hi : μ.2.2.2.2[i]? = some (pc, .invokevirtual index, 3)) (hν : zMF ν 4) (hlk : Cond.methodLink μ.1.cls index ν.1 ∈ ztb ∧ Cond.instanceMethod ν.1 ∈ ztb ∧ Cond.selects ν.1.cls ν.1 ν.1 ∈ ztb) (hcl : ∃ q, zcl[ci]? = some q ∧ q.1 = ν.1.cls) (hci : ci < 100) (ho : zO h a ci) (hw : (st.map fun v => v.category).sum ≤ 8) (K : zConR G ν d [.ref a, v1, v2, v3, v4] h Q) (k : ∀ (v : Nat) (h' : zMem), Q v h' → zg G μ (d + 1) (pc + 3) lv (.ref v :: st) h' P) : zGo G μ (d + 1) (zn h + zx h, zs h, 0, 0) pc lv (v4 :: v3 :: v2 :: v1 :: .ref a :: st) h P := z_callV i 4 [v1, v2, v3, v4] hi hν hlk ho hcl hci rfl hw (Nat.le_refl _) ⟨Nat.le_refl _, Nat.le_refl _⟩ K (fun r h' q c1 c2 => by
  obtain ⟨v, rfl, q⟩ := q
  exact zgo_cnt c1 c2 (k v h' q))
theorem z_cSR4 (i : Nat) {index : Nat} {ν : zM} {v1 v2 v3 v4 : Value} {Q : Nat → zMem → Prop} (hi : μ.2.2.2.2[i]? = some (pc, .invokestatic index, 3)) (hν : zMF ν 4) (hlk : Cond.methodLink μ.1.cls index ν.1 ∈ ztb ∧ Cond.static ν.1 ∈ ztb) (hw : (st.map fun v => v.category).sum ≤ 8) (K : zConR G ν d [v1, v2, v3, v4] h Q) (k : ∀ (v : Nat) (h' : zMem), Q v h' → zg G μ (d + 1) (pc + 3) lv (.ref v :: st) h' P) : zGo G μ (d + 1) (zn h + zx h, zs h, 0, 0) pc lv (v4 :: v3 :: v2 :: v1 :: st) h P := z_callS i 4 [v1, v2, v3, v4] hi hν hlk rfl hw (Nat.le_refl _) ⟨Nat.le_refl _, Nat.le_refl _⟩ K (fun r h' q c1 c2 => by
  obtain ⟨v, rfl, q⟩ := q
  exact zgo_cnt c1 c2 (k v h' q))
theorem z_cVI5 (i : Nat) {index : Nat} {ν : zM} {a ci : Nat} {v1 v2 v3 v4 v5 : Value} {Q : Int32 → zMem → Prop} (hi : μ.2.2.2.2[i]? = some (pc, .invokevirtual index, 3)) (hν : zMF ν 5) (hlk : Cond.methodLink μ.1.cls index ν.1 ∈ ztb ∧ Cond.instanceMethod ν.1 ∈ ztb ∧ Cond.selects ν.1.cls ν.1 ν.1 ∈ ztb) (hcl : ∃ q, zcl[ci]? = some q ∧ q.1 = ν.1.cls) (hci : ci < 100) (ho : zO h a ci) (hw : (st.map fun v => v.category).sum ≤ 8) (K : zConI G ν d [.ref a, v1, v2, v3, v4, v5] h Q) (k : ∀ (v : Int32) (h' : zMem), Q v h' → zg G μ (d + 1) (pc + 3) lv (.int v :: st) h' P) : zGo G μ (d + 1) (zn h + zx h, zs h, 0, 0) pc lv (v5 :: v4 :: v3 :: v2 :: v1 :: .ref a :: st) h P := z_callV i 5 [v1, v2, v3, v4, v5] hi hν hlk ho hcl hci rfl hw (Nat.le_refl _) ⟨Nat.le_refl _, Nat.le_refl _⟩ K (fun r h' q c1 c2 => by
  obtain ⟨v, rfl, q⟩ := q
  exact zgo_cnt c1 c2 (k v h' q))
theorem z_cSI5 (i : Nat) {index : Nat} {ν : zM} {v1 v2 v3 v4 v5 : Value} {Q : Int32 → zMem → Prop} (hi : μ.2.2.2.2[i]? = some (pc, .invokestatic index, 3)) (hν : zMF ν 5) (hlk : Cond.methodLink μ.1.cls index ν.1 ∈ ztb ∧ Cond.static ν.1 ∈ ztb) (hw : (st.map fun v => v.category).sum ≤ 8) (K : zConI G ν d [v1, v2, v3, v4, v5] h Q) (k : ∀ (v : Int32) (h' : zMem), Q v h' → zg G μ (d + 1) (pc + 3) lv (.int v :: st) h' P) : zGo G μ (d + 1) (zn h + zx h, zs h, 0, 0) pc lv (v5 :: v4 :: v3 :: v2 :: v1 :: st) h P := z_callS i 5 [v1, v2, v3, v4, v5] hi hν hlk rfl hw (Nat.le_refl _) ⟨Nat.le_refl _, Nat.le_refl _⟩ K (fun r h' q c1 c2 => by
  obtain ⟨v, rfl, q⟩ := q
  exact zgo_cnt c1 c2 (k v h' q))
theorem z_cVL5 (i : Nat) {index : Nat} {ν : zM} {a ci : Nat} {v1 v2 v3 v4 v5 : Value} {Q : Int64 → zMem → Prop} (hi : μ.2.2.2.2[i]? = some (pc, .invokevirtual index, 3)) (hν : zMF ν 5) (hlk : Cond.methodLink μ.1.cls index ν.1 ∈ ztb ∧ Cond.instanceMethod ν.1 ∈ ztb ∧ Cond.selects ν.1.cls ν.1 ν.1 ∈ ztb) (hcl : ∃ q, zcl[ci]? = some q ∧ q.1 = ν.1.cls) (hci : ci < 100) (ho : zO h a ci) (hw : (st.map fun v => v.category).sum ≤ 8) (K : zConL G ν d [.ref a, v1, v2, v3, v4, v5] h Q) (k : ∀ (v : Int64) (h' : zMem), Q v h' → zg G μ (d + 1) (pc + 3) lv (.long v :: st) h' P) : zGo G μ (d + 1) (zn h + zx h, zs h, 0, 0) pc lv (v5 :: v4 :: v3 :: v2 :: v1 :: .ref a :: st) h P := z_callV i 5 [v1, v2, v3, v4, v5] hi hν hlk ho hcl hci rfl hw (Nat.le_refl _) ⟨Nat.le_refl _, Nat.le_refl _⟩ K (fun r h' q c1 c2 => by
  obtain ⟨v, rfl, q⟩ := q
  exact zgo_cnt c1 c2 (k v h' q))
theorem z_cSL5 (i : Nat) {index : Nat} {ν : zM} {v1 v2 v3 v4 v5 : Value} {Q : Int64 → zMem → Prop} (hi : μ.2.2.2.2[i]? = some (pc, .invokestatic index, 3)) (hν : zMF ν 5) (hlk : Cond.methodLink μ.1.cls index ν.1 ∈ ztb ∧ Cond.static ν.1 ∈ ztb) (hw : (st.map fun v => v.category).sum ≤ 8) (K : zConL G ν d [v1, v2, v3, v4, v5] h Q) (k : ∀ (v : Int64) (h' : zMem), Q v h' → zg G μ (d + 1) (pc + 3) lv (.long v :: st) h' P) : zGo G μ (d + 1) (zn h + zx h, zs h, 0, 0) pc lv (v5 :: v4 :: v3 :: v2 :: v1 :: st) h P := z_callS i 5 [v1, v2, v3, v4, v5] hi hν hlk rfl hw (Nat.le_refl _) ⟨Nat.le_refl _, Nat.le_refl _⟩ K (fun r h' q c1 c2 => by
  obtain ⟨v, rfl, q⟩ := q
  exact zgo_cnt c1 c2 (k v h' q))
theorem z_cVV5 (i : Nat) {index : Nat} {ν : zM} {a ci : Nat} {v1 v2 v3 v4 v5 : Value} {Q : zMem → Prop} (hi : μ.2.2.2.2[i]? = some (pc, .invokevirtual index, 3)) (hν : zMF ν 5) (hlk : Cond.methodLink μ.1.cls index ν.1 ∈ ztb ∧ Cond.instanceMethod ν.1 ∈ ztb ∧ Cond.selects ν.1.cls ν.1 ν.1 ∈ ztb) (hcl : ∃ q, zcl[ci]? = some q ∧ q.1 = ν.1.cls) (hci : ci < 100) (ho : zO h a ci) (hw : (st.map fun v => v.category).sum ≤ 8) (K : zConV G ν d [.ref a, v1, v2, v3, v4, v5] h Q) (k : ∀ (h' : zMem), Q h' → zg G μ (d + 1) (pc + 3) lv (st) h' P) : zGo G μ (d + 1) (zn h + zx h, zs h, 0, 0) pc lv (v5 :: v4 :: v3 :: v2 :: v1 :: .ref a :: st) h P := z_callV i 5 [v1, v2, v3, v4, v5] hi hν hlk ho hcl hci rfl hw (Nat.le_refl _) ⟨Nat.le_refl _, Nat.le_refl _⟩ K (fun r h' q c1 c2 => by
  obtain ⟨rfl, q⟩ := q
  exact zgo_cnt c1 c2 (k h' q))
theorem z_cSV5 (i : Nat) {index : Nat} {ν : zM} {v1 v2 v3 v4 v5 : Value} {Q : zMem → Prop} (hi : μ.2.2.2.2[i]? = some (pc, .invokestatic index, 3)) (hν : zMF ν 5) (hlk : Cond.methodLink μ.1.cls index ν.1 ∈ ztb ∧ Cond.static ν.1 ∈ ztb) (hw : (st.map fun v => v.category).sum ≤ 8) (K : zConV G ν d [v1, v2, v3, v4, v5] h Q) (k : ∀ (h' : zMem), Q h' → zg G μ (d + 1) (pc + 3) lv (st) h' P) : zGo G μ (d + 1) (zn h + zx h, zs h, 0, 0) pc lv (v5 :: v4 :: v3 :: v2 :: v1 :: st) h P := z_callS i 5 [v1, v2, v3, v4, v5] hi hν hlk rfl hw (Nat.le_refl _) ⟨Nat.le_refl _, Nat.le_refl _⟩ K (fun r h' q c1 c2 => by
  obtain ⟨rfl, q⟩ := q
  exact zgo_cnt c1 c2 (k h' q))
theorem z_cVR5 (i : Nat) {index : Nat} {ν : zM} {a ci : Nat} {v1 v2 v3 v4 v5 : Value} {Q : Nat → zMem → Prop} (hi : μ.2.2.2.2[i]? = some (pc, .invokevirtual index, 3)) (hν : zMF ν 5) (hlk : Cond.methodLink μ.1.cls index ν.1 ∈ ztb ∧ Cond.instanceMethod ν.1 ∈ ztb ∧ Cond.selects ν.1.cls ν.1 ν.1 ∈ ztb) (hcl : ∃ q, zcl[ci]? = some q ∧ q.1 = ν.1.cls) (hci : ci < 100) (ho : zO h a ci) (hw : (st.map fun v => v.category).sum ≤ 8) (K : zConR G ν d [.ref a, v1, v2, v3, v4, v5] h Q) (k : ∀ (v : Nat) (h' : zMem), Q v h' → zg G μ (d + 1) (pc + 3) lv (.ref v :: st) h' P) : zGo G μ (d + 1) (zn h + zx h, zs h, 0, 0) pc lv (v5 :: v4 :: v3 :: v2 :: v1 :: .ref a :: st) h P := z_callV i 5 [v1, v2, v3, v4, v5] hi hν hlk ho hcl hci rfl hw (Nat.le_refl _) ⟨Nat.le_refl _, Nat.le_refl _⟩ K (fun r h' q c1 c2 => by
  obtain ⟨v, rfl, q⟩ := q
  exact zgo_cnt c1 c2 (k v h' q))
theorem z_cSR5 (i : Nat) {index : Nat} {ν : zM} {v1 v2 v3 v4 v5 : Value} {Q : Nat → zMem → Prop} (hi : μ.2.2.2.2[i]? = some (pc, .invokestatic index, 3)) (hν : zMF ν 5) (hlk : Cond.methodLink μ.1.cls index ν.1 ∈ ztb ∧ Cond.static ν.1 ∈ ztb) (hw : (st.map fun v => v.category).sum ≤ 8) (K : zConR G ν d [v1, v2, v3, v4, v5] h Q) (k : ∀ (v : Nat) (h' : zMem), Q v h' → zg G μ (d + 1) (pc + 3) lv (.ref v :: st) h' P) : zGo G μ (d + 1) (zn h + zx h, zs h, 0, 0) pc lv (v5 :: v4 :: v3 :: v2 :: v1 :: st) h P := z_callS i 5 [v1, v2, v3, v4, v5] hi hν hlk rfl hw (Nat.le_refl _) ⟨Nat.le_refl _, Nat.le_refl _⟩ K (fun r h' q c1 c2 => by
  obtain ⟨v, rfl, q⟩ := q
  exact zgo_cnt c1 c2 (k v h' q))
theorem z_cVI6 (i : Nat) {index : Nat} {ν : zM} {a ci : Nat} {v1 v2 v3 v4 v5 v6 : Value} {Q : Int32 → zMem → Prop} (hi : μ.2.2.2.2[i]? = some (pc, .invokevirtual index, 3)) (hν : zMF ν 6) (hlk : Cond.methodLink μ.1.cls index ν.1 ∈ ztb ∧ Cond.instanceMethod ν.1 ∈ ztb ∧ Cond.selects ν.1.cls ν.1 ν.1 ∈ ztb) (hcl : ∃ q, zcl[ci]? = some q ∧ q.1 = ν.1.cls) (hci : ci < 100) (ho : zO h a ci) (hw : (st.map fun v => v.category).sum ≤ 8) (K : zConI G ν d [.ref a, v1, v2, v3, v4, v5, v6] h Q) (k : ∀ (v : Int32) (h' : zMem), Q v h' → zg G μ (d + 1) (pc + 3) lv (.int v :: st) h' P) : zGo G μ (d + 1) (zn h + zx h, zs h, 0, 0) pc lv (v6 :: v5 :: v4 :: v3 :: v2 :: v1 :: .ref a :: st) h P := z_callV i 6 [v1, v2, v3, v4, v5, v6] hi hν hlk ho hcl hci rfl hw (Nat.le_refl _) ⟨Nat.le_refl _, Nat.le_refl _⟩ K (fun r h' q c1 c2 => by
  obtain ⟨v, rfl, q⟩ := q
  exact zgo_cnt c1 c2 (k v h' q))
theorem z_cSI6 (i : Nat) {index : Nat} {ν : zM} {v1 v2 v3 v4 v5 v6 : Value} {Q : Int32 → zMem → Prop} (hi : μ.2.2.2.2[i]? = some (pc, .invokestatic index, 3)) (hν : zMF ν 6) (hlk : Cond.methodLink μ.1.cls index ν.1 ∈ ztb ∧ Cond.static ν.1 ∈ ztb) (hw : (st.map fun v => v.category).sum ≤ 8) (K : zConI G ν d [v1, v2, v3, v4, v5, v6] h Q) (k : ∀ (v : Int32) (h' : zMem), Q v h' → zg G μ (d + 1) (pc + 3) lv (.int v :: st) h' P) : zGo G μ (d + 1) (zn h + zx h, zs h, 0, 0) pc lv (v6 :: v5 :: v4 :: v3 :: v2 :: v1 :: st) h P := z_callS i 6 [v1, v2, v3, v4, v5, v6] hi hν hlk rfl hw (Nat.le_refl _) ⟨Nat.le_refl _, Nat.le_refl _⟩ K (fun r h' q c1 c2 => by
  obtain ⟨v, rfl, q⟩ := q
  exact zgo_cnt c1 c2 (k v h' q))
theorem z_cVL6 (i : Nat) {index : Nat} {ν : zM} {a ci : Nat} {v1 v2 v3 v4 v5 v6 : Value} {Q : Int64 → zMem → Prop} (hi : μ.2.2.2.2[i]? = some (pc, .invokevirtual index, 3)) (hν : zMF ν 6) (hlk : Cond.methodLink μ.1.cls index ν.1 ∈ ztb ∧ Cond.instanceMethod ν.1 ∈ ztb ∧ Cond.selects ν.1.cls ν.1 ν.1 ∈ ztb) (hcl : ∃ q, zcl[ci]? = some q ∧ q.1 = ν.1.cls) (hci : ci < 100) (ho : zO h a ci) (hw : (st.map fun v => v.category).sum ≤ 8) (K : zConL G ν d [.ref a, v1, v2, v3, v4, v5, v6] h Q) (k : ∀ (v : Int64) (h' : zMem), Q v h' → zg G μ (d + 1) (pc + 3) lv (.long v :: st) h' P) : zGo G μ (d + 1) (zn h + zx h, zs h, 0, 0) pc lv (v6 :: v5 :: v4 :: v3 :: v2 :: v1 :: .ref a :: st) h P := z_callV i 6 [v1, v2, v3, v4, v5, v6] hi hν hlk ho hcl hci rfl hw (Nat.le_refl _) ⟨Nat.le_refl _, Nat.le_refl _⟩ K (fun r h' q c1 c2 => by
  obtain ⟨v, rfl, q⟩ := q
  exact zgo_cnt c1 c2 (k v h' q))
theorem z_cSL6 (i : Nat) {index : Nat} {ν : zM} {v1 v2 v3 v4 v5 v6 : Value} {Q : Int64 → zMem → Prop} (hi : μ.2.2.2.2[i]? = some (pc, .invokestatic index, 3)) (hν : zMF ν 6) (hlk : Cond.methodLink μ.1.cls index ν.1 ∈ ztb ∧ Cond.static ν.1 ∈ ztb) (hw : (st.map fun v => v.category).sum ≤ 8) (K : zConL G ν d [v1, v2, v3, v4, v5, v6] h Q) (k : ∀ (v : Int64) (h' : zMem), Q v h' → zg G μ (d + 1) (pc + 3) lv (.long v :: st) h' P) : zGo G μ (d + 1) (zn h + zx h, zs h, 0, 0) pc lv (v6 :: v5 :: v4 :: v3 :: v2 :: v1 :: st) h P := z_callS i 6 [v1, v2, v3, v4, v5, v6] hi hν hlk rfl hw (Nat.le_refl _) ⟨Nat.le_refl _, Nat.le_refl _⟩ K (fun r h' q c1 c2 => by
  obtain ⟨v, rfl, q⟩ := q
  exact zgo_cnt c1 c2 (k v h' q))
theorem z_cVV6 (i : Nat) {index : Nat} {ν : zM} {a ci : Nat} {v1 v2 v3 v4 v5 v6 : Value} {Q : zMem → Prop} (hi : μ.2.2.2.2[i]? = some (pc, .invokevirtual index, 3)) (hν : zMF ν 6) (hlk : Cond.methodLink μ.1.cls index ν.1 ∈ ztb ∧ Cond.instanceMethod ν.1 ∈ ztb ∧ Cond.selects ν.1.cls ν.1 ν.1 ∈ ztb) (hcl : ∃ q, zcl[ci]? = some q ∧ q.1 = ν.1.cls) (hci : ci < 100) (ho : zO h a ci) (hw : (st.map fun v => v.category).sum ≤ 8) (K : zConV G ν d [.ref a, v1, v2, v3, v4, v5, v6] h Q) (k : ∀ (h' : zMem), Q h' → zg G μ (d + 1) (pc + 3) lv (st) h' P) : zGo G μ (d + 1) (zn h + zx h, zs h, 0, 0) pc lv (v6 :: v5 :: v4 :: v3 :: v2 :: v1 :: .ref a :: st) h P := z_callV i 6 [v1, v2, v3, v4, v5, v6] hi hν hlk ho hcl hci rfl hw (Nat.le_refl _) ⟨Nat.le_refl _, Nat.le_refl _⟩ K (fun r h' q c1 c2 => by
  obtain ⟨rfl, q⟩ := q
  exact zgo_cnt c1 c2 (k h' q))
theorem z_cSV6 (i : Nat) {index : Nat} {ν : zM} {v1 v2 v3 v4 v5 v6 : Value} {Q : zMem → Prop} (hi : μ.2.2.2.2[i]? = some (pc, .invokestatic index, 3)) (hν : zMF ν 6) (hlk : Cond.methodLink μ.1.cls index ν.1 ∈ ztb ∧ Cond.static ν.1 ∈ ztb) (hw : (st.map fun v => v.category).sum ≤ 8) (K : zConV G ν d [v1, v2, v3, v4, v5, v6] h Q) (k : ∀ (h' : zMem), Q h' → zg G μ (d + 1) (pc + 3) lv (st) h' P) : zGo G μ (d + 1) (zn h + zx h, zs h, 0, 0) pc lv (v6 :: v5 :: v4 :: v3 :: v2 :: v1 :: st) h P := z_callS i 6 [v1, v2, v3, v4, v5, v6] hi hν hlk rfl hw (Nat.le_refl _) ⟨Nat.le_refl _, Nat.le_refl _⟩ K (fun r h' q c1 c2 => by
  obtain ⟨rfl, q⟩ := q
  exact zgo_cnt c1 c2 (k h' q))
theorem z_cVR6 (i : Nat) {index : Nat} {ν : zM} {a ci : Nat} {v1 v2 v3 v4 v5 v6 : Value} {Q : Nat → zMem → Prop} (hi : μ.2.2.2.2[i]? = some (pc, .invokevirtual index, 3)) (hν : zMF ν 6) (hlk : Cond.methodLink μ.1.cls index ν.1 ∈ ztb ∧ Cond.instanceMethod ν.1 ∈ ztb ∧ Cond.selects ν.1.cls ν.1 ν.1 ∈ ztb) (hcl : ∃ q, zcl[ci]? = some q ∧ q.1 = ν.1.cls) (hci : ci < 100) (ho : zO h a ci) (hw : (st.map fun v => v.category).sum ≤ 8) (K : zConR G ν d [.ref a, v1, v2, v3, v4, v5, v6] h Q) (k : ∀ (v : Nat) (h' : zMem), Q v h' → zg G μ (d + 1) (pc + 3) lv (.ref v :: st) h' P) : zGo G μ (d + 1) (zn h + zx h, zs h, 0, 0) pc lv (v6 :: v5 :: v4 :: v3 :: v2 :: v1 :: .ref a :: st) h P := z_callV i 6 [v1, v2, v3, v4, v5, v6] hi hν hlk ho hcl hci rfl hw (Nat.le_refl _) ⟨Nat.le_refl _, Nat.le_refl _⟩ K (fun r h' q c1 c2 => by
  obtain ⟨v, rfl, q⟩ := q
  exact zgo_cnt c1 c2 (k v h' q))
theorem z_cSR6 (i : Nat) {index : Nat} {ν : zM} {v1 v2 v3 v4 v5 v6 : Value} {Q : Nat → zMem → Prop} (hi : μ.2.2.2.2[i]? = some (pc, .invokestatic index, 3)) (hν : zMF ν 6) (hlk : Cond.methodLink μ.1.cls index ν.1 ∈ ztb ∧ Cond.static ν.1 ∈ ztb) (hw : (st.map fun v => v.category).sum ≤ 8) (K : zConR G ν d [v1, v2, v3, v4, v5, v6] h Q) (k : ∀ (v : Nat) (h' : zMem), Q v h' → zg G μ (d + 1) (pc + 3) lv (.ref v :: st) h' P) : zGo G μ (d + 1) (zn h + zx h, zs h, 0, 0) pc lv (v6 :: v5 :: v4 :: v3 :: v2 :: v1 :: st) h P := z_callS i 6 [v1, v2, v3, v4, v5, v6] hi hν hlk rfl hw (Nat.le_refl _) ⟨Nat.le_refl _, Nat.le_refl _⟩ K (fun r h' q c1 c2 => by
  obtain ⟨v, rfl, q⟩ := q
  exact zgo_cnt c1 c2 (k v h' q))
theorem z_cVI7 (i : Nat) {index : Nat} {ν : zM} {a ci : Nat} {v1 v2 v3 v4 v5 v6 v7 : Value} {Q : Int32 → zMem → Prop} (hi : μ.2.2.2.2[i]? = some (pc, .invokevirtual index, 3)) (hν : zMF ν 7) (hlk : Cond.methodLink μ.1.cls index ν.1 ∈ ztb ∧ Cond.instanceMethod ν.1 ∈ ztb ∧ Cond.selects ν.1.cls ν.1 ν.1 ∈ ztb) (hcl : ∃ q, zcl[ci]? = some q ∧ q.1 = ν.1.cls) (hci : ci < 100) (ho : zO h a ci) (hw : (st.map fun v => v.category).sum ≤ 8) (K : zConI G ν d [.ref a, v1, v2, v3, v4, v5, v6, v7] h Q) (k : ∀ (v : Int32) (h' : zMem), Q v h' → zg G μ (d + 1) (pc + 3) lv (.int v :: st) h' P) : zGo G μ (d + 1) (zn h + zx h, zs h, 0, 0) pc lv (v7 :: v6 :: v5 :: v4 :: v3 :: v2 :: v1 :: .ref a :: st) h P := z_callV i 7 [v1, v2, v3, v4, v5, v6, v7] hi hν hlk ho hcl hci rfl hw (Nat.le_refl _) ⟨Nat.le_refl _, Nat.le_refl _⟩ K (fun r h' q c1 c2 => by
  obtain ⟨v, rfl, q⟩ := q
  exact zgo_cnt c1 c2 (k v h' q))
theorem z_cSI7 (i : Nat) {index : Nat} {ν : zM} {v1 v2 v3 v4 v5 v6 v7 : Value} {Q : Int32 → zMem → Prop} (hi : μ.2.2.2.2[i]? = some (pc, .invokestatic index, 3)) (hν : zMF ν 7) (hlk : Cond.methodLink μ.1.cls index ν.1 ∈ ztb ∧ Cond.static ν.1 ∈ ztb) (hw : (st.map fun v => v.category).sum ≤ 8) (K : zConI G ν d [v1, v2, v3, v4, v5, v6, v7] h Q) (k : ∀ (v : Int32) (h' : zMem), Q v h' → zg G μ (d + 1) (pc + 3) lv (.int v :: st) h' P) : zGo G μ (d + 1) (zn h + zx h, zs h, 0, 0) pc lv (v7 :: v6 :: v5 :: v4 :: v3 :: v2 :: v1 :: st) h P := z_callS i 7 [v1, v2, v3, v4, v5, v6, v7] hi hν hlk rfl hw (Nat.le_refl _) ⟨Nat.le_refl _, Nat.le_refl _⟩ K (fun r h' q c1 c2 => by
  obtain ⟨v, rfl, q⟩ := q
  exact zgo_cnt c1 c2 (k v h' q))
theorem z_cVL7 (i : Nat) {index : Nat} {ν : zM} {a ci : Nat} {v1 v2 v3 v4 v5 v6 v7 : Value} {Q : Int64 → zMem → Prop} (hi : μ.2.2.2.2[i]? = some (pc, .invokevirtual index, 3)) (hν : zMF ν 7) (hlk : Cond.methodLink μ.1.cls index ν.1 ∈ ztb ∧ Cond.instanceMethod ν.1 ∈ ztb ∧ Cond.selects ν.1.cls ν.1 ν.1 ∈ ztb) (hcl : ∃ q, zcl[ci]? = some q ∧ q.1 = ν.1.cls) (hci : ci < 100) (ho : zO h a ci) (hw : (st.map fun v => v.category).sum ≤ 8) (K : zConL G ν d [.ref a, v1, v2, v3, v4, v5, v6, v7] h Q) (k : ∀ (v : Int64) (h' : zMem), Q v h' → zg G μ (d + 1) (pc + 3) lv (.long v :: st) h' P) : zGo G μ (d + 1) (zn h + zx h, zs h, 0, 0) pc lv (v7 :: v6 :: v5 :: v4 :: v3 :: v2 :: v1 :: .ref a :: st) h P := z_callV i 7 [v1, v2, v3, v4, v5, v6, v7] hi hν hlk ho hcl hci rfl hw (Nat.le_refl _) ⟨Nat.le_refl _, Nat.le_refl _⟩ K (fun r h' q c1 c2 => by
  obtain ⟨v, rfl, q⟩ := q
  exact zgo_cnt c1 c2 (k v h' q))
theorem z_cSL7 (i : Nat) {index : Nat} {ν : zM} {v1 v2 v3 v4 v5 v6 v7 : Value} {Q : Int64 → zMem → Prop} (hi : μ.2.2.2.2[i]? = some (pc, .invokestatic index, 3)) (hν : zMF ν 7) (hlk : Cond.methodLink μ.1.cls index ν.1 ∈ ztb ∧ Cond.static ν.1 ∈ ztb) (hw : (st.map fun v => v.category).sum ≤ 8) (K : zConL G ν d [v1, v2, v3, v4, v5, v6, v7] h Q) (k : ∀ (v : Int64) (h' : zMem), Q v h' → zg G μ (d + 1) (pc + 3) lv (.long v :: st) h' P) : zGo G μ (d + 1) (zn h + zx h, zs h, 0, 0) pc lv (v7 :: v6 :: v5 :: v4 :: v3 :: v2 :: v1 :: st) h P := z_callS i 7 [v1, v2, v3, v4, v5, v6, v7] hi hν hlk rfl hw (Nat.le_refl _) ⟨Nat.le_refl _, Nat.le_refl _⟩ K (fun r h' q c1 c2 => by
  obtain ⟨v, rfl, q⟩ := q
  exact zgo_cnt c1 c2 (k v h' q))
theorem z_cVV7 (i : Nat) {index : Nat} {ν : zM} {a ci : Nat} {v1 v2 v3 v4 v5 v6 v7 : Value} {Q : zMem → Prop} (hi : μ.2.2.2.2[i]? = some (pc, .invokevirtual index, 3)) (hν : zMF ν 7) (hlk : Cond.methodLink μ.1.cls index ν.1 ∈ ztb ∧ Cond.instanceMethod ν.1 ∈ ztb ∧ Cond.selects ν.1.cls ν.1 ν.1 ∈ ztb) (hcl : ∃ q, zcl[ci]? = some q ∧ q.1 = ν.1.cls) (hci : ci < 100) (ho : zO h a ci) (hw : (st.map fun v => v.category).sum ≤ 8) (K : zConV G ν d [.ref a, v1, v2, v3, v4, v5, v6, v7] h Q) (k : ∀ (h' : zMem), Q h' → zg G μ (d + 1) (pc + 3) lv (st) h' P) : zGo G μ (d + 1) (zn h + zx h, zs h, 0, 0) pc lv (v7 :: v6 :: v5 :: v4 :: v3 :: v2 :: v1 :: .ref a :: st) h P := z_callV i 7 [v1, v2, v3, v4, v5, v6, v7] hi hν hlk ho hcl hci rfl hw (Nat.le_refl _) ⟨Nat.le_refl _, Nat.le_refl _⟩ K (fun r h' q c1 c2 => by
  obtain ⟨rfl, q⟩ := q
  exact zgo_cnt c1 c2 (k h' q))
theorem z_cSV7 (i : Nat) {index : Nat} {ν : zM} {v1 v2 v3 v4 v5 v6 v7 : Value} {Q : zMem → Prop} (hi : μ.2.2.2.2[i]? = some (pc, .invokestatic index, 3)) (hν : zMF ν 7) (hlk : Cond.methodLink μ.1.cls index ν.1 ∈ ztb ∧ Cond.static ν.1 ∈ ztb) (hw : (st.map fun v => v.category).sum ≤ 8) (K : zConV G ν d [v1, v2, v3, v4, v5, v6, v7] h Q) (k : ∀ (h' : zMem), Q h' → zg G μ (d + 1) (pc + 3) lv (st) h' P) : zGo G μ (d + 1) (zn h + zx h, zs h, 0, 0) pc lv (v7 :: v6 :: v5 :: v4 :: v3 :: v2 :: v1 :: st) h P := z_callS i 7 [v1, v2, v3, v4, v5, v6, v7] hi hν hlk rfl hw (Nat.le_refl _) ⟨Nat.le_refl _, Nat.le_refl _⟩ K (fun r h' q c1 c2 => by
  obtain ⟨rfl, q⟩ := q
  exact zgo_cnt c1 c2 (k h' q))
theorem z_cVR7 (i : Nat) {index : Nat} {ν : zM} {a ci : Nat} {v1 v2 v3 v4 v5 v6 v7 : Value} {Q : Nat → zMem → Prop} (hi : μ.2.2.2.2[i]? = some (pc, .invokevirtual index, 3)) (hν : zMF ν 7) (hlk : Cond.methodLink μ.1.cls index ν.1 ∈ ztb ∧ Cond.instanceMethod ν.1 ∈ ztb ∧ Cond.selects ν.1.cls ν.1 ν.1 ∈ ztb) (hcl : ∃ q, zcl[ci]? = some q ∧ q.1 = ν.1.cls) (hci : ci < 100) (ho : zO h a ci) (hw : (st.map fun v => v.category).sum ≤ 8) (K : zConR G ν d [.ref a, v1, v2, v3, v4, v5, v6, v7] h Q) (k : ∀ (v : Nat) (h' : zMem), Q v h' → zg G μ (d + 1) (pc + 3) lv (.ref v :: st) h' P) : zGo G μ (d + 1) (zn h + zx h, zs h, 0, 0) pc lv (v7 :: v6 :: v5 :: v4 :: v3 :: v2 :: v1 :: .ref a :: st) h P := z_callV i 7 [v1, v2, v3, v4, v5, v6, v7] hi hν hlk ho hcl hci rfl hw (Nat.le_refl _) ⟨Nat.le_refl _, Nat.le_refl _⟩ K (fun r h' q c1 c2 => by
  obtain ⟨v, rfl, q⟩ := q
  exact zgo_cnt c1 c2 (k v h' q))
theorem z_cSR7 (i : Nat) {index : Nat} {ν : zM} {v1 v2 v3 v4 v5 v6 v7 : Value} {Q : Nat → zMem → Prop} (hi : μ.2.2.2.2[i]? = some (pc, .invokestatic index, 3)) (hν : zMF ν 7) (hlk : Cond.methodLink μ.1.cls index ν.1 ∈ ztb ∧ Cond.static ν.1 ∈ ztb) (hw : (st.map fun v => v.category).sum ≤ 8) (K : zConR G ν d [v1, v2, v3, v4, v5, v6, v7] h Q) (k : ∀ (v : Nat) (h' : zMem), Q v h' → zg G μ (d + 1) (pc + 3) lv (.ref v :: st) h' P) : zGo G μ (d + 1) (zn h + zx h, zs h, 0, 0) pc lv (v7 :: v6 :: v5 :: v4 :: v3 :: v2 :: v1 :: st) h P := z_callS i 7 [v1, v2, v3, v4, v5, v6, v7] hi hν hlk rfl hw (Nat.le_refl _) ⟨Nat.le_refl _, Nat.le_refl _⟩ K (fun r h' q c1 c2 => by
  obtain ⟨v, rfl, q⟩ := q
  exact zgo_cnt c1 c2 (k v h' q))
end ZB7
/-! System.arraycopy of ints -/
def zcp (h : zMem) (src sp dst dp n : Nat) : zMem := (h.1, h.2.1, ((fun a j => if a = dst then va_cpy (zI h src) (zI h dst) sp dp n j else zI h a j), zL h))
def zcpok (sp dp n : Int32) (n0 n1 : Nat) : Prop := ¬ sp < 0 ∧ ¬ dp < 0 ∧ ¬ n < 0 ∧ sp.toNatClampNeg + n.toNatClampNeg ≤ n0 ∧ dp.toNatClampNeg + n.toNatClampNeg ≤ n1
theorem zcell_cp_ne {G : zG} {h : zMem} {src sp dst dp n k : Nat} (hk : k ≠ dst) : zcell G (zcp h src sp dst dp n) k = zcell G h k := by
  have e : zI (zcp h src sp dst dp n) k = zI h k := funext fun j => if_neg hk
  have e2 : zfv G (zcp h src sp dst dp n) k (zK h k) = zfv G h k (zK h k) := by
    funext j
    show (match zty (zK h k) j with
      | .long => Value.long (zL h k j)
      | .object _ => va_rf ((zR h k j).map (zad G))
      | .array _ => va_rf ((zR h k j).map (zad G))
      | _ => .int (zI (zcp h src sp dst dp n) k j)) = _
    rw [e]
    rfl
  show (if zK h k = 100 then (Sum.inl (gA G 0, zLen h k, .inl (zI (zcp h src sp dst dp n) k)) : va_E)
    else if zK h k = 101 then .inl (gA G 1, zLen h k, .inr (.inl (zL h k)))
    else if zK h k = 102 then .inl (gA G 2, zLen h k, .inl (zI (zcp h src sp dst dp n) k))
    else if zK h k = 103 then .inl (gA G 3, zLen h k, .inl (zI (zcp h src sp dst dp n) k))
    else if zK h k = 104 then .inl (gA G 4, zLen h k, .inr (.inr (.inr (.inr (fun j => (zR h k j).map (zad G))))))
    else .inr (zK h k, (List.range (zfn (zK h k))).map (zfv G (zcp h src sp dst dp n) k (zK h k)))) = _
  rw [e, e2]
  rfl
theorem z_acopy {G : zG} {μ : zM} {d : Nat} {b : zB} {pc : Nat} {lv st : List Value} {h : zMem} {P : Option Value → zMem → Prop} (i : Nat) {index src dst : Nat} {sp dp n : Int32} (hi : μ.2.2.2.2[i]? = some (pc, .invokestatic index, 3)) (hlk : Cond.methodLink μ.1.cls index arraycopyName ∈ ztb ∧ Cond.static arraycopyName ∈ ztb ∧ Cond.native arraycopyName ∈ ztb ∧ Cond.initialized "java/lang/System" ∈ ztb) (o1 : zO h src 100) (o2 : zO h dst 100) (hok : zcpok sp dp n (zLen h src) (zLen h dst)) (hw : (st.map fun v => v.category).sum ≤ 8)
    (k : zGo G μ (d + 1) b (pc + 3) lv st (zcp h src sp.toNatClampNeg dst dp.toNatClampNeg n.toNatClampNeg) P) : zGo G μ (d + 1) b pc lv (.int n :: .int dp :: .ref dst :: .int sp :: .ref src :: st) h P := by
  intro p l e R s m args below meth c C H locs ls hR hl h1 h2
  have hts := C.2.2.2.2.2.2.1
  have hK := C.2.2.2.2.2.2.2.1.1
  have hrm := C.2.2.2.2.2.2.2.2.2.2
  have he0 : (zw G h)[src]? = some (zad G src, .inl (gA G 0, zLen h src, .inl (zI h src))) := by rw [zw_at o1.1, zcell_i o1.2]
  have he1 : (zw G h)[dst]? = some (zad G dst, .inl (gA G 0, zLen h dst, .inl (zI h dst))) := by rw [zw_at o2.1, zcell_i o2.2]
  have hD := zw_D (G := G) (h := h) hR.2.2.2
  have hc0 : H[zad G src]? = some (arrV (gA G 0) (zLen h src) (fun j => .int (zI h src j))) := hR.1 src _ he0
  have hc1 : H[zad G dst]? = some (arrV (gA G 0) (zLen h dst) (fun j => .int (zI h dst j))) := hR.1 dst _ he1
  have nn : ∀ z : Int32, ¬ z < 0 → z.toInt = (z.toNatClampNeg : Int) := by
    intro z hz
    have hz0 : (0 : Int) ≤ z.toInt := by simpa using Int32.le_iff_toInt_le.mp (Int32.not_lt.mp hz)
    show z.toInt = ((z.toInt.toNat : Nat) : Int)
    omega
  obtain ⟨g1, g2, g3, g4, g5⟩ := hok
  intro T hT X
  obtain ⟨-, k0, hk0, cm0, hkk0⟩ := (hK.2 0 _ rfl).1 (zLen h src) (fun j => .int (zI h src j))
  obtain ⟨-, k1, hk1, cm1, hkk1⟩ := (hK.2 0 _ rfl).1 (zLen h dst) (fun j => .int (zI h dst j))
  obtain ⟨vm', X', step⟩ := X.arraycopy C.1 C.2.2.2.2.2.1 (hts _ hlk.1) (hts _ hlk.2.2.1) (hts _ hlk.2.1) (hts _ hlk.2.2.2) (src := zad G src) (dst := zad G dst) (cs := arrV (gA G 0) (zLen h src) (fun j => .int (zI h src j))) (cd := arrV (gA G 0) (zLen h dst) (fun j => .int (zI h dst j))) (srcPos := sp) (destPos := dp) (n := n) (by rw [hT]; exact hc0) (by rw [hT]; exact hc1)
    (fun _ h => by cases h) (fun _ h => by cases h) (fun h => by cases h) (fun h => by cases h) hk0 hk1 hkk0 hkk1 rfl g1 g2 g3
    (by rw [nn sp g1, nn n g3, arrV_size]; omega)
    (by rw [nn dp g2, nn n g3, arrV_size]; omega)
    (fun vm₁ _ i hi => by
      have e : (arrV (gA G 0) (zLen h src) (fun j => .int (zI h src j))).slots.getD (sp.toNatClampNeg + i) .null = .int (zI h src (sp.toNatClampNeg + i)) := by
        rw [Array.getD_eq_getD_getElem?, arrV_read _ _ (by omega)]
        rfl
      exact ⟨by rw [e]; rfl, by rw [e]; exact trivial⟩)
    (g := F0 m pc ls (.int n :: .int dp :: .ref (zad G dst) :: .int sp :: .ref (zad G src) :: st.map (zrv G))) rfl (by rw [C.2.2.1]; exact hl.1) (rest := st.map (zrv G)) rfl (by rw [C.2.1]; exact zdg C hi) (by rw [hrm]; show 1 ≤ d + 1; omega) (by
      rw [hrm, zsum_cat]
      show 2 * 0 + (st.map fun v => v.category).sum + (nativeFrameWords "java/lang/System" "arraycopy" 5 + 11) ≤ 64 * (d + 1)
      have : nativeFrameWords "java/lang/System" "arraycopy" 5 ≤ 44 := by decide
      omega)
  have e1 : copied (arrV (gA G 0) (zLen h src) (fun j => .int (zI h src j))) (arrV (gA G 0) (zLen h dst) (fun j => .int (zI h dst j))) sp dp n = arrV (gA G 0) (zLen h dst) (fun j => .int (va_cpy (zI h src) (zI h dst) sp.toNatClampNeg dp.toNatClampNeg n.toNatClampNeg j)) := va_copied (fun z => .int z) (gA G 0) (gA G 0) (zI h src) (zI h dst) g4
  rw [e1] at X' step
  have hlt : zad G dst < H.size := (Array.getElem?_eq_some_iff.mp hc1).1
  have oq : ∀ q : Nat, q ≠ zad G dst → (H.setIfInBounds (zad G dst) (arrV (gA G 0) (zLen h dst) (fun j => .int (va_cpy (zI h src) (zI h dst) sp.toNatClampNeg dp.toNatClampNeg n.toNatClampNeg j))))[q]? = H[q]? := fun q hq => by simp [Array.getElem?_setIfInBounds, Ne.symm hq]
  have hcell : zcell G (zcp h src sp.toNatClampNeg dst dp.toNatClampNeg n.toNatClampNeg) dst = .inl (gA G 0, zLen h dst, .inl (va_cpy (zI h src) (zI h dst) sp.toNatClampNeg dp.toNatClampNeg n.toNatClampNeg)) := by
    rw [zcell_i (show zK (zcp h src sp.toNatClampNeg dst dp.toNatClampNeg n.toNatClampNeg) dst = 100 from o2.2)]
    have : zI (zcp h src sp.toNatClampNeg dst dp.toNatClampNeg n.toNatClampNeg) dst = va_cpy (zI h src) (zI h dst) sp.toNatClampNeg dp.toNatClampNeg n.toNatClampNeg := funext fun j => if_pos rfl
    rw [this]
    rfl
  have hP1 := hR.1.set hD he1 (e := zcell G (zcp h src sp.toNatClampNeg dst dp.toNatClampNeg n.toNatClampNeg) dst) (H1 := H.setIfInBounds (zad G dst) (arrV (gA G 0) (zLen h dst) (fun j => .int (va_cpy (zI h src) (zI h dst) sp.toNatClampNeg dp.toNatClampNeg n.toNatClampNeg j)))) (by
    rw [hcell]
    show (H.setIfInBounds (zad G dst) _)[zad G dst]? = some _
    simp [Array.getElem?_setIfInBounds, hlt]
    rfl) oq
  obtain ⟨t, a1, b1⟩ := k p l e R s m args below meth c C _ _ ls (hR.set (locs1 := _) o2.1 rfl rfl rfl (fun j hj => zcell_cp_ne hj) (by simp) hP1 ⟨by simp; exact hR.2.1.1, fun q g1 g2 => by
      rw [oq q (fun e => g2 (by rw [e]; exact hD.2 dst _ he1))]
      exact hR.2.1.2.1 q g1 g2, fun q hq => by
      rcases List.mem_append.mp hq with h | h
      · exact hR.2.1.2.2 q h
      · obtain ⟨z, -, hz⟩ := List.mem_map.mp h
        rw [← hz]
        exact hD.2 dst _ he1⟩) hl h1 h2 _ (by rw [← hT]; rfl) X'
  exact ⟨t, step t a1, b1⟩
theorem gacX5 : Cond.methodLink "SmellAbbey$State" 71 arraycopyName ∈ ztb ∧ Cond.static arraycopyName ∈ ztb ∧ Cond.native arraycopyName ∈ ztb ∧ Cond.initialized "java/lang/System" ∈ ztb := ⟨ztb_t (zt4 _ (List.mem_of_getElem? (i := 120) rfl)) rfl, ztb_t (zt4 _ (List.mem_of_getElem? (i := 121) rfl)) rfl, ztb_t (zt4 _ (List.mem_of_getElem? (i := 122) rfl)) rfl, ztb_t (zt1 _ (List.mem_of_getElem? (i := 22) rfl)) rfl⟩
theorem gacX9 : Cond.methodLink "SmellAbbey" 243 arraycopyName ∈ ztb ∧ Cond.static arraycopyName ∈ ztb ∧ Cond.native arraycopyName ∈ ztb ∧ Cond.initialized "java/lang/System" ∈ ztb := ⟨ztb_t (zt4 _ (List.mem_of_getElem? (i := 145) rfl)) rfl, ztb_t (zt4 _ (List.mem_of_getElem? (i := 121) rfl)) rfl, ztb_t (zt4 _ (List.mem_of_getElem? (i := 122) rfl)) rfl, ztb_t (zt1 _ (List.mem_of_getElem? (i := 22) rfl)) rfl⟩
end
