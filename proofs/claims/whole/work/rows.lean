section
-- ===== PART A: goes FIRST, ahead of the names: the tables' words, and 'selects' of the private methods out of them =====
/-- a private method of a class that the tables say can be made, by its rows of tables_1 -/
def lw_okq (q : MethodName × Nat) : Prop := (q.1.cls ≠ "java/lang/invoke/MethodHandle" ∧ q.1.cls ≠ "java/lang/invoke/VarHandle") ∧ Cond.instantiable q.1.cls q.2 ∈ tables_1 ∧ Cond.privateMethod q.1 ∈ tables_1 ∧ Cond.instanceMethod q.1 ∈ tables_1
theorem lw_p0 : lw_okq (⟨"ShadeClasses$MapText", "begin", "()V"⟩, 10) := ⟨⟨by decide +kernel, by decide +kernel⟩, List.mem_of_getElem? (i := 83) (by decide +kernel), List.mem_of_getElem? (i := 290) (by decide +kernel), List.mem_of_getElem? (i := 291) (by decide +kernel)⟩
theorem lw_p1 : lw_okq (⟨"ShadeClasses$MapText", "tokenEnd", "(I)I"⟩, 10) := ⟨⟨by decide +kernel, by decide +kernel⟩, List.mem_of_getElem? (i := 83) (by decide +kernel), List.mem_of_getElem? (i := 295) (by decide +kernel), List.mem_of_getElem? (i := 296) (by decide +kernel)⟩
theorem lw_p2 : lw_okq (⟨"ShadeClasses$MapText", "takes", "(II)Z"⟩, 10) := ⟨⟨by decide +kernel, by decide +kernel⟩, List.mem_of_getElem? (i := 83) (by decide +kernel), List.mem_of_getElem? (i := 305) (by decide +kernel), List.mem_of_getElem? (i := 306) (by decide +kernel)⟩
theorem lw_p3 : lw_okq (⟨"ShadeClasses$MapText", "takesLetter", "(I)Z"⟩, 10) := ⟨⟨by decide +kernel, by decide +kernel⟩, List.mem_of_getElem? (i := 83) (by decide +kernel), List.mem_of_getElem? (i := 309) (by decide +kernel), List.mem_of_getElem? (i := 310) (by decide +kernel)⟩
theorem lw_p4 : lw_okq (⟨"ShadeClasses$MapText", "beginsPlace", "()Z"⟩, 10) := ⟨⟨by decide +kernel, by decide +kernel⟩, List.mem_of_getElem? (i := 83) (by decide +kernel), List.mem_of_getElem? (i := 313) (by decide +kernel), List.mem_of_getElem? (i := 314) (by decide +kernel)⟩
theorem lw_p5 : lw_okq (⟨"ShadeClasses$MapText", "beginsClasses", "()Z"⟩, 10) := ⟨⟨by decide +kernel, by decide +kernel⟩, List.mem_of_getElem? (i := 83) (by decide +kernel), List.mem_of_getElem? (i := 317) (by decide +kernel), List.mem_of_getElem? (i := 318) (by decide +kernel)⟩
theorem lw_p6 : lw_okq (⟨"ShadeClasses$MapText", "beginsCost", "()Z"⟩, 10) := ⟨⟨by decide +kernel, by decide +kernel⟩, List.mem_of_getElem? (i := 83) (by decide +kernel), List.mem_of_getElem? (i := 321) (by decide +kernel), List.mem_of_getElem? (i := 322) (by decide +kernel)⟩
theorem lw_p7 : lw_okq (⟨"ShadeClasses$MapText", "numeral", "(II)I"⟩, 10) := ⟨⟨by decide +kernel, by decide +kernel⟩, List.mem_of_getElem? (i := 83) (by decide +kernel), List.mem_of_getElem? (i := 325) (by decide +kernel), List.mem_of_getElem? (i := 326) (by decide +kernel)⟩
theorem lw_p8 : lw_okq (⟨"ShadeClasses$MapText", "takesNumeral", "(I)Z"⟩, 10) := ⟨⟨by decide +kernel, by decide +kernel⟩, List.mem_of_getElem? (i := 83) (by decide +kernel), List.mem_of_getElem? (i := 329) (by decide +kernel), List.mem_of_getElem? (i := 330) (by decide +kernel)⟩
theorem lw_p9 : lw_okq (⟨"ShadeClasses$MapText", "takesRow", "(I)Z"⟩, 10) := ⟨⟨by decide +kernel, by decide +kernel⟩, List.mem_of_getElem? (i := 83) (by decide +kernel), List.mem_of_getElem? (i := 333) (by decide +kernel), List.mem_of_getElem? (i := 334) (by decide +kernel)⟩
theorem lw_p10 : lw_okq (⟨"ShadeClasses$MapText", "takesColumn", "(I)Z"⟩, 10) := ⟨⟨by decide +kernel, by decide +kernel⟩, List.mem_of_getElem? (i := 83) (by decide +kernel), List.mem_of_getElem? (i := 340) (by decide +kernel), List.mem_of_getElem? (i := 341) (by decide +kernel)⟩
theorem lw_p11 : lw_okq (⟨"ShadeClasses$MapText", "takesNumber", "(I)Z"⟩, 10) := ⟨⟨by decide +kernel, by decide +kernel⟩, List.mem_of_getElem? (i := 83) (by decide +kernel), List.mem_of_getElem? (i := 348) (by decide +kernel), List.mem_of_getElem? (i := 349) (by decide +kernel)⟩
theorem lw_p12 : lw_okq (⟨"ShadeClasses$MapText", "takesClasses", "(I)Z"⟩, 10) := ⟨⟨by decide +kernel, by decide +kernel⟩, List.mem_of_getElem? (i := 83) (by decide +kernel), List.mem_of_getElem? (i := 352) (by decide +kernel), List.mem_of_getElem? (i := 353) (by decide +kernel)⟩
theorem lw_p13 : lw_okq (⟨"ShadeClasses$MapText", "takesCost", "(I)Z"⟩, 10) := ⟨⟨by decide +kernel, by decide +kernel⟩, List.mem_of_getElem? (i := 83) (by decide +kernel), List.mem_of_getElem? (i := 359) (by decide +kernel), List.mem_of_getElem? (i := 360) (by decide +kernel)⟩
theorem lw_p14 : lw_okq (⟨"ShadeClasses$MapText", "takesEnd", "()Z"⟩, 10) := ⟨⟨by decide +kernel, by decide +kernel⟩, List.mem_of_getElem? (i := 83) (by decide +kernel), List.mem_of_getElem? (i := 363) (by decide +kernel), List.mem_of_getElem? (i := 364) (by decide +kernel)⟩
theorem lw_p15 : lw_okq (⟨"ShadeClasses", "aheadOfChange", "()V"⟩, 6) := ⟨⟨by decide +kernel, by decide +kernel⟩, List.mem_of_getElem? (i := 15) (by decide +kernel), List.mem_of_getElem? (i := 391) (by decide +kernel), List.mem_of_getElem? (i := 392) (by decide +kernel)⟩
def lw_privs_1 : List (MethodName × Nat) := [(⟨"ShadeClasses$MapText", "begin", "()V"⟩, 10), (⟨"ShadeClasses$MapText", "tokenEnd", "(I)I"⟩, 10), (⟨"ShadeClasses$MapText", "takes", "(II)Z"⟩, 10), (⟨"ShadeClasses$MapText", "takesLetter", "(I)Z"⟩, 10), (⟨"ShadeClasses$MapText", "beginsPlace", "()Z"⟩, 10), (⟨"ShadeClasses$MapText", "beginsClasses", "()Z"⟩, 10), (⟨"ShadeClasses$MapText", "beginsCost", "()Z"⟩, 10), (⟨"ShadeClasses$MapText", "numeral", "(II)I"⟩, 10), (⟨"ShadeClasses$MapText", "takesNumeral", "(I)Z"⟩, 10), (⟨"ShadeClasses$MapText", "takesRow", "(I)Z"⟩, 10), (⟨"ShadeClasses$MapText", "takesColumn", "(I)Z"⟩, 10), (⟨"ShadeClasses$MapText", "takesNumber", "(I)Z"⟩, 10), (⟨"ShadeClasses$MapText", "takesClasses", "(I)Z"⟩, 10), (⟨"ShadeClasses$MapText", "takesCost", "(I)Z"⟩, 10), (⟨"ShadeClasses$MapText", "takesEnd", "()Z"⟩, 10), (⟨"ShadeClasses", "aheadOfChange", "()V"⟩, 6)]
theorem lw_r1 : ∀ q ∈ lw_privs_1, lw_okq q := List.forall_mem_cons.mpr ⟨lw_p0, List.forall_mem_cons.mpr ⟨lw_p1, List.forall_mem_cons.mpr ⟨lw_p2, List.forall_mem_cons.mpr ⟨lw_p3, List.forall_mem_cons.mpr ⟨lw_p4, List.forall_mem_cons.mpr ⟨lw_p5, List.forall_mem_cons.mpr ⟨lw_p6, List.forall_mem_cons.mpr ⟨lw_p7, List.forall_mem_cons.mpr ⟨lw_p8, List.forall_mem_cons.mpr ⟨lw_p9, List.forall_mem_cons.mpr ⟨lw_p10, List.forall_mem_cons.mpr ⟨lw_p11, List.forall_mem_cons.mpr ⟨lw_p12, List.forall_mem_cons.mpr ⟨lw_p13, List.forall_mem_cons.mpr ⟨lw_p14, List.forall_mem_cons.mpr ⟨lw_p15, fun _ h => absurd h List.not_mem_nil⟩⟩⟩⟩⟩⟩⟩⟩⟩⟩⟩⟩⟩⟩⟩⟩
theorem lw_p16 : lw_okq (⟨"ShadeClasses$Ladder", "add", "(I)V"⟩, 4) := ⟨⟨by decide +kernel, by decide +kernel⟩, List.mem_of_getElem? (i := 131) (by decide +kernel), List.mem_of_getElem? (i := 432) (by decide +kernel), List.mem_of_getElem? (i := 433) (by decide +kernel)⟩
theorem lw_p17 : lw_okq (⟨"ShadeClasses$Ladder", "measureFrom", "(I)V"⟩, 4) := ⟨⟨by decide +kernel, by decide +kernel⟩, List.mem_of_getElem? (i := 131) (by decide +kernel), List.mem_of_getElem? (i := 441) (by decide +kernel), List.mem_of_getElem? (i := 442) (by decide +kernel)⟩
theorem lw_p18 : lw_okq (⟨"ShadeClasses$Ways", "choose", "(LShadeClasses$Ladder;II)V"⟩, 3) := ⟨⟨by decide +kernel, by decide +kernel⟩, List.mem_of_getElem? (i := 160) (by decide +kernel), List.mem_of_getElem? (i := 459) (by decide +kernel), List.mem_of_getElem? (i := 460) (by decide +kernel)⟩
theorem lw_p19 : lw_okq (⟨"ShadeClasses", "strangeBorders", "(LShadeClasses$Parting;LShadeClasses$Ladder;)I"⟩, 6) := ⟨⟨by decide +kernel, by decide +kernel⟩, List.mem_of_getElem? (i := 15) (by decide +kernel), List.mem_of_getElem? (i := 470) (by decide +kernel), List.mem_of_getElem? (i := 471) (by decide +kernel)⟩
theorem lw_p20 : lw_okq (⟨"ShadeClasses", "beginning", "(LShadeClasses$Parting;I)I"⟩, 6) := ⟨⟨by decide +kernel, by decide +kernel⟩, List.mem_of_getElem? (i := 15) (by decide +kernel), List.mem_of_getElem? (i := 521) (by decide +kernel), List.mem_of_getElem? (i := 522) (by decide +kernel)⟩
theorem lw_p21 : lw_okq (⟨"ShadeClasses$LastTable", "choose", "(LShadeClasses$Ladder;II)V"⟩, 2) := ⟨⟨by decide +kernel, by decide +kernel⟩, List.mem_of_getElem? (i := 180) (by decide +kernel), List.mem_of_getElem? (i := 568) (by decide +kernel), List.mem_of_getElem? (i := 569) (by decide +kernel)⟩
theorem lw_p22 : lw_okq (⟨"ShadeClassesModel", "skip", "()V"⟩, 28) := ⟨⟨by decide +kernel, by decide +kernel⟩, List.mem_of_getElem? (i := 594) (by decide +kernel), List.mem_of_getElem? (i := 700) (by decide +kernel), List.mem_of_getElem? (i := 701) (by decide +kernel)⟩
theorem lw_p23 : lw_okq (⟨"ShadeClassesModel", "here", "()I"⟩, 28) := ⟨⟨by decide +kernel, by decide +kernel⟩, List.mem_of_getElem? (i := 594) (by decide +kernel), List.mem_of_getElem? (i := 704) (by decide +kernel), List.mem_of_getElem? (i := 705) (by decide +kernel)⟩
theorem lw_p24 : lw_okq (⟨"ShadeClassesModel", "readsItem", "()Z"⟩, 28) := ⟨⟨by decide +kernel, by decide +kernel⟩, List.mem_of_getElem? (i := 594) (by decide +kernel), List.mem_of_getElem? (i := 708) (by decide +kernel), List.mem_of_getElem? (i := 709) (by decide +kernel)⟩
theorem lw_p25 : lw_okq (⟨"ShadeClassesModel", "readsPlace", "()Z"⟩, 28) := ⟨⟨by decide +kernel, by decide +kernel⟩, List.mem_of_getElem? (i := 594) (by decide +kernel), List.mem_of_getElem? (i := 712) (by decide +kernel), List.mem_of_getElem? (i := 713) (by decide +kernel)⟩
theorem lw_p26 : lw_okq (⟨"ShadeClassesModel", "number", "(II)Z"⟩, 28) := ⟨⟨by decide +kernel, by decide +kernel⟩, List.mem_of_getElem? (i := 594) (by decide +kernel), List.mem_of_getElem? (i := 716) (by decide +kernel), List.mem_of_getElem? (i := 717) (by decide +kernel)⟩
theorem lw_p27 : lw_okq (⟨"ShadeClassesModel", "isTold", "(I)Z"⟩, 28) := ⟨⟨by decide +kernel, by decide +kernel⟩, List.mem_of_getElem? (i := 594) (by decide +kernel), List.mem_of_getElem? (i := 720) (by decide +kernel), List.mem_of_getElem? (i := 721) (by decide +kernel)⟩
theorem lw_p28 : lw_okq (⟨"ShadeClassesModel", "ends", "()Z"⟩, 28) := ⟨⟨by decide +kernel, by decide +kernel⟩, List.mem_of_getElem? (i := 594) (by decide +kernel), List.mem_of_getElem? (i := 724) (by decide +kernel), List.mem_of_getElem? (i := 725) (by decide +kernel)⟩
theorem lw_p29 : lw_okq (⟨"ShadeClassesModel", "readsAsked", "()Z"⟩, 28) := ⟨⟨by decide +kernel, by decide +kernel⟩, List.mem_of_getElem? (i := 594) (by decide +kernel), List.mem_of_getElem? (i := 728) (by decide +kernel), List.mem_of_getElem? (i := 729) (by decide +kernel)⟩
theorem lw_p30 : lw_okq (⟨"ShadeClassesModel", "readsCost", "()Z"⟩, 28) := ⟨⟨by decide +kernel, by decide +kernel⟩, List.mem_of_getElem? (i := 594) (by decide +kernel), List.mem_of_getElem? (i := 732) (by decide +kernel), List.mem_of_getElem? (i := 733) (by decide +kernel)⟩
theorem lw_p31 : lw_okq (⟨"ShadeClassesModel", "placeAt", "(I)I"⟩, 28) := ⟨⟨by decide +kernel, by decide +kernel⟩, List.mem_of_getElem? (i := 594) (by decide +kernel), List.mem_of_getElem? (i := 743) (by decide +kernel), List.mem_of_getElem? (i := 744) (by decide +kernel)⟩
def lw_privs_2 : List (MethodName × Nat) := [(⟨"ShadeClasses$Ladder", "add", "(I)V"⟩, 4), (⟨"ShadeClasses$Ladder", "measureFrom", "(I)V"⟩, 4), (⟨"ShadeClasses$Ways", "choose", "(LShadeClasses$Ladder;II)V"⟩, 3), (⟨"ShadeClasses", "strangeBorders", "(LShadeClasses$Parting;LShadeClasses$Ladder;)I"⟩, 6), (⟨"ShadeClasses", "beginning", "(LShadeClasses$Parting;I)I"⟩, 6), (⟨"ShadeClasses$LastTable", "choose", "(LShadeClasses$Ladder;II)V"⟩, 2), (⟨"ShadeClassesModel", "skip", "()V"⟩, 28), (⟨"ShadeClassesModel", "here", "()I"⟩, 28), (⟨"ShadeClassesModel", "readsItem", "()Z"⟩, 28), (⟨"ShadeClassesModel", "readsPlace", "()Z"⟩, 28), (⟨"ShadeClassesModel", "number", "(II)Z"⟩, 28), (⟨"ShadeClassesModel", "isTold", "(I)Z"⟩, 28), (⟨"ShadeClassesModel", "ends", "()Z"⟩, 28), (⟨"ShadeClassesModel", "readsAsked", "()Z"⟩, 28), (⟨"ShadeClassesModel", "readsCost", "()Z"⟩, 28), (⟨"ShadeClassesModel", "placeAt", "(I)I"⟩, 28)]
theorem lw_r2 : ∀ q ∈ lw_privs_2, lw_okq q := List.forall_mem_cons.mpr ⟨lw_p16, List.forall_mem_cons.mpr ⟨lw_p17, List.forall_mem_cons.mpr ⟨lw_p18, List.forall_mem_cons.mpr ⟨lw_p19, List.forall_mem_cons.mpr ⟨lw_p20, List.forall_mem_cons.mpr ⟨lw_p21, List.forall_mem_cons.mpr ⟨lw_p22, List.forall_mem_cons.mpr ⟨lw_p23, List.forall_mem_cons.mpr ⟨lw_p24, List.forall_mem_cons.mpr ⟨lw_p25, List.forall_mem_cons.mpr ⟨lw_p26, List.forall_mem_cons.mpr ⟨lw_p27, List.forall_mem_cons.mpr ⟨lw_p28, List.forall_mem_cons.mpr ⟨lw_p29, List.forall_mem_cons.mpr ⟨lw_p30, List.forall_mem_cons.mpr ⟨lw_p31, fun _ h => absurd h List.not_mem_nil⟩⟩⟩⟩⟩⟩⟩⟩⟩⟩⟩⟩⟩⟩⟩⟩
theorem lw_p32 : lw_okq (⟨"ShadeClassesModel", "notes", "()V"⟩, 28) := ⟨⟨by decide +kernel, by decide +kernel⟩, List.mem_of_getElem? (i := 594) (by decide +kernel), List.mem_of_getElem? (i := 747) (by decide +kernel), List.mem_of_getElem? (i := 748) (by decide +kernel)⟩
theorem lw_p33 : lw_okq (⟨"ShadeClassesModel", "writes", "([II)V"⟩, 28) := ⟨⟨by decide +kernel, by decide +kernel⟩, List.mem_of_getElem? (i := 594) (by decide +kernel), List.mem_of_getElem? (i := 751) (by decide +kernel), List.mem_of_getElem? (i := 752) (by decide +kernel)⟩
theorem lw_p34 : lw_okq (⟨"ShadeClassesModel", "readsBack", "([II)V"⟩, 28) := ⟨⟨by decide +kernel, by decide +kernel⟩, List.mem_of_getElem? (i := 594) (by decide +kernel), List.mem_of_getElem? (i := 771) (by decide +kernel), List.mem_of_getElem? (i := 772) (by decide +kernel)⟩
theorem lw_p35 : lw_okq (⟨"ShadeClassesModel", "partsNow", "()V"⟩, 28) := ⟨⟨by decide +kernel, by decide +kernel⟩, List.mem_of_getElem? (i := 594) (by decide +kernel), List.mem_of_getElem? (i := 779) (by decide +kernel), List.mem_of_getElem? (i := 780) (by decide +kernel)⟩
theorem lw_p36 : lw_okq (⟨"ShadeClassesModel", "parts", "(IZ)V"⟩, 28) := ⟨⟨by decide +kernel, by decide +kernel⟩, List.mem_of_getElem? (i := 594) (by decide +kernel), List.mem_of_getElem? (i := 783) (by decide +kernel), List.mem_of_getElem? (i := 784) (by decide +kernel)⟩
theorem lw_p37 : lw_okq (⟨"ShadeClassesModel", "setSorted", "()V"⟩, 28) := ⟨⟨by decide +kernel, by decide +kernel⟩, List.mem_of_getElem? (i := 594) (by decide +kernel), List.mem_of_getElem? (i := 787) (by decide +kernel), List.mem_of_getElem? (i := 788) (by decide +kernel)⟩
theorem lw_p38 : lw_okq (⟨"ShadeClassesModel", "setFrom", "(IIZ)V"⟩, 28) := ⟨⟨by decide +kernel, by decide +kernel⟩, List.mem_of_getElem? (i := 594) (by decide +kernel), List.mem_of_getElem? (i := 791) (by decide +kernel), List.mem_of_getElem? (i := 792) (by decide +kernel)⟩
theorem lw_p39 : lw_okq (⟨"ShadeClassesModel", "spreadOf", "(II)J"⟩, 28) := ⟨⟨by decide +kernel, by decide +kernel⟩, List.mem_of_getElem? (i := 594) (by decide +kernel), List.mem_of_getElem? (i := 796) (by decide +kernel), List.mem_of_getElem? (i := 797) (by decide +kernel)⟩
theorem lw_p40 : lw_okq (⟨"ShadeClassesModel", "borderAt", "(IZ)J"⟩, 28) := ⟨⟨by decide +kernel, by decide +kernel⟩, List.mem_of_getElem? (i := 594) (by decide +kernel), List.mem_of_getElem? (i := 801) (by decide +kernel), List.mem_of_getElem? (i := 802) (by decide +kernel)⟩
theorem lw_p41 : lw_okq (⟨"ShadeClassesModel", "isOld", "(I)Z"⟩, 28) := ⟨⟨by decide +kernel, by decide +kernel⟩, List.mem_of_getElem? (i := 594) (by decide +kernel), List.mem_of_getElem? (i := 805) (by decide +kernel), List.mem_of_getElem? (i := 806) (by decide +kernel)⟩
theorem lw_p42 : lw_okq (⟨"ShadeClassesModel", "movedMany", "()I"⟩, 28) := ⟨⟨by decide +kernel, by decide +kernel⟩, List.mem_of_getElem? (i := 594) (by decide +kernel), List.mem_of_getElem? (i := 809) (by decide +kernel), List.mem_of_getElem? (i := 810) (by decide +kernel)⟩
theorem lw_p43 : lw_okq (⟨"ShadeClassesModel", "runOf", "(I)I"⟩, 28) := ⟨⟨by decide +kernel, by decide +kernel⟩, List.mem_of_getElem? (i := 594) (by decide +kernel), List.mem_of_getElem? (i := 821) (by decide +kernel), List.mem_of_getElem? (i := 822) (by decide +kernel)⟩
theorem lw_p44 : lw_okq (⟨"ShadeClassesModel", "beginOf", "(I)I"⟩, 28) := ⟨⟨by decide +kernel, by decide +kernel⟩, List.mem_of_getElem? (i := 594) (by decide +kernel), List.mem_of_getElem? (i := 833) (by decide +kernel), List.mem_of_getElem? (i := 834) (by decide +kernel)⟩
theorem lw_p45 : lw_okq (⟨"ShadeClassesModel", "spreadOfRuns", "()J"⟩, 28) := ⟨⟨by decide +kernel, by decide +kernel⟩, List.mem_of_getElem? (i := 594) (by decide +kernel), List.mem_of_getElem? (i := 842) (by decide +kernel), List.mem_of_getElem? (i := 843) (by decide +kernel)⟩
theorem lw_p46 : lw_okq (⟨"ShadeClassesModel", "spreadIn", "(I)J"⟩, 28) := ⟨⟨by decide +kernel, by decide +kernel⟩, List.mem_of_getElem? (i := 594) (by decide +kernel), List.mem_of_getElem? (i := 857) (by decide +kernel), List.mem_of_getElem? (i := 858) (by decide +kernel)⟩
theorem lw_p47 : lw_okq (⟨"ShadeClassesModel", "setEnding", "(II)V"⟩, 28) := ⟨⟨by decide +kernel, by decide +kernel⟩, List.mem_of_getElem? (i := 594) (by decide +kernel), List.mem_of_getElem? (i := 865) (by decide +kernel), List.mem_of_getElem? (i := 866) (by decide +kernel)⟩
def lw_privs_3 : List (MethodName × Nat) := [(⟨"ShadeClassesModel", "notes", "()V"⟩, 28), (⟨"ShadeClassesModel", "writes", "([II)V"⟩, 28), (⟨"ShadeClassesModel", "readsBack", "([II)V"⟩, 28), (⟨"ShadeClassesModel", "partsNow", "()V"⟩, 28), (⟨"ShadeClassesModel", "parts", "(IZ)V"⟩, 28), (⟨"ShadeClassesModel", "setSorted", "()V"⟩, 28), (⟨"ShadeClassesModel", "setFrom", "(IIZ)V"⟩, 28), (⟨"ShadeClassesModel", "spreadOf", "(II)J"⟩, 28), (⟨"ShadeClassesModel", "borderAt", "(IZ)J"⟩, 28), (⟨"ShadeClassesModel", "isOld", "(I)Z"⟩, 28), (⟨"ShadeClassesModel", "movedMany", "()I"⟩, 28), (⟨"ShadeClassesModel", "runOf", "(I)I"⟩, 28), (⟨"ShadeClassesModel", "beginOf", "(I)I"⟩, 28), (⟨"ShadeClassesModel", "spreadOfRuns", "()J"⟩, 28), (⟨"ShadeClassesModel", "spreadIn", "(I)J"⟩, 28), (⟨"ShadeClassesModel", "setEnding", "(II)V"⟩, 28)]
theorem lw_r3 : ∀ q ∈ lw_privs_3, lw_okq q := List.forall_mem_cons.mpr ⟨lw_p32, List.forall_mem_cons.mpr ⟨lw_p33, List.forall_mem_cons.mpr ⟨lw_p34, List.forall_mem_cons.mpr ⟨lw_p35, List.forall_mem_cons.mpr ⟨lw_p36, List.forall_mem_cons.mpr ⟨lw_p37, List.forall_mem_cons.mpr ⟨lw_p38, List.forall_mem_cons.mpr ⟨lw_p39, List.forall_mem_cons.mpr ⟨lw_p40, List.forall_mem_cons.mpr ⟨lw_p41, List.forall_mem_cons.mpr ⟨lw_p42, List.forall_mem_cons.mpr ⟨lw_p43, List.forall_mem_cons.mpr ⟨lw_p44, List.forall_mem_cons.mpr ⟨lw_p45, List.forall_mem_cons.mpr ⟨lw_p46, List.forall_mem_cons.mpr ⟨lw_p47, fun _ h => absurd h List.not_mem_nil⟩⟩⟩⟩⟩⟩⟩⟩⟩⟩⟩⟩⟩⟩⟩⟩
theorem lw_p48 : lw_okq (⟨"ShadeClassesModel", "sum", "()I"⟩, 28) := ⟨⟨by decide +kernel, by decide +kernel⟩, List.mem_of_getElem? (i := 594) (by decide +kernel), List.mem_of_getElem? (i := 889) (by decide +kernel), List.mem_of_getElem? (i := 890) (by decide +kernel)⟩
def lw_privs_4 : List (MethodName × Nat) := [(⟨"ShadeClassesModel", "sum", "()I"⟩, 28)]
theorem lw_r4 : ∀ q ∈ lw_privs_4, lw_okq q := List.forall_mem_cons.mpr ⟨lw_p48, fun _ h => absurd h List.not_mem_nil⟩
def lw_privs : List (MethodName × Nat) := lw_privs_1 ++ (lw_privs_2 ++ (lw_privs_3 ++ (lw_privs_4)))
def lw_tbl : List Cond := k2_sels lw_privs ++ tables_1
theorem lw_privs_ok : ∀ q ∈ lw_privs, lw_okq q := by
  show ∀ q ∈ lw_privs_1 ++ (lw_privs_2 ++ (lw_privs_3 ++ (lw_privs_4))), lw_okq q
  exact List.forall_mem_append.mpr ⟨lw_r1, List.forall_mem_append.mpr ⟨lw_r2, List.forall_mem_append.mpr ⟨lw_r3, lw_r4⟩⟩⟩
/-- the streams that the claim lets the run draw from -/
abbrev lw_cs : List Choice := [Jvm.Choice.named "NaN.bits"]
theorem lw_bits : nanBits ∈ lw_cs := by first | decide | exact List.mem_cons_self | simp [lw_cs, nanBits]
end
section
def RX0 : String := "ShadeClasses$Chart"
def TX0 : u_T := fun k => match k with
  | 0 => ("ShadeClasses$Chart", "numbers", "[I", true)
  | 1 => ("ShadeClasses$Chart", "old", "[I", true)
  | 2 => ("ShadeClasses$Chart", "olds", "I", false)
  | 3 => ("ShadeClasses$Chart", "classes", "I", false)
  | _ => ("ShadeClasses$Chart", "cost", "I", false)
def tyX0 : Nat → FieldType := fun k => match k with
  | 0 => .array .int
  | 1 => .array .int
  | 2 => .int
  | 3 => .int
  | _ => .int
theorem nmX0 : ∀ a, a < 5 → ∀ b, b < 5 → a ≠ b → (TX0 a).2.1 ≠ (TX0 b).2.1 := by decide +kernel
theorem tyX0_ok : ∀ k, k < 5 → parseFieldDescriptor (TX0 k).2.2.1 = some (tyX0 k) := by decide +kernel
abbrev cX0_init : ByteArray := prog_2_method_1_code
def yX0_init : MethodName := ⟨RX0, "<init>", "()V"⟩
abbrev cX0_empty : ByteArray := prog_2_method_2_code
def yX0_empty : MethodName := ⟨RX0, "empty", "()V"⟩
abbrev cX0_become : ByteArray := prog_2_method_3_code
def yX0_become : MethodName := ⟨RX0, "become", "(LShadeClasses$Chart;)V"⟩
abbrev cX0_places : ByteArray := prog_2_method_4_code
def yX0_places : MethodName := ⟨RX0, "places", "()I"⟩
abbrev cX0_sum : ByteArray := prog_2_method_5_code
def yX0_sum : MethodName := ⟨RX0, "sum", "()I"⟩
abbrev cX0_isOld : ByteArray := prog_2_method_6_code
def yX0_isOld : MethodName := ⟨RX0, "isOld", "(I)Z"⟩
abbrev cX0_feeOf : ByteArray := prog_2_method_7_code
def yX0_feeOf : MethodName := ⟨RX0, "feeOf", "(I)J"⟩
def RX1 : String := "ShadeClasses$History"
def TX1 : u_T := fun k => match k with
  | 0 => ("ShadeClasses$History", "charts", "[LShadeClasses$Chart;", true)
  | 1 => ("ShadeClasses$History", "next", "I", false)
  | _ => ("ShadeClasses$History", "known", "I", false)
def tyX1 : Nat → FieldType := fun k => match k with
  | 0 => .array (.object "ShadeClasses$Chart")
  | 1 => .int
  | _ => .int
theorem nmX1 : ∀ a, a < 3 → ∀ b, b < 3 → a ≠ b → (TX1 a).2.1 ≠ (TX1 b).2.1 := by decide +kernel
theorem tyX1_ok : ∀ k, k < 3 → parseFieldDescriptor (TX1 k).2.2.1 = some (tyX1 k) := by decide +kernel
abbrev cX1_init : ByteArray := prog_3_method_1_code
def yX1_init : MethodName := ⟨RX1, "<init>", "()V"⟩
abbrev cX1_remember : ByteArray := prog_3_method_2_code
def yX1_remember : MethodName := ⟨RX1, "remember", "(LShadeClasses$Chart;)V"⟩
abbrev cX1_recall : ByteArray := prog_3_method_3_code
def yX1_recall : MethodName := ⟨RX1, "recall", "(LShadeClasses$Chart;)V"⟩
abbrev cX1_forget : ByteArray := prog_3_method_4_code
def yX1_forget : MethodName := ⟨RX1, "forget", "()V"⟩
def RX2 : String := "ShadeClasses$Ladder"
def TX2 : u_T := fun k => match k with
  | 0 => ("ShadeClasses$Ladder", "numbers", "[I", true)
  | 1 => ("ShadeClasses$Ladder", "weights", "[I", true)
  | 2 => ("ShadeClasses$Ladder", "spreads", "[[J", true)
  | _ => ("ShadeClasses$Ladder", "size", "I", false)
def tyX2 : Nat → FieldType := fun k => match k with
  | 0 => .array .int
  | 1 => .array .int
  | 2 => .array (.array .long)
  | _ => .int
theorem nmX2 : ∀ a, a < 4 → ∀ b, b < 4 → a ≠ b → (TX2 a).2.1 ≠ (TX2 b).2.1 := by decide +kernel
theorem tyX2_ok : ∀ k, k < 4 → parseFieldDescriptor (TX2 k).2.2.1 = some (tyX2 k) := by decide +kernel
abbrev cX2_init : ByteArray := prog_4_method_1_code
def yX2_init : MethodName := ⟨RX2, "<init>", "()V"⟩
abbrev cX2_build : ByteArray := prog_4_method_2_code
def yX2_build : MethodName := ⟨RX2, "build", "(LShadeClasses$Chart;)V"⟩
abbrev cX2_add : ByteArray := prog_4_method_3_code
def yX2_add : MethodName := ⟨RX2, "add", "(I)V"⟩
abbrev cX2_measureFrom : ByteArray := prog_4_method_4_code
def yX2_measureFrom : MethodName := ⟨RX2, "measureFrom", "(I)V"⟩
abbrev cX2_rankOf : ByteArray := prog_4_method_5_code
def yX2_rankOf : MethodName := ⟨RX2, "rankOf", "(I)I"⟩
abbrev cX2_numberAt : ByteArray := prog_4_method_6_code
def yX2_numberAt : MethodName := ⟨RX2, "numberAt", "(I)I"⟩
abbrev cX2_weightAt : ByteArray := prog_4_method_7_code
def yX2_weightAt : MethodName := ⟨RX2, "weightAt", "(I)I"⟩
def RX3 : String := "ShadeClasses$LastTable"
def TX3 : u_T := fun k => match k with
  | 0 => ("ShadeClasses$LastTable", "best", "[[J", true)
  | _ => ("ShadeClasses$LastTable", "begins", "[[I", true)
def tyX3 : Nat → FieldType := fun k => match k with
  | 0 => .array (.array .long)
  | _ => .array (.array .int)
theorem nmX3 : ∀ a, a < 2 → ∀ b, b < 2 → a ≠ b → (TX3 a).2.1 ≠ (TX3 b).2.1 := by decide +kernel
theorem tyX3_ok : ∀ k, k < 2 → parseFieldDescriptor (TX3 k).2.2.1 = some (tyX3 k) := by decide +kernel
abbrev cX3_init : ByteArray := prog_5_method_1_code
def yX3_init : MethodName := ⟨RX3, "<init>", "()V"⟩
abbrev cX3_build : ByteArray := prog_5_method_2_code
def yX3_build : MethodName := ⟨RX3, "build", "(LShadeClasses$Ladder;)V"⟩
abbrev cX3_choose : ByteArray := prog_5_method_3_code
def yX3_choose : MethodName := ⟨RX3, "choose", "(LShadeClasses$Ladder;II)V"⟩
def RX4 : String := "ShadeClasses$MapText"
def TX4 : u_T := fun k => match k with
  | 0 => ("ShadeClasses$MapText", "bytes", "[I", true)
  | 1 => ("ShadeClasses$MapText", "chart", "LShadeClasses$Chart;", true)
  | 2 => ("ShadeClasses$MapText", "length", "I", false)
  | 3 => ("ShadeClasses$MapText", "awaited", "I", false)
  | 4 => ("ShadeClasses$MapText", "items", "I", false)
  | 5 => ("ShadeClasses$MapText", "placesBegun", "I", false)
  | 6 => ("ShadeClasses$MapText", "classesBegun", "Z", false)
  | 7 => ("ShadeClasses$MapText", "costBegun", "Z", false)
  | 8 => ("ShadeClasses$MapText", "row", "I", false)
  | _ => ("ShadeClasses$MapText", "cell", "I", false)
def tyX4 : Nat → FieldType := fun k => match k with
  | 0 => .array .int
  | 1 => .object "ShadeClasses$Chart"
  | 2 => .int
  | 3 => .int
  | 4 => .int
  | 5 => .int
  | 6 => .boolean
  | 7 => .boolean
  | 8 => .int
  | _ => .int
theorem nmX4 : ∀ a, a < 10 → ∀ b, b < 10 → a ≠ b → (TX4 a).2.1 ≠ (TX4 b).2.1 := by decide +kernel
theorem tyX4_ok : ∀ k, k < 10 → parseFieldDescriptor (TX4 k).2.2.1 = some (tyX4 k) := by decide +kernel
abbrev cX4_init : ByteArray := prog_6_method_1_code
def yX4_init : MethodName := ⟨RX4, "<init>", "()V"⟩
abbrev cX4_append : ByteArray := prog_6_method_2_code
def yX4_append : MethodName := ⟨RX4, "append", "(I)Z"⟩
abbrev cX4_read : ByteArray := prog_6_method_3_code
def yX4_read : MethodName := ⟨RX4, "read", "()I"⟩
abbrev cX4_begin : ByteArray := prog_6_method_4_code
def yX4_begin : MethodName := ⟨RX4, "begin", "()V"⟩
abbrev cX4_tokenEnd : ByteArray := prog_6_method_5_code
def yX4_tokenEnd : MethodName := ⟨RX4, "tokenEnd", "(I)I"⟩
abbrev cX4_takes : ByteArray := prog_6_method_6_code
def yX4_takes : MethodName := ⟨RX4, "takes", "(II)Z"⟩
abbrev cX4_takesLetter : ByteArray := prog_6_method_7_code
def yX4_takesLetter : MethodName := ⟨RX4, "takesLetter", "(I)Z"⟩
abbrev cX4_beginsPlace : ByteArray := prog_6_method_8_code
def yX4_beginsPlace : MethodName := ⟨RX4, "beginsPlace", "()Z"⟩
abbrev cX4_beginsClasses : ByteArray := prog_6_method_9_code
def yX4_beginsClasses : MethodName := ⟨RX4, "beginsClasses", "()Z"⟩
abbrev cX4_beginsCost : ByteArray := prog_6_method_10_code
def yX4_beginsCost : MethodName := ⟨RX4, "beginsCost", "()Z"⟩
abbrev cX4_numeral : ByteArray := prog_6_method_11_code
def yX4_numeral : MethodName := ⟨RX4, "numeral", "(II)I"⟩
abbrev cX4_takesNumeral : ByteArray := prog_6_method_12_code
def yX4_takesNumeral : MethodName := ⟨RX4, "takesNumeral", "(I)Z"⟩
abbrev cX4_takesRow : ByteArray := prog_6_method_13_code
def yX4_takesRow : MethodName := ⟨RX4, "takesRow", "(I)Z"⟩
abbrev cX4_takesColumn : ByteArray := prog_6_method_14_code
def yX4_takesColumn : MethodName := ⟨RX4, "takesColumn", "(I)Z"⟩
abbrev cX4_takesNumber : ByteArray := prog_6_method_15_code
def yX4_takesNumber : MethodName := ⟨RX4, "takesNumber", "(I)Z"⟩
abbrev cX4_takesClasses : ByteArray := prog_6_method_16_code
def yX4_takesClasses : MethodName := ⟨RX4, "takesClasses", "(I)Z"⟩
abbrev cX4_takesCost : ByteArray := prog_6_method_17_code
def yX4_takesCost : MethodName := ⟨RX4, "takesCost", "(I)Z"⟩
abbrev cX4_takesEnd : ByteArray := prog_6_method_18_code
def yX4_takesEnd : MethodName := ⟨RX4, "takesEnd", "()Z"⟩
abbrev cX4_isLetter : ByteArray := prog_6_method_19_code
def yX4_isLetter : MethodName := ⟨RX4, "isLetter", "(I)Z"⟩
abbrev cX4_isDigit : ByteArray := prog_6_method_20_code
def yX4_isDigit : MethodName := ⟨RX4, "isDigit", "(I)Z"⟩
def RX5 : String := "ShadeClasses$Parting"
def TX5 : u_T := fun k => match k with
  | 0 => ("ShadeClasses$Parting", "begins", "[I", true)
  | 1 => ("ShadeClasses$Parting", "runs", "I", false)
  | _ => ("ShadeClasses$Parting", "spread", "J", false)
def tyX5 : Nat → FieldType := fun k => match k with
  | 0 => .array .int
  | 1 => .int
  | _ => .long
theorem nmX5 : ∀ a, a < 3 → ∀ b, b < 3 → a ≠ b → (TX5 a).2.1 ≠ (TX5 b).2.1 := by decide +kernel
theorem tyX5_ok : ∀ k, k < 3 → parseFieldDescriptor (TX5 k).2.2.1 = some (tyX5 k) := by decide +kernel
abbrev cX5_init : ByteArray := prog_7_method_1_code
def yX5_init : MethodName := ⟨RX5, "<init>", "()V"⟩
abbrev cX5_beginOf : ByteArray := prog_7_method_2_code
def yX5_beginOf : MethodName := ⟨RX5, "beginOf", "(I)I"⟩
abbrev cX5_runOf : ByteArray := prog_7_method_3_code
def yX5_runOf : MethodName := ⟨RX5, "runOf", "(I)I"⟩
def RX6 : String := "ShadeClasses$Partings"
def TX6 : u_T := fun k => match k with
  | 0 => ("ShadeClasses$Partings", "chart", "LShadeClasses$Chart;", true)
  | 1 => ("ShadeClasses$Partings", "ladder", "LShadeClasses$Ladder;", true)
  | 2 => ("ShadeClasses$Partings", "dearWays", "LShadeClasses$Ways;", true)
  | 3 => ("ShadeClasses$Partings", "freeWays", "LShadeClasses$Ways;", true)
  | 4 => ("ShadeClasses$Partings", "table", "LShadeClasses$LastTable;", true)
  | 5 => ("ShadeClasses$Partings", "current", "LShadeClasses$Parting;", true)
  | 6 => ("ShadeClasses$Partings", "leasts", "[LShadeClasses$Parting;", true)
  | 7 => ("ShadeClasses$Partings", "ladderStands", "Z", false)
  | 8 => ("ShadeClasses$Partings", "currentStands", "Z", false)
  | 9 => ("ShadeClasses$Partings", "leastsStand", "Z", false)
  | _ => ("ShadeClasses$Partings", "tableStands", "Z", false)
def tyX6 : Nat → FieldType := fun k => match k with
  | 0 => .object "ShadeClasses$Chart"
  | 1 => .object "ShadeClasses$Ladder"
  | 2 => .object "ShadeClasses$Ways"
  | 3 => .object "ShadeClasses$Ways"
  | 4 => .object "ShadeClasses$LastTable"
  | 5 => .object "ShadeClasses$Parting"
  | 6 => .array (.object "ShadeClasses$Parting")
  | 7 => .boolean
  | 8 => .boolean
  | 9 => .boolean
  | _ => .boolean
theorem nmX6 : ∀ a, a < 11 → ∀ b, b < 11 → a ≠ b → (TX6 a).2.1 ≠ (TX6 b).2.1 := by decide +kernel
theorem tyX6_ok : ∀ k, k < 11 → parseFieldDescriptor (TX6 k).2.2.1 = some (tyX6 k) := by decide +kernel
abbrev cX6_init : ByteArray := prog_8_method_1_code
def yX6_init : MethodName := ⟨RX6, "<init>", "(LShadeClasses$Chart;)V"⟩
abbrev cX6_forget : ByteArray := prog_8_method_2_code
def yX6_forget : MethodName := ⟨RX6, "forget", "()V"⟩
abbrev cX6_rungs : ByteArray := prog_8_method_3_code
def yX6_rungs : MethodName := ⟨RX6, "rungs", "()LShadeClasses$Ladder;"⟩
abbrev cX6_ofNow : ByteArray := prog_8_method_4_code
def yX6_ofNow : MethodName := ⟨RX6, "ofNow", "()LShadeClasses$Parting;"⟩
abbrev cX6_leastIn : ByteArray := prog_8_method_5_code
def yX6_leastIn : MethodName := ⟨RX6, "leastIn", "(I)LShadeClasses$Parting;"⟩
abbrev cX6_lastBegin : ByteArray := prog_8_method_6_code
def yX6_lastBegin : MethodName := ⟨RX6, "lastBegin", "(II)I"⟩
def RX7 : String := "ShadeClasses$Ways"
def TX7 : u_T := fun k => match k with
  | 0 => ("ShadeClasses$Ways", "best", "[[J", true)
  | 1 => ("ShadeClasses$Ways", "second", "[[I", true)
  | _ => ("ShadeClasses$Ways", "fees", "[J", true)
def tyX7 : Nat → FieldType := fun k => match k with
  | 0 => .array (.array .long)
  | 1 => .array (.array .int)
  | _ => .array .long
theorem nmX7 : ∀ a, a < 3 → ∀ b, b < 3 → a ≠ b → (TX7 a).2.1 ≠ (TX7 b).2.1 := by decide +kernel
theorem tyX7_ok : ∀ k, k < 3 → parseFieldDescriptor (TX7 k).2.2.1 = some (tyX7 k) := by decide +kernel
abbrev cX7_init : ByteArray := prog_9_method_1_code
def yX7_init : MethodName := ⟨RX7, "<init>", "()V"⟩
abbrev cX7_build : ByteArray := prog_9_method_2_code
def yX7_build : MethodName := ⟨RX7, "build", "(LShadeClasses$Ladder;I)V"⟩
abbrev cX7_choose : ByteArray := prog_9_method_3_code
def yX7_choose : MethodName := ⟨RX7, "choose", "(LShadeClasses$Ladder;II)V"⟩
abbrev cX7_follow : ByteArray := prog_9_method_4_code
def yX7_follow : MethodName := ⟨RX7, "follow", "(LShadeClasses$Ladder;ILShadeClasses$Parting;)V"⟩
def RX8 : String := "ShadeClasses"
def TX8 : u_T := fun k => match k with
  | 0 => ("ShadeClasses", "chart", "LShadeClasses$Chart;", true)
  | 1 => ("ShadeClasses", "history", "LShadeClasses$History;", true)
  | 2 => ("ShadeClasses", "images", "[LShadeClasses$Chart;", true)
  | 3 => ("ShadeClasses", "kept", "[Z", true)
  | 4 => ("ShadeClasses", "text", "LShadeClasses$MapText;", true)
  | _ => ("ShadeClasses", "partings", "LShadeClasses$Partings;", true)
def tyX8 : Nat → FieldType := fun k => match k with
  | 0 => .object "ShadeClasses$Chart"
  | 1 => .object "ShadeClasses$History"
  | 2 => .array (.object "ShadeClasses$Chart")
  | 3 => .array .boolean
  | 4 => .object "ShadeClasses$MapText"
  | _ => .object "ShadeClasses$Partings"
theorem nmX8 : ∀ a, a < 6 → ∀ b, b < 6 → a ≠ b → (TX8 a).2.1 ≠ (TX8 b).2.1 := by decide +kernel
theorem tyX8_ok : ∀ k, k < 6 → parseFieldDescriptor (TX8 k).2.2.1 = some (tyX8 k) := by decide +kernel
abbrev cX8_init : ByteArray := prog_1_method_1_code
def yX8_init : MethodName := ⟨RX8, "<init>", "()V"⟩
abbrev cX8_type : ByteArray := prog_1_method_2_code
def yX8_type : MethodName := ⟨RX8, "type", "(I)I"⟩
abbrev cX8_clear : ByteArray := prog_1_method_3_code
def yX8_clear : MethodName := ⟨RX8, "clear", "()I"⟩
abbrev cX8_map : ByteArray := prog_1_method_4_code
def yX8_map : MethodName := ⟨RX8, "map", "()I"⟩
abbrev cX8_puts : ByteArray := prog_1_method_5_code
def yX8_puts : MethodName := ⟨RX8, "puts", "(III)I"⟩
abbrev cX8_drops : ByteArray := prog_1_method_6_code
def yX8_drops : MethodName := ⟨RX8, "drops", "(II)I"⟩
abbrev cX8_asks : ByteArray := prog_1_method_7_code
def yX8_asks : MethodName := ⟨RX8, "asks", "(I)I"⟩
abbrev cX8_costs : ByteArray := prog_1_method_8_code
def yX8_costs : MethodName := ⟨RX8, "costs", "(I)I"⟩
abbrev cX8_closes : ByteArray := prog_1_method_9_code
def yX8_closes : MethodName := ⟨RX8, "closes", "()I"⟩
abbrev cX8_undo : ByteArray := prog_1_method_10_code
def yX8_undo : MethodName := ⟨RX8, "undo", "()I"⟩
abbrev cX8_place : ByteArray := prog_1_method_11_code
def yX8_place : MethodName := ⟨RX8, "place", "(III)I"⟩
abbrev cX8_sorted : ByteArray := prog_1_method_12_code
def yX8_sorted : MethodName := ⟨RX8, "sorted", "(II)I"⟩
abbrev cX8_now : ByteArray := prog_1_method_13_code
def yX8_now : MethodName := ⟨RX8, "now", "(I)I"⟩
abbrev cX8_spread : ByteArray := prog_1_method_14_code
def yX8_spread : MethodName := ⟨RX8, "spread", "(I)J"⟩
abbrev cX8_moved : ByteArray := prog_1_method_15_code
def yX8_moved : MethodName := ⟨RX8, "moved", "()I"⟩
abbrev cX8_least : ByteArray := prog_1_method_16_code
def yX8_least : MethodName := ⟨RX8, "least", "(II)I"⟩
abbrev cX8_gain : ByteArray := prog_1_method_17_code
def yX8_gain : MethodName := ⟨RX8, "gain", "(II)J"⟩
abbrev cX8_last : ByteArray := prog_1_method_18_code
def yX8_last : MethodName := ⟨RX8, "last", "(II)I"⟩
abbrev cX8_enough : ByteArray := prog_1_method_19_code
def yX8_enough : MethodName := ⟨RX8, "enough", "(I)I"⟩
abbrev cX8_keep : ByteArray := prog_1_method_20_code
def yX8_keep : MethodName := ⟨RX8, "keep", "(I)I"⟩
abbrev cX8_back : ByteArray := prog_1_method_21_code
def yX8_back : MethodName := ⟨RX8, "back", "(I)I"⟩
abbrev cX8_count : ByteArray := prog_1_method_22_code
def yX8_count : MethodName := ⟨RX8, "count", "(I)I"⟩
abbrev cX8_aheadOfChange : ByteArray := prog_1_method_23_code
def yX8_aheadOfChange : MethodName := ⟨RX8, "aheadOfChange", "()V"⟩
abbrev cX8_beginning : ByteArray := prog_1_method_24_code
def yX8_beginning : MethodName := ⟨RX8, "beginning", "(LShadeClasses$Parting;I)I"⟩
abbrev cX8_strangeBorders : ByteArray := prog_1_method_25_code
def yX8_strangeBorders : MethodName := ⟨RX8, "strangeBorders", "(LShadeClasses$Parting;LShadeClasses$Ladder;)I"⟩
abbrev cX8_isClasses : ByteArray := prog_1_method_26_code
def yX8_isClasses : MethodName := ⟨RX8, "isClasses", "(I)Z"⟩
abbrev cX8_isSide : ByteArray := prog_1_method_27_code
def yX8_isSide : MethodName := ⟨RX8, "isSide", "(I)Z"⟩
abbrev cX8_cellOf : ByteArray := prog_1_method_28_code
def yX8_cellOf : MethodName := ⟨RX8, "cellOf", "(II)I"⟩
abbrev cX8_tintOf : ByteArray := prog_1_method_29_code
def yX8_tintOf : MethodName := ⟨RX8, "tintOf", "(II)I"⟩
abbrev cX8_inLeastTerms : ByteArray := prog_1_method_30_code
def yX8_inLeastTerms : MethodName := ⟨RX8, "inLeastTerms", "(JZ)J"⟩
abbrev cX8_commonDivisor : ByteArray := prog_1_method_31_code
def yX8_commonDivisor : MethodName := ⟨RX8, "commonDivisor", "(JJ)J"⟩
def RX9 : String := "ShadeClassesModel"
def TX9 : u_T := fun k => match k with
  | 0 => ("ShadeClassesModel", "many", "I", false)
  | 1 => ("ShadeClassesModel", "asked", "I", false)
  | 2 => ("ShadeClassesModel", "cost", "I", false)
  | 3 => ("ShadeClassesModel", "closed", "I", false)
  | 4 => ("ShadeClassesModel", "whereOf", "[I", true)
  | 5 => ("ShadeClassesModel", "numberOf", "[I", true)
  | 6 => ("ShadeClassesModel", "old", "[I", true)
  | 7 => ("ShadeClassesModel", "text", "[I", true)
  | 8 => ("ShadeClassesModel", "size", "I", false)
  | 9 => ("ShadeClassesModel", "readAt", "I", false)
  | 10 => ("ShadeClassesModel", "readMany", "I", false)
  | 11 => ("ShadeClassesModel", "readAsked", "I", false)
  | 12 => ("ShadeClassesModel", "readCost", "I", false)
  | 13 => ("ShadeClassesModel", "readNumber", "I", false)
  | 14 => ("ShadeClassesModel", "readWhere", "[I", true)
  | 15 => ("ShadeClassesModel", "readNumbers", "[I", true)
  | 16 => ("ShadeClassesModel", "ahead", "[I", true)
  | 17 => ("ShadeClassesModel", "undoMany", "I", false)
  | 18 => ("ShadeClassesModel", "images", "[I", true)
  | 19 => ("ShadeClassesModel", "sortedMany", "I", false)
  | 20 => ("ShadeClassesModel", "sorted", "[I", true)
  | 21 => ("ShadeClassesModel", "weight", "[I", true)
  | 22 => ("ShadeClassesModel", "least", "[J", true)
  | 23 => ("ShadeClassesModel", "endOf", "[I", true)
  | 24 => ("ShadeClassesModel", "runMany", "I", false)
  | 25 => ("ShadeClassesModel", "begins", "[I", true)
  | 26 => ("ShadeClassesModel", "ending", "[J", true)
  | _ => ("ShadeClassesModel", "lastOf", "[I", true)
def tyX9 : Nat → FieldType := fun k => match k with
  | 0 => .int
  | 1 => .int
  | 2 => .int
  | 3 => .int
  | 4 => .array .int
  | 5 => .array .int
  | 6 => .array .int
  | 7 => .array .int
  | 8 => .int
  | 9 => .int
  | 10 => .int
  | 11 => .int
  | 12 => .int
  | 13 => .int
  | 14 => .array .int
  | 15 => .array .int
  | 16 => .array .int
  | 17 => .int
  | 18 => .array .int
  | 19 => .int
  | 20 => .array .int
  | 21 => .array .int
  | 22 => .array .long
  | 23 => .array .int
  | 24 => .int
  | 25 => .array .int
  | 26 => .array .long
  | _ => .array .int
theorem nmX9 : ∀ a, a < 28 → ∀ b, b < 28 → a ≠ b → (TX9 a).2.1 ≠ (TX9 b).2.1 := by decide +kernel
theorem tyX9_ok : ∀ k, k < 28 → parseFieldDescriptor (TX9 k).2.2.1 = some (tyX9 k) := by decide +kernel
abbrev cX9_init : ByteArray := prog_11_method_1_code
def yX9_init : MethodName := ⟨RX9, "<init>", "()V"⟩
abbrev cX9_in : ByteArray := prog_11_method_2_code
def yX9_in : MethodName := ⟨RX9, "in", "(III)Z"⟩
abbrev cX9_placeAt : ByteArray := prog_11_method_3_code
def yX9_placeAt : MethodName := ⟨RX9, "placeAt", "(I)I"⟩
abbrev cX9_isWhere : ByteArray := prog_11_method_4_code
def yX9_isWhere : MethodName := ⟨RX9, "isWhere", "(II)Z"⟩
abbrev cX9_type : ByteArray := prog_11_method_5_code
def yX9_type : MethodName := ⟨RX9, "type", "(I)I"⟩
abbrev cX9_clear : ByteArray := prog_11_method_6_code
def yX9_clear : MethodName := ⟨RX9, "clear", "()I"⟩
abbrev cX9_here : ByteArray := prog_11_method_7_code
def yX9_here : MethodName := ⟨RX9, "here", "()I"⟩
abbrev cX9_skip : ByteArray := prog_11_method_8_code
def yX9_skip : MethodName := ⟨RX9, "skip", "()V"⟩
abbrev cX9_number : ByteArray := prog_11_method_9_code
def yX9_number : MethodName := ⟨RX9, "number", "(II)Z"⟩
abbrev cX9_ends : ByteArray := prog_11_method_10_code
def yX9_ends : MethodName := ⟨RX9, "ends", "()Z"⟩
abbrev cX9_isTold : ByteArray := prog_11_method_11_code
def yX9_isTold : MethodName := ⟨RX9, "isTold", "(I)Z"⟩
abbrev cX9_readsPlace : ByteArray := prog_11_method_12_code
def yX9_readsPlace : MethodName := ⟨RX9, "readsPlace", "()Z"⟩
abbrev cX9_readsAsked : ByteArray := prog_11_method_13_code
def yX9_readsAsked : MethodName := ⟨RX9, "readsAsked", "()Z"⟩
abbrev cX9_readsCost : ByteArray := prog_11_method_14_code
def yX9_readsCost : MethodName := ⟨RX9, "readsCost", "()Z"⟩
abbrev cX9_readsItem : ByteArray := prog_11_method_15_code
def yX9_readsItem : MethodName := ⟨RX9, "readsItem", "()Z"⟩
abbrev cX9_map : ByteArray := prog_11_method_16_code
def yX9_map : MethodName := ⟨RX9, "map", "()I"⟩
abbrev cX9_writes : ByteArray := prog_11_method_17_code
def yX9_writes : MethodName := ⟨RX9, "writes", "([II)V"⟩
abbrev cX9_readsBack : ByteArray := prog_11_method_18_code
def yX9_readsBack : MethodName := ⟨RX9, "readsBack", "([II)V"⟩
abbrev cX9_notes : ByteArray := prog_11_method_19_code
def yX9_notes : MethodName := ⟨RX9, "notes", "()V"⟩
abbrev cX9_puts : ByteArray := prog_11_method_20_code
def yX9_puts : MethodName := ⟨RX9, "puts", "(III)I"⟩
abbrev cX9_drops : ByteArray := prog_11_method_21_code
def yX9_drops : MethodName := ⟨RX9, "drops", "(II)I"⟩
abbrev cX9_asks : ByteArray := prog_11_method_22_code
def yX9_asks : MethodName := ⟨RX9, "asks", "(I)I"⟩
abbrev cX9_costs : ByteArray := prog_11_method_23_code
def yX9_costs : MethodName := ⟨RX9, "costs", "(I)I"⟩
abbrev cX9_undo : ByteArray := prog_11_method_24_code
def yX9_undo : MethodName := ⟨RX9, "undo", "()I"⟩
abbrev cX9_setSorted : ByteArray := prog_11_method_25_code
def yX9_setSorted : MethodName := ⟨RX9, "setSorted", "()V"⟩
abbrev cX9_spreadOf : ByteArray := prog_11_method_26_code
def yX9_spreadOf : MethodName := ⟨RX9, "spreadOf", "(II)J"⟩
abbrev cX9_isOld : ByteArray := prog_11_method_27_code
def yX9_isOld : MethodName := ⟨RX9, "isOld", "(I)Z"⟩
abbrev cX9_borderAt : ByteArray := prog_11_method_28_code
def yX9_borderAt : MethodName := ⟨RX9, "borderAt", "(IZ)J"⟩
abbrev cX9_setFrom : ByteArray := prog_11_method_29_code
def yX9_setFrom : MethodName := ⟨RX9, "setFrom", "(IIZ)V"⟩
abbrev cX9_parts : ByteArray := prog_11_method_30_code
def yX9_parts : MethodName := ⟨RX9, "parts", "(IZ)V"⟩
abbrev cX9_partsNow : ByteArray := prog_11_method_31_code
def yX9_partsNow : MethodName := ⟨RX9, "partsNow", "()V"⟩
abbrev cX9_spreadOfRuns : ByteArray := prog_11_method_32_code
def yX9_spreadOfRuns : MethodName := ⟨RX9, "spreadOfRuns", "()J"⟩
abbrev cX9_movedMany : ByteArray := prog_11_method_33_code
def yX9_movedMany : MethodName := ⟨RX9, "movedMany", "()I"⟩
abbrev cX9_closes : ByteArray := prog_11_method_34_code
def yX9_closes : MethodName := ⟨RX9, "closes", "()I"⟩
abbrev cX9_moved : ByteArray := prog_11_method_35_code
def yX9_moved : MethodName := ⟨RX9, "moved", "()I"⟩
abbrev cX9_runOf : ByteArray := prog_11_method_36_code
def yX9_runOf : MethodName := ⟨RX9, "runOf", "(I)I"⟩
abbrev cX9_place : ByteArray := prog_11_method_37_code
def yX9_place : MethodName := ⟨RX9, "place", "(III)I"⟩
abbrev cX9_sorted : ByteArray := prog_11_method_38_code
def yX9_sorted : MethodName := ⟨RX9, "sorted", "(II)I"⟩
abbrev cX9_beginOf : ByteArray := prog_11_method_39_code
def yX9_beginOf : MethodName := ⟨RX9, "beginOf", "(I)I"⟩
abbrev cX9_now : ByteArray := prog_11_method_40_code
def yX9_now : MethodName := ⟨RX9, "now", "(I)I"⟩
abbrev cX9_told : ByteArray := prog_11_method_41_code
def yX9_told : MethodName := ⟨RX9, "told", "(JI)J"⟩
abbrev cX9_spread : ByteArray := prog_11_method_42_code
def yX9_spread : MethodName := ⟨RX9, "spread", "(I)J"⟩
abbrev cX9_least : ByteArray := prog_11_method_43_code
def yX9_least : MethodName := ⟨RX9, "least", "(II)I"⟩
abbrev cX9_spreadIn : ByteArray := prog_11_method_44_code
def yX9_spreadIn : MethodName := ⟨RX9, "spreadIn", "(I)J"⟩
abbrev cX9_gain : ByteArray := prog_11_method_45_code
def yX9_gain : MethodName := ⟨RX9, "gain", "(II)J"⟩
abbrev cX9_setEnding : ByteArray := prog_11_method_46_code
def yX9_setEnding : MethodName := ⟨RX9, "setEnding", "(II)V"⟩
abbrev cX9_last : ByteArray := prog_11_method_47_code
def yX9_last : MethodName := ⟨RX9, "last", "(II)I"⟩
abbrev cX9_enough : ByteArray := prog_11_method_48_code
def yX9_enough : MethodName := ⟨RX9, "enough", "(I)I"⟩
abbrev cX9_isNoMore : ByteArray := prog_11_method_49_code
def yX9_isNoMore : MethodName := ⟨RX9, "isNoMore", "(JJI)Z"⟩
abbrev cX9_keep : ByteArray := prog_11_method_50_code
def yX9_keep : MethodName := ⟨RX9, "keep", "(I)I"⟩
abbrev cX9_back : ByteArray := prog_11_method_51_code
def yX9_back : MethodName := ⟨RX9, "back", "(I)I"⟩
abbrev cX9_sum : ByteArray := prog_11_method_52_code
def yX9_sum : MethodName := ⟨RX9, "sum", "()I"⟩
abbrev cX9_count : ByteArray := prog_11_method_53_code
def yX9_count : MethodName := ⟨RX9, "count", "(I)I"⟩
def RJ9 : String := "java/lang/Math"
def TJ9 : u_T := fun k => match k with
  | _ => ("", "", "", false)
def tyJ9 : Nat → FieldType := fun k => match k with
  | _ => .int
theorem nmJ9 : ∀ a, a < 0 → ∀ b, b < 0 → a ≠ b → (TJ9 a).2.1 ≠ (TJ9 b).2.1 := by decide +kernel
theorem tyJ9_ok : ∀ k, k < 0 → parseFieldDescriptor (TJ9 k).2.2.1 = some (tyJ9 k) := by decide +kernel
abbrev cJ9_max_7cf53 : ByteArray := prog_12_method_65_code
def yJ9_max_7cf53 : MethodName := ⟨RJ9, "max", "(II)I"⟩
abbrev cJ9_min_7cf53 : ByteArray := prog_12_method_69_code
def yJ9_min_7cf53 : MethodName := ⟨RJ9, "min", "(II)I"⟩
def RJ10 : String := "java/lang/System"
def TJ10 : u_T := fun k => match k with
  | _ => ("", "", "", false)
def tyJ10 : Nat → FieldType := fun k => match k with
  | _ => .int
theorem nmJ10 : ∀ a, a < 0 → ∀ b, b < 0 → a ≠ b → (TJ10 a).2.1 ≠ (TJ10 b).2.1 := by decide +kernel
theorem tyJ10_ok : ∀ k, k < 0 → parseFieldDescriptor (TJ10 k).2.2.1 = some (tyJ10 k) := by decide +kernel
def RJ7 : String := "java/util/Arrays"
def TJ7 : u_T := fun k => match k with
  | _ => ("", "", "", false)
def tyJ7 : Nat → FieldType := fun k => match k with
  | _ => .int
theorem nmJ7 : ∀ a, a < 0 → ∀ b, b < 0 → a ≠ b → (TJ7 a).2.1 ≠ (TJ7 b).2.1 := by decide +kernel
theorem tyJ7_ok : ∀ k, k < 0 → parseFieldDescriptor (TJ7 k).2.2.1 = some (tyJ7 k) := by decide +kernel
abbrev cJ7_fill_53178 : ByteArray := prog_14_method_103_code
def yJ7_fill_53178 : MethodName := ⟨RJ7, "fill", "([II)V"⟩
def RL : String := "ShadeClassesLaw"
abbrev cL_law : ByteArray := code
def yL_law : MethodName := ⟨RL, "law", "([I)Z"⟩
abbrev vwCl : List vw_C := [(RX0, TX0, 5), (RX1, TX1, 3), (RX2, TX2, 4), (RX3, TX3, 2), (RX4, TX4, 10), (RX5, TX5, 3), (RX6, TX6, 11), (RX7, TX7, 3), (RX8, TX8, 6), (RX9, TX9, 28)]
end
section
theorem dX0_init_0 : decode cX0_init 0 = .ok (.aload_n 0, 1) := by decide +kernel
theorem dX0_init_1 : decode cX0_init 1 = .ok (.invokespecial 3, 3) := by decide +kernel
theorem dX0_init_4 : decode cX0_init 4 = .ok (.aload_n 0, 1) := by decide +kernel
theorem dX0_init_5 : decode cX0_init 5 = .ok (.bipush 100, 2) := by decide +kernel
theorem dX0_init_7 : decode cX0_init 7 = .ok (.newarray .int, 2) := by decide +kernel
theorem dX0_init_9 : decode cX0_init 9 = .ok (.putfield 9, 3) := by decide +kernel
theorem dX0_init_12 : decode cX0_init 12 = .ok (.aload_n 0, 1) := by decide +kernel
theorem dX0_init_13 : decode cX0_init 13 = .ok (.iconst 5, 1) := by decide +kernel
theorem dX0_init_14 : decode cX0_init 14 = .ok (.newarray .int, 2) := by decide +kernel
theorem dX0_init_16 : decode cX0_init 16 = .ok (.putfield 15, 3) := by decide +kernel
theorem dX0_init_19 : decode cX0_init 19 = .ok (.aload_n 0, 1) := by decide +kernel
theorem dX0_init_20 : decode cX0_init 20 = .ok (.invokevirtual 18, 3) := by decide +kernel
theorem dX0_init_23 : decode cX0_init 23 = .ok (.return_, 1) := by decide +kernel
theorem dX0_empty_0 : decode cX0_empty 0 = .ok (.aload_n 0, 1) := by decide +kernel
theorem dX0_empty_1 : decode cX0_empty 1 = .ok (.getfield 9, 3) := by decide +kernel
theorem dX0_empty_4 : decode cX0_empty 4 = .ok (.iconst (-1), 1) := by decide +kernel
theorem dX0_empty_5 : decode cX0_empty 5 = .ok (.invokestatic 21, 3) := by decide +kernel
theorem dX0_empty_8 : decode cX0_empty 8 = .ok (.aload_n 0, 1) := by decide +kernel
theorem dX0_empty_9 : decode cX0_empty 9 = .ok (.bipush (-9), 2) := by decide +kernel
theorem dX0_empty_11 : decode cX0_empty 11 = .ok (.putfield 27, 3) := by decide +kernel
theorem dX0_empty_14 : decode cX0_empty 14 = .ok (.aload_n 0, 1) := by decide +kernel
theorem dX0_empty_15 : decode cX0_empty 15 = .ok (.iconst 3, 1) := by decide +kernel
theorem dX0_empty_16 : decode cX0_empty 16 = .ok (.putfield 31, 3) := by decide +kernel
theorem dX0_empty_19 : decode cX0_empty 19 = .ok (.aload_n 0, 1) := by decide +kernel
theorem dX0_empty_20 : decode cX0_empty 20 = .ok (.iconst 0, 1) := by decide +kernel
theorem dX0_empty_21 : decode cX0_empty 21 = .ok (.putfield 34, 3) := by decide +kernel
theorem dX0_empty_24 : decode cX0_empty 24 = .ok (.return_, 1) := by decide +kernel
theorem dX0_become_0 : decode cX0_become 0 = .ok (.aload_n 1, 1) := by decide +kernel
theorem dX0_become_1 : decode cX0_become 1 = .ok (.getfield 9, 3) := by decide +kernel
theorem dX0_become_4 : decode cX0_become 4 = .ok (.iconst 0, 1) := by decide +kernel
theorem dX0_become_5 : decode cX0_become 5 = .ok (.aload_n 0, 1) := by decide +kernel
theorem dX0_become_6 : decode cX0_become 6 = .ok (.getfield 9, 3) := by decide +kernel
theorem dX0_become_9 : decode cX0_become 9 = .ok (.iconst 0, 1) := by decide +kernel
theorem dX0_become_10 : decode cX0_become 10 = .ok (.aload_n 0, 1) := by decide +kernel
theorem dX0_become_11 : decode cX0_become 11 = .ok (.getfield 9, 3) := by decide +kernel
theorem dX0_become_14 : decode cX0_become 14 = .ok (.arraylength, 1) := by decide +kernel
theorem dX0_become_15 : decode cX0_become 15 = .ok (.invokestatic 37, 3) := by decide +kernel
theorem dX0_become_18 : decode cX0_become 18 = .ok (.aload_n 1, 1) := by decide +kernel
theorem dX0_become_19 : decode cX0_become 19 = .ok (.getfield 15, 3) := by decide +kernel
theorem dX0_become_22 : decode cX0_become 22 = .ok (.iconst 0, 1) := by decide +kernel
theorem dX0_become_23 : decode cX0_become 23 = .ok (.aload_n 0, 1) := by decide +kernel
theorem dX0_become_24 : decode cX0_become 24 = .ok (.getfield 15, 3) := by decide +kernel
theorem dX0_become_27 : decode cX0_become 27 = .ok (.iconst 0, 1) := by decide +kernel
theorem dX0_become_28 : decode cX0_become 28 = .ok (.aload_n 0, 1) := by decide +kernel
theorem dX0_become_29 : decode cX0_become 29 = .ok (.getfield 15, 3) := by decide +kernel
theorem dX0_become_32 : decode cX0_become 32 = .ok (.arraylength, 1) := by decide +kernel
theorem dX0_become_33 : decode cX0_become 33 = .ok (.invokestatic 37, 3) := by decide +kernel
theorem dX0_become_36 : decode cX0_become 36 = .ok (.aload_n 0, 1) := by decide +kernel
theorem dX0_become_37 : decode cX0_become 37 = .ok (.aload_n 1, 1) := by decide +kernel
theorem dX0_become_38 : decode cX0_become 38 = .ok (.getfield 27, 3) := by decide +kernel
theorem dX0_become_41 : decode cX0_become 41 = .ok (.putfield 27, 3) := by decide +kernel
theorem dX0_become_44 : decode cX0_become 44 = .ok (.aload_n 0, 1) := by decide +kernel
theorem dX0_become_45 : decode cX0_become 45 = .ok (.aload_n 1, 1) := by decide +kernel
theorem dX0_become_46 : decode cX0_become 46 = .ok (.getfield 31, 3) := by decide +kernel
theorem dX0_become_49 : decode cX0_become 49 = .ok (.putfield 31, 3) := by decide +kernel
theorem dX0_become_52 : decode cX0_become 52 = .ok (.aload_n 0, 1) := by decide +kernel
theorem dX0_become_53 : decode cX0_become 53 = .ok (.aload_n 1, 1) := by decide +kernel
theorem dX0_become_54 : decode cX0_become 54 = .ok (.getfield 34, 3) := by decide +kernel
theorem dX0_become_57 : decode cX0_become 57 = .ok (.putfield 34, 3) := by decide +kernel
theorem dX0_become_60 : decode cX0_become 60 = .ok (.return_, 1) := by decide +kernel
theorem dX0_places_0 : decode cX0_places 0 = .ok (.iconst 0, 1) := by decide +kernel
theorem dX0_places_1 : decode cX0_places 1 = .ok (.istore_n 1, 1) := by decide +kernel
theorem dX0_places_2 : decode cX0_places 2 = .ok (.aload_n 0, 1) := by decide +kernel
theorem dX0_places_3 : decode cX0_places 3 = .ok (.getfield 9, 3) := by decide +kernel
theorem dX0_places_6 : decode cX0_places 6 = .ok (.astore_n 2, 1) := by decide +kernel
theorem dX0_places_7 : decode cX0_places 7 = .ok (.aload_n 2, 1) := by decide +kernel
theorem dX0_places_8 : decode cX0_places 8 = .ok (.arraylength, 1) := by decide +kernel
theorem dX0_places_9 : decode cX0_places 9 = .ok (.istore_n 3, 1) := by decide +kernel
theorem dX0_places_10 : decode cX0_places 10 = .ok (.iconst 0, 1) := by decide +kernel
theorem dX0_places_11 : decode cX0_places 11 = .ok (.istore 4, 2) := by decide +kernel
theorem dX0_places_13 : decode cX0_places 13 = .ok (.iload 4, 2) := by decide +kernel
theorem dX0_places_15 : decode cX0_places 15 = .ok (.iload_n 3, 1) := by decide +kernel
theorem dX0_places_16 : decode cX0_places 16 = .ok (.if_icmp .ge 24, 3) := by decide +kernel
theorem dX0_places_19 : decode cX0_places 19 = .ok (.aload_n 2, 1) := by decide +kernel
theorem dX0_places_20 : decode cX0_places 20 = .ok (.iload 4, 2) := by decide +kernel
theorem dX0_places_22 : decode cX0_places 22 = .ok (.iaload, 1) := by decide +kernel
theorem dX0_places_23 : decode cX0_places 23 = .ok (.istore 5, 2) := by decide +kernel
theorem dX0_places_25 : decode cX0_places 25 = .ok (.iload 5, 2) := by decide +kernel
theorem dX0_places_27 : decode cX0_places 27 = .ok (.iconst (-1), 1) := by decide +kernel
theorem dX0_places_28 : decode cX0_places 28 = .ok (.if_icmp .eq 6, 3) := by decide +kernel
theorem dX0_places_31 : decode cX0_places 31 = .ok (.iinc 1 1, 3) := by decide +kernel
theorem dX0_places_34 : decode cX0_places 34 = .ok (.iinc 4 1, 3) := by decide +kernel
theorem dX0_places_37 : decode cX0_places 37 = .ok (.goto (-24), 3) := by decide +kernel
theorem dX0_places_40 : decode cX0_places 40 = .ok (.iload_n 1, 1) := by decide +kernel
theorem dX0_places_41 : decode cX0_places 41 = .ok (.ireturn, 1) := by decide +kernel
theorem dX0_sum_0 : decode cX0_sum 0 = .ok (.iconst 0, 1) := by decide +kernel
theorem dX0_sum_1 : decode cX0_sum 1 = .ok (.istore_n 1, 1) := by decide +kernel
theorem dX0_sum_2 : decode cX0_sum 2 = .ok (.aload_n 0, 1) := by decide +kernel
theorem dX0_sum_3 : decode cX0_sum 3 = .ok (.getfield 9, 3) := by decide +kernel
theorem dX0_sum_6 : decode cX0_sum 6 = .ok (.astore_n 2, 1) := by decide +kernel
theorem dX0_sum_7 : decode cX0_sum 7 = .ok (.aload_n 2, 1) := by decide +kernel
theorem dX0_sum_8 : decode cX0_sum 8 = .ok (.arraylength, 1) := by decide +kernel
theorem dX0_sum_9 : decode cX0_sum 9 = .ok (.istore_n 3, 1) := by decide +kernel
theorem dX0_sum_10 : decode cX0_sum 10 = .ok (.iconst 0, 1) := by decide +kernel
theorem dX0_sum_11 : decode cX0_sum 11 = .ok (.istore 4, 2) := by decide +kernel
theorem dX0_sum_13 : decode cX0_sum 13 = .ok (.iload 4, 2) := by decide +kernel
theorem dX0_sum_15 : decode cX0_sum 15 = .ok (.iload_n 3, 1) := by decide +kernel
theorem dX0_sum_16 : decode cX0_sum 16 = .ok (.if_icmp .ge 26, 3) := by decide +kernel
theorem dX0_sum_19 : decode cX0_sum 19 = .ok (.aload_n 2, 1) := by decide +kernel
theorem dX0_sum_20 : decode cX0_sum 20 = .ok (.iload 4, 2) := by decide +kernel
theorem dX0_sum_22 : decode cX0_sum 22 = .ok (.iaload, 1) := by decide +kernel
theorem dX0_sum_23 : decode cX0_sum 23 = .ok (.istore 5, 2) := by decide +kernel
theorem dX0_sum_25 : decode cX0_sum 25 = .ok (.iload 5, 2) := by decide +kernel
theorem dX0_sum_27 : decode cX0_sum 27 = .ok (.iconst (-1), 1) := by decide +kernel
theorem dX0_sum_28 : decode cX0_sum 28 = .ok (.if_icmp .eq 8, 3) := by decide +kernel
theorem dX0_sum_31 : decode cX0_sum 31 = .ok (.iload_n 1, 1) := by decide +kernel
theorem dX0_sum_32 : decode cX0_sum 32 = .ok (.iload 5, 2) := by decide +kernel
theorem dX0_sum_34 : decode cX0_sum 34 = .ok (.iadd, 1) := by decide +kernel
theorem dX0_sum_35 : decode cX0_sum 35 = .ok (.istore_n 1, 1) := by decide +kernel
theorem dX0_sum_36 : decode cX0_sum 36 = .ok (.iinc 4 1, 3) := by decide +kernel
theorem dX0_sum_39 : decode cX0_sum 39 = .ok (.goto (-26), 3) := by decide +kernel
theorem dX0_sum_42 : decode cX0_sum 42 = .ok (.iload_n 1, 1) := by decide +kernel
theorem dX0_sum_43 : decode cX0_sum 43 = .ok (.ireturn, 1) := by decide +kernel
theorem dX0_isOld_0 : decode cX0_isOld 0 = .ok (.iconst 0, 1) := by decide +kernel
theorem dX0_isOld_1 : decode cX0_isOld 1 = .ok (.istore_n 2, 1) := by decide +kernel
theorem dX0_isOld_2 : decode cX0_isOld 2 = .ok (.iload_n 2, 1) := by decide +kernel
theorem dX0_isOld_3 : decode cX0_isOld 3 = .ok (.aload_n 0, 1) := by decide +kernel
theorem dX0_isOld_4 : decode cX0_isOld 4 = .ok (.getfield 27, 3) := by decide +kernel
theorem dX0_isOld_7 : decode cX0_isOld 7 = .ok (.if_icmp .ge 30, 3) := by decide +kernel
theorem dX0_isOld_10 : decode cX0_isOld 10 = .ok (.iload_n 2, 1) := by decide +kernel
theorem dX0_isOld_11 : decode cX0_isOld 11 = .ok (.aload_n 0, 1) := by decide +kernel
theorem dX0_isOld_12 : decode cX0_isOld 12 = .ok (.getfield 15, 3) := by decide +kernel
theorem dX0_isOld_15 : decode cX0_isOld 15 = .ok (.arraylength, 1) := by decide +kernel
theorem dX0_isOld_16 : decode cX0_isOld 16 = .ok (.if_icmp .ge 21, 3) := by decide +kernel
theorem dX0_isOld_19 : decode cX0_isOld 19 = .ok (.aload_n 0, 1) := by decide +kernel
theorem dX0_isOld_20 : decode cX0_isOld 20 = .ok (.getfield 15, 3) := by decide +kernel
theorem dX0_isOld_23 : decode cX0_isOld 23 = .ok (.iload_n 2, 1) := by decide +kernel
theorem dX0_isOld_24 : decode cX0_isOld 24 = .ok (.iaload, 1) := by decide +kernel
theorem dX0_isOld_25 : decode cX0_isOld 25 = .ok (.iload_n 1, 1) := by decide +kernel
theorem dX0_isOld_26 : decode cX0_isOld 26 = .ok (.if_icmp .ne 5, 3) := by decide +kernel
theorem dX0_isOld_29 : decode cX0_isOld 29 = .ok (.iconst 1, 1) := by decide +kernel
theorem dX0_isOld_30 : decode cX0_isOld 30 = .ok (.ireturn, 1) := by decide +kernel
theorem dX0_isOld_31 : decode cX0_isOld 31 = .ok (.iinc 2 1, 3) := by decide +kernel
theorem dX0_isOld_34 : decode cX0_isOld 34 = .ok (.goto (-32), 3) := by decide +kernel
theorem dX0_isOld_37 : decode cX0_isOld 37 = .ok (.iconst 0, 1) := by decide +kernel
theorem dX0_isOld_38 : decode cX0_isOld 38 = .ok (.ireturn, 1) := by decide +kernel
theorem dX0_feeOf_0 : decode cX0_feeOf 0 = .ok (.aload_n 0, 1) := by decide +kernel
theorem dX0_feeOf_1 : decode cX0_feeOf 1 = .ok (.getfield 27, 3) := by decide +kernel
theorem dX0_feeOf_4 : decode cX0_feeOf 4 = .ok (.bipush (-9), 2) := by decide +kernel
theorem dX0_feeOf_6 : decode cX0_feeOf 6 = .ok (.if_icmp .eq 11, 3) := by decide +kernel
theorem dX0_feeOf_9 : decode cX0_feeOf 9 = .ok (.aload_n 0, 1) := by decide +kernel
theorem dX0_feeOf_10 : decode cX0_feeOf 10 = .ok (.iload_n 1, 1) := by decide +kernel
theorem dX0_feeOf_11 : decode cX0_feeOf 11 = .ok (.invokevirtual 43, 3) := by decide +kernel
theorem dX0_feeOf_14 : decode cX0_feeOf 14 = .ok (.ifCond .eq 7, 3) := by decide +kernel
theorem dX0_feeOf_17 : decode cX0_feeOf 17 = .ok (.lconst 0, 1) := by decide +kernel
theorem dX0_feeOf_18 : decode cX0_feeOf 18 = .ok (.goto 12, 3) := by decide +kernel
theorem dX0_feeOf_21 : decode cX0_feeOf 21 = .ok (.aload_n 0, 1) := by decide +kernel
theorem dX0_feeOf_22 : decode cX0_feeOf 22 = .ok (.getfield 34, 3) := by decide +kernel
theorem dX0_feeOf_25 : decode cX0_feeOf 25 = .ok (.i2l, 1) := by decide +kernel
theorem dX0_feeOf_26 : decode cX0_feeOf 26 = .ok (.ldc2_w 47, 3) := by decide +kernel
theorem dX0_feeOf_29 : decode cX0_feeOf 29 = .ok (.lmul, 1) := by decide +kernel
theorem dX0_feeOf_30 : decode cX0_feeOf 30 = .ok (.lreturn, 1) := by decide +kernel
theorem dX1_init_0 : decode cX1_init 0 = .ok (.aload_n 0, 1) := by decide +kernel
theorem dX1_init_1 : decode cX1_init 1 = .ok (.invokespecial 3, 3) := by decide +kernel
theorem dX1_init_4 : decode cX1_init 4 = .ok (.aload_n 0, 1) := by decide +kernel
theorem dX1_init_5 : decode cX1_init 5 = .ok (.bipush 10, 2) := by decide +kernel
theorem dX1_init_7 : decode cX1_init 7 = .ok (.anewarray 9, 3) := by decide +kernel
theorem dX1_init_10 : decode cX1_init 10 = .ok (.putfield 11, 3) := by decide +kernel
theorem dX1_init_13 : decode cX1_init 13 = .ok (.iconst 0, 1) := by decide +kernel
theorem dX1_init_14 : decode cX1_init 14 = .ok (.istore_n 1, 1) := by decide +kernel
theorem dX1_init_15 : decode cX1_init 15 = .ok (.iload_n 1, 1) := by decide +kernel
theorem dX1_init_16 : decode cX1_init 16 = .ok (.bipush 10, 2) := by decide +kernel
theorem dX1_init_18 : decode cX1_init 18 = .ok (.if_icmp .ge 22, 3) := by decide +kernel
theorem dX1_init_21 : decode cX1_init 21 = .ok (.aload_n 0, 1) := by decide +kernel
theorem dX1_init_22 : decode cX1_init 22 = .ok (.getfield 11, 3) := by decide +kernel
theorem dX1_init_25 : decode cX1_init 25 = .ok (.iload_n 1, 1) := by decide +kernel
theorem dX1_init_26 : decode cX1_init 26 = .ok (.new 9, 3) := by decide +kernel
theorem dX1_init_29 : decode cX1_init 29 = .ok (.dup, 1) := by decide +kernel
theorem dX1_init_30 : decode cX1_init 30 = .ok (.invokespecial 17, 3) := by decide +kernel
theorem dX1_init_33 : decode cX1_init 33 = .ok (.aastore, 1) := by decide +kernel
theorem dX1_init_34 : decode cX1_init 34 = .ok (.iinc 1 1, 3) := by decide +kernel
theorem dX1_init_37 : decode cX1_init 37 = .ok (.goto (-22), 3) := by decide +kernel
theorem dX1_init_40 : decode cX1_init 40 = .ok (.return_, 1) := by decide +kernel
theorem dX1_remember_0 : decode cX1_remember 0 = .ok (.aload_n 0, 1) := by decide +kernel
theorem dX1_remember_1 : decode cX1_remember 1 = .ok (.getfield 11, 3) := by decide +kernel
theorem dX1_remember_4 : decode cX1_remember 4 = .ok (.aload_n 0, 1) := by decide +kernel
theorem dX1_remember_5 : decode cX1_remember 5 = .ok (.getfield 18, 3) := by decide +kernel
theorem dX1_remember_8 : decode cX1_remember 8 = .ok (.aaload, 1) := by decide +kernel
theorem dX1_remember_9 : decode cX1_remember 9 = .ok (.aload_n 1, 1) := by decide +kernel
theorem dX1_remember_10 : decode cX1_remember 10 = .ok (.invokevirtual 22, 3) := by decide +kernel
theorem dX1_remember_13 : decode cX1_remember 13 = .ok (.aload_n 0, 1) := by decide +kernel
theorem dX1_remember_14 : decode cX1_remember 14 = .ok (.aload_n 0, 1) := by decide +kernel
theorem dX1_remember_15 : decode cX1_remember 15 = .ok (.getfield 18, 3) := by decide +kernel
theorem dX1_remember_18 : decode cX1_remember 18 = .ok (.iconst 1, 1) := by decide +kernel
theorem dX1_remember_19 : decode cX1_remember 19 = .ok (.iadd, 1) := by decide +kernel
theorem dX1_remember_20 : decode cX1_remember 20 = .ok (.bipush 10, 2) := by decide +kernel
theorem dX1_remember_22 : decode cX1_remember 22 = .ok (.irem, 1) := by decide +kernel
theorem dX1_remember_23 : decode cX1_remember 23 = .ok (.putfield 18, 3) := by decide +kernel
theorem dX1_remember_26 : decode cX1_remember 26 = .ok (.aload_n 0, 1) := by decide +kernel
theorem dX1_remember_27 : decode cX1_remember 27 = .ok (.aload_n 0, 1) := by decide +kernel
theorem dX1_remember_28 : decode cX1_remember 28 = .ok (.getfield 26, 3) := by decide +kernel
theorem dX1_remember_31 : decode cX1_remember 31 = .ok (.iconst 1, 1) := by decide +kernel
theorem dX1_remember_32 : decode cX1_remember 32 = .ok (.iadd, 1) := by decide +kernel
theorem dX1_remember_33 : decode cX1_remember 33 = .ok (.bipush 10, 2) := by decide +kernel
theorem dX1_remember_35 : decode cX1_remember 35 = .ok (.invokestatic 29, 3) := by decide +kernel
theorem dX1_remember_38 : decode cX1_remember 38 = .ok (.putfield 26, 3) := by decide +kernel
theorem dX1_remember_41 : decode cX1_remember 41 = .ok (.return_, 1) := by decide +kernel
theorem dX1_recall_0 : decode cX1_recall 0 = .ok (.aload_n 0, 1) := by decide +kernel
theorem dX1_recall_1 : decode cX1_recall 1 = .ok (.aload_n 0, 1) := by decide +kernel
theorem dX1_recall_2 : decode cX1_recall 2 = .ok (.getfield 18, 3) := by decide +kernel
theorem dX1_recall_5 : decode cX1_recall 5 = .ok (.bipush 10, 2) := by decide +kernel
theorem dX1_recall_7 : decode cX1_recall 7 = .ok (.iadd, 1) := by decide +kernel
theorem dX1_recall_8 : decode cX1_recall 8 = .ok (.iconst 1, 1) := by decide +kernel
theorem dX1_recall_9 : decode cX1_recall 9 = .ok (.isub, 1) := by decide +kernel
theorem dX1_recall_10 : decode cX1_recall 10 = .ok (.bipush 10, 2) := by decide +kernel
theorem dX1_recall_12 : decode cX1_recall 12 = .ok (.irem, 1) := by decide +kernel
theorem dX1_recall_13 : decode cX1_recall 13 = .ok (.putfield 18, 3) := by decide +kernel
theorem dX1_recall_16 : decode cX1_recall 16 = .ok (.aload_n 1, 1) := by decide +kernel
theorem dX1_recall_17 : decode cX1_recall 17 = .ok (.aload_n 0, 1) := by decide +kernel
theorem dX1_recall_18 : decode cX1_recall 18 = .ok (.getfield 11, 3) := by decide +kernel
theorem dX1_recall_21 : decode cX1_recall 21 = .ok (.aload_n 0, 1) := by decide +kernel
theorem dX1_recall_22 : decode cX1_recall 22 = .ok (.getfield 18, 3) := by decide +kernel
theorem dX1_recall_25 : decode cX1_recall 25 = .ok (.aaload, 1) := by decide +kernel
theorem dX1_recall_26 : decode cX1_recall 26 = .ok (.invokevirtual 22, 3) := by decide +kernel
theorem dX1_recall_29 : decode cX1_recall 29 = .ok (.aload_n 0, 1) := by decide +kernel
theorem dX1_recall_30 : decode cX1_recall 30 = .ok (.aload_n 0, 1) := by decide +kernel
theorem dX1_recall_31 : decode cX1_recall 31 = .ok (.getfield 26, 3) := by decide +kernel
theorem dX1_recall_34 : decode cX1_recall 34 = .ok (.iconst 1, 1) := by decide +kernel
theorem dX1_recall_35 : decode cX1_recall 35 = .ok (.isub, 1) := by decide +kernel
theorem dX1_recall_36 : decode cX1_recall 36 = .ok (.iconst 0, 1) := by decide +kernel
theorem dX1_recall_37 : decode cX1_recall 37 = .ok (.invokestatic 35, 3) := by decide +kernel
theorem dX1_recall_40 : decode cX1_recall 40 = .ok (.putfield 26, 3) := by decide +kernel
theorem dX1_recall_43 : decode cX1_recall 43 = .ok (.return_, 1) := by decide +kernel
theorem dX1_forget_0 : decode cX1_forget 0 = .ok (.aload_n 0, 1) := by decide +kernel
theorem dX1_forget_1 : decode cX1_forget 1 = .ok (.iconst 0, 1) := by decide +kernel
theorem dX1_forget_2 : decode cX1_forget 2 = .ok (.putfield 26, 3) := by decide +kernel
theorem dX1_forget_5 : decode cX1_forget 5 = .ok (.return_, 1) := by decide +kernel
theorem dX2_init_0 : decode cX2_init 0 = .ok (.aload_n 0, 1) := by decide +kernel
theorem dX2_init_1 : decode cX2_init 1 = .ok (.invokespecial 3, 3) := by decide +kernel
theorem dX2_init_4 : decode cX2_init 4 = .ok (.aload_n 0, 1) := by decide +kernel
theorem dX2_init_5 : decode cX2_init 5 = .ok (.bipush 24, 2) := by decide +kernel
theorem dX2_init_7 : decode cX2_init 7 = .ok (.newarray .int, 2) := by decide +kernel
theorem dX2_init_9 : decode cX2_init 9 = .ok (.putfield 9, 3) := by decide +kernel
theorem dX2_init_12 : decode cX2_init 12 = .ok (.aload_n 0, 1) := by decide +kernel
theorem dX2_init_13 : decode cX2_init 13 = .ok (.bipush 24, 2) := by decide +kernel
theorem dX2_init_15 : decode cX2_init 15 = .ok (.newarray .int, 2) := by decide +kernel
theorem dX2_init_17 : decode cX2_init 17 = .ok (.putfield 15, 3) := by decide +kernel
theorem dX2_init_20 : decode cX2_init 20 = .ok (.aload_n 0, 1) := by decide +kernel
theorem dX2_init_21 : decode cX2_init 21 = .ok (.bipush 25, 2) := by decide +kernel
theorem dX2_init_23 : decode cX2_init 23 = .ok (.bipush 25, 2) := by decide +kernel
theorem dX2_init_25 : decode cX2_init 25 = .ok (.multianewarray 18 2, 4) := by decide +kernel
theorem dX2_init_29 : decode cX2_init 29 = .ok (.putfield 20, 3) := by decide +kernel
theorem dX2_init_32 : decode cX2_init 32 = .ok (.return_, 1) := by decide +kernel
theorem dX2_build_0 : decode cX2_build 0 = .ok (.aload_n 0, 1) := by decide +kernel
theorem dX2_build_1 : decode cX2_build 1 = .ok (.iconst 0, 1) := by decide +kernel
theorem dX2_build_2 : decode cX2_build 2 = .ok (.putfield 23, 3) := by decide +kernel
theorem dX2_build_5 : decode cX2_build 5 = .ok (.aload_n 1, 1) := by decide +kernel
theorem dX2_build_6 : decode cX2_build 6 = .ok (.getfield 27, 3) := by decide +kernel
theorem dX2_build_9 : decode cX2_build 9 = .ok (.astore_n 2, 1) := by decide +kernel
theorem dX2_build_10 : decode cX2_build 10 = .ok (.aload_n 2, 1) := by decide +kernel
theorem dX2_build_11 : decode cX2_build 11 = .ok (.arraylength, 1) := by decide +kernel
theorem dX2_build_12 : decode cX2_build 12 = .ok (.istore_n 3, 1) := by decide +kernel
theorem dX2_build_13 : decode cX2_build 13 = .ok (.iconst 0, 1) := by decide +kernel
theorem dX2_build_14 : decode cX2_build 14 = .ok (.istore 4, 2) := by decide +kernel
theorem dX2_build_16 : decode cX2_build 16 = .ok (.iload 4, 2) := by decide +kernel
theorem dX2_build_18 : decode cX2_build 18 = .ok (.iload_n 3, 1) := by decide +kernel
theorem dX2_build_19 : decode cX2_build 19 = .ok (.if_icmp .ge 27, 3) := by decide +kernel
theorem dX2_build_22 : decode cX2_build 22 = .ok (.aload_n 2, 1) := by decide +kernel
theorem dX2_build_23 : decode cX2_build 23 = .ok (.iload 4, 2) := by decide +kernel
theorem dX2_build_25 : decode cX2_build 25 = .ok (.iaload, 1) := by decide +kernel
theorem dX2_build_26 : decode cX2_build 26 = .ok (.istore 5, 2) := by decide +kernel
theorem dX2_build_28 : decode cX2_build 28 = .ok (.iload 5, 2) := by decide +kernel
theorem dX2_build_30 : decode cX2_build 30 = .ok (.iconst (-1), 1) := by decide +kernel
theorem dX2_build_31 : decode cX2_build 31 = .ok (.if_icmp .eq 9, 3) := by decide +kernel
theorem dX2_build_34 : decode cX2_build 34 = .ok (.aload_n 0, 1) := by decide +kernel
theorem dX2_build_35 : decode cX2_build 35 = .ok (.iload 5, 2) := by decide +kernel
theorem dX2_build_37 : decode cX2_build 37 = .ok (.invokevirtual 30, 3) := by decide +kernel
theorem dX2_build_40 : decode cX2_build 40 = .ok (.iinc 4 1, 3) := by decide +kernel
theorem dX2_build_43 : decode cX2_build 43 = .ok (.goto (-27), 3) := by decide +kernel
theorem dX2_build_46 : decode cX2_build 46 = .ok (.iconst 0, 1) := by decide +kernel
theorem dX2_build_47 : decode cX2_build 47 = .ok (.istore_n 2, 1) := by decide +kernel
theorem dX2_build_48 : decode cX2_build 48 = .ok (.iload_n 2, 1) := by decide +kernel
theorem dX2_build_49 : decode cX2_build 49 = .ok (.aload_n 0, 1) := by decide +kernel
theorem dX2_build_50 : decode cX2_build 50 = .ok (.getfield 23, 3) := by decide +kernel
theorem dX2_build_53 : decode cX2_build 53 = .ok (.if_icmp .ge 14, 3) := by decide +kernel
theorem dX2_build_56 : decode cX2_build 56 = .ok (.aload_n 0, 1) := by decide +kernel
theorem dX2_build_57 : decode cX2_build 57 = .ok (.iload_n 2, 1) := by decide +kernel
theorem dX2_build_58 : decode cX2_build 58 = .ok (.invokevirtual 34, 3) := by decide +kernel
theorem dX2_build_61 : decode cX2_build 61 = .ok (.iinc 2 1, 3) := by decide +kernel
theorem dX2_build_64 : decode cX2_build 64 = .ok (.goto (-16), 3) := by decide +kernel
theorem dX2_build_67 : decode cX2_build 67 = .ok (.return_, 1) := by decide +kernel
theorem dX2_add_0 : decode cX2_add 0 = .ok (.aload_n 0, 1) := by decide +kernel
theorem dX2_add_1 : decode cX2_add 1 = .ok (.iload_n 1, 1) := by decide +kernel
theorem dX2_add_2 : decode cX2_add 2 = .ok (.invokevirtual 37, 3) := by decide +kernel
theorem dX2_add_5 : decode cX2_add 5 = .ok (.istore_n 2, 1) := by decide +kernel
theorem dX2_add_6 : decode cX2_add 6 = .ok (.iload_n 2, 1) := by decide +kernel
theorem dX2_add_7 : decode cX2_add 7 = .ok (.aload_n 0, 1) := by decide +kernel
theorem dX2_add_8 : decode cX2_add 8 = .ok (.getfield 23, 3) := by decide +kernel
theorem dX2_add_11 : decode cX2_add 11 = .ok (.if_icmp .ge 24, 3) := by decide +kernel
theorem dX2_add_14 : decode cX2_add 14 = .ok (.aload_n 0, 1) := by decide +kernel
theorem dX2_add_15 : decode cX2_add 15 = .ok (.getfield 9, 3) := by decide +kernel
theorem dX2_add_18 : decode cX2_add 18 = .ok (.iload_n 2, 1) := by decide +kernel
theorem dX2_add_19 : decode cX2_add 19 = .ok (.iaload, 1) := by decide +kernel
theorem dX2_add_20 : decode cX2_add 20 = .ok (.iload_n 1, 1) := by decide +kernel
theorem dX2_add_21 : decode cX2_add 21 = .ok (.if_icmp .ne 14, 3) := by decide +kernel
theorem dX2_add_24 : decode cX2_add 24 = .ok (.aload_n 0, 1) := by decide +kernel
theorem dX2_add_25 : decode cX2_add 25 = .ok (.getfield 15, 3) := by decide +kernel
theorem dX2_add_28 : decode cX2_add 28 = .ok (.iload_n 2, 1) := by decide +kernel
theorem dX2_add_29 : decode cX2_add 29 = .ok (.dup2, 1) := by decide +kernel
theorem dX2_add_30 : decode cX2_add 30 = .ok (.iaload, 1) := by decide +kernel
theorem dX2_add_31 : decode cX2_add 31 = .ok (.iconst 1, 1) := by decide +kernel
theorem dX2_add_32 : decode cX2_add 32 = .ok (.iadd, 1) := by decide +kernel
theorem dX2_add_33 : decode cX2_add 33 = .ok (.iastore, 1) := by decide +kernel
theorem dX2_add_34 : decode cX2_add 34 = .ok (.return_, 1) := by decide +kernel
theorem dX2_add_35 : decode cX2_add 35 = .ok (.aload_n 0, 1) := by decide +kernel
theorem dX2_add_36 : decode cX2_add 36 = .ok (.getfield 23, 3) := by decide +kernel
theorem dX2_add_39 : decode cX2_add 39 = .ok (.bipush 24, 2) := by decide +kernel
theorem dX2_add_41 : decode cX2_add 41 = .ok (.if_icmp .lt 4, 3) := by decide +kernel
theorem dX2_add_44 : decode cX2_add 44 = .ok (.return_, 1) := by decide +kernel
theorem dX2_add_45 : decode cX2_add 45 = .ok (.aload_n 0, 1) := by decide +kernel
theorem dX2_add_46 : decode cX2_add 46 = .ok (.getfield 9, 3) := by decide +kernel
theorem dX2_add_49 : decode cX2_add 49 = .ok (.iload_n 2, 1) := by decide +kernel
theorem dX2_add_50 : decode cX2_add 50 = .ok (.aload_n 0, 1) := by decide +kernel
theorem dX2_add_51 : decode cX2_add 51 = .ok (.getfield 9, 3) := by decide +kernel
theorem dX2_add_54 : decode cX2_add 54 = .ok (.iload_n 2, 1) := by decide +kernel
theorem dX2_add_55 : decode cX2_add 55 = .ok (.iconst 1, 1) := by decide +kernel
theorem dX2_add_56 : decode cX2_add 56 = .ok (.iadd, 1) := by decide +kernel
theorem dX2_add_57 : decode cX2_add 57 = .ok (.aload_n 0, 1) := by decide +kernel
theorem dX2_add_58 : decode cX2_add 58 = .ok (.getfield 23, 3) := by decide +kernel
theorem dX2_add_61 : decode cX2_add 61 = .ok (.iload_n 2, 1) := by decide +kernel
theorem dX2_add_62 : decode cX2_add 62 = .ok (.isub, 1) := by decide +kernel
theorem dX2_add_63 : decode cX2_add 63 = .ok (.invokestatic 41, 3) := by decide +kernel
theorem dX2_add_66 : decode cX2_add 66 = .ok (.aload_n 0, 1) := by decide +kernel
theorem dX2_add_67 : decode cX2_add 67 = .ok (.getfield 15, 3) := by decide +kernel
theorem dX2_add_70 : decode cX2_add 70 = .ok (.iload_n 2, 1) := by decide +kernel
theorem dX2_add_71 : decode cX2_add 71 = .ok (.aload_n 0, 1) := by decide +kernel
theorem dX2_add_72 : decode cX2_add 72 = .ok (.getfield 15, 3) := by decide +kernel
theorem dX2_add_75 : decode cX2_add 75 = .ok (.iload_n 2, 1) := by decide +kernel
theorem dX2_add_76 : decode cX2_add 76 = .ok (.iconst 1, 1) := by decide +kernel
theorem dX2_add_77 : decode cX2_add 77 = .ok (.iadd, 1) := by decide +kernel
theorem dX2_add_78 : decode cX2_add 78 = .ok (.aload_n 0, 1) := by decide +kernel
theorem dX2_add_79 : decode cX2_add 79 = .ok (.getfield 23, 3) := by decide +kernel
theorem dX2_add_82 : decode cX2_add 82 = .ok (.iload_n 2, 1) := by decide +kernel
theorem dX2_add_83 : decode cX2_add 83 = .ok (.isub, 1) := by decide +kernel
theorem dX2_add_84 : decode cX2_add 84 = .ok (.invokestatic 41, 3) := by decide +kernel
theorem dX2_add_87 : decode cX2_add 87 = .ok (.aload_n 0, 1) := by decide +kernel
theorem dX2_add_88 : decode cX2_add 88 = .ok (.getfield 9, 3) := by decide +kernel
theorem dX2_add_91 : decode cX2_add 91 = .ok (.iload_n 2, 1) := by decide +kernel
theorem dX2_add_92 : decode cX2_add 92 = .ok (.iload_n 1, 1) := by decide +kernel
theorem dX2_add_93 : decode cX2_add 93 = .ok (.iastore, 1) := by decide +kernel
theorem dX2_add_94 : decode cX2_add 94 = .ok (.aload_n 0, 1) := by decide +kernel
theorem dX2_add_95 : decode cX2_add 95 = .ok (.getfield 15, 3) := by decide +kernel
theorem dX2_add_98 : decode cX2_add 98 = .ok (.iload_n 2, 1) := by decide +kernel
theorem dX2_add_99 : decode cX2_add 99 = .ok (.iconst 1, 1) := by decide +kernel
theorem dX2_add_100 : decode cX2_add 100 = .ok (.iastore, 1) := by decide +kernel
theorem dX2_add_101 : decode cX2_add 101 = .ok (.aload_n 0, 1) := by decide +kernel
theorem dX2_add_102 : decode cX2_add 102 = .ok (.dup, 1) := by decide +kernel
theorem dX2_add_103 : decode cX2_add 103 = .ok (.getfield 23, 3) := by decide +kernel
theorem dX2_add_106 : decode cX2_add 106 = .ok (.iconst 1, 1) := by decide +kernel
theorem dX2_add_107 : decode cX2_add 107 = .ok (.iadd, 1) := by decide +kernel
theorem dX2_add_108 : decode cX2_add 108 = .ok (.putfield 23, 3) := by decide +kernel
theorem dX2_add_111 : decode cX2_add 111 = .ok (.return_, 1) := by decide +kernel
theorem dX2_measureFrom_0 : decode cX2_measureFrom 0 = .ok (.lconst 0, 1) := by decide +kernel
theorem dX2_measureFrom_1 : decode cX2_measureFrom 1 = .ok (.lstore_n 2, 1) := by decide +kernel
theorem dX2_measureFrom_2 : decode cX2_measureFrom 2 = .ok (.lconst 0, 1) := by decide +kernel
theorem dX2_measureFrom_3 : decode cX2_measureFrom 3 = .ok (.lstore 4, 2) := by decide +kernel
theorem dX2_measureFrom_5 : decode cX2_measureFrom 5 = .ok (.lconst 0, 1) := by decide +kernel
theorem dX2_measureFrom_6 : decode cX2_measureFrom 6 = .ok (.lstore 6, 2) := by decide +kernel
theorem dX2_measureFrom_8 : decode cX2_measureFrom 8 = .ok (.iload_n 1, 1) := by decide +kernel
theorem dX2_measureFrom_9 : decode cX2_measureFrom 9 = .ok (.istore 8, 2) := by decide +kernel
theorem dX2_measureFrom_11 : decode cX2_measureFrom 11 = .ok (.iload 8, 2) := by decide +kernel
theorem dX2_measureFrom_13 : decode cX2_measureFrom 13 = .ok (.aload_n 0, 1) := by decide +kernel
theorem dX2_measureFrom_14 : decode cX2_measureFrom 14 = .ok (.getfield 23, 3) := by decide +kernel
theorem dX2_measureFrom_17 : decode cX2_measureFrom 17 = .ok (.if_icmp .ge 106, 3) := by decide +kernel
theorem dX2_measureFrom_20 : decode cX2_measureFrom 20 = .ok (.lload_n 2, 1) := by decide +kernel
theorem dX2_measureFrom_21 : decode cX2_measureFrom 21 = .ok (.aload_n 0, 1) := by decide +kernel
theorem dX2_measureFrom_22 : decode cX2_measureFrom 22 = .ok (.getfield 15, 3) := by decide +kernel
theorem dX2_measureFrom_25 : decode cX2_measureFrom 25 = .ok (.iload 8, 2) := by decide +kernel
theorem dX2_measureFrom_27 : decode cX2_measureFrom 27 = .ok (.iaload, 1) := by decide +kernel
theorem dX2_measureFrom_28 : decode cX2_measureFrom 28 = .ok (.i2l, 1) := by decide +kernel
theorem dX2_measureFrom_29 : decode cX2_measureFrom 29 = .ok (.ladd, 1) := by decide +kernel
theorem dX2_measureFrom_30 : decode cX2_measureFrom 30 = .ok (.lstore_n 2, 1) := by decide +kernel
theorem dX2_measureFrom_31 : decode cX2_measureFrom 31 = .ok (.lload 4, 2) := by decide +kernel
theorem dX2_measureFrom_33 : decode cX2_measureFrom 33 = .ok (.aload_n 0, 1) := by decide +kernel
theorem dX2_measureFrom_34 : decode cX2_measureFrom 34 = .ok (.getfield 15, 3) := by decide +kernel
theorem dX2_measureFrom_37 : decode cX2_measureFrom 37 = .ok (.iload 8, 2) := by decide +kernel
theorem dX2_measureFrom_39 : decode cX2_measureFrom 39 = .ok (.iaload, 1) := by decide +kernel
theorem dX2_measureFrom_40 : decode cX2_measureFrom 40 = .ok (.i2l, 1) := by decide +kernel
theorem dX2_measureFrom_41 : decode cX2_measureFrom 41 = .ok (.aload_n 0, 1) := by decide +kernel
theorem dX2_measureFrom_42 : decode cX2_measureFrom 42 = .ok (.getfield 9, 3) := by decide +kernel
theorem dX2_measureFrom_45 : decode cX2_measureFrom 45 = .ok (.iload 8, 2) := by decide +kernel
theorem dX2_measureFrom_47 : decode cX2_measureFrom 47 = .ok (.iaload, 1) := by decide +kernel
theorem dX2_measureFrom_48 : decode cX2_measureFrom 48 = .ok (.i2l, 1) := by decide +kernel
theorem dX2_measureFrom_49 : decode cX2_measureFrom 49 = .ok (.lmul, 1) := by decide +kernel
theorem dX2_measureFrom_50 : decode cX2_measureFrom 50 = .ok (.ladd, 1) := by decide +kernel
theorem dX2_measureFrom_51 : decode cX2_measureFrom 51 = .ok (.lstore 4, 2) := by decide +kernel
theorem dX2_measureFrom_53 : decode cX2_measureFrom 53 = .ok (.lload 6, 2) := by decide +kernel
theorem dX2_measureFrom_55 : decode cX2_measureFrom 55 = .ok (.aload_n 0, 1) := by decide +kernel
theorem dX2_measureFrom_56 : decode cX2_measureFrom 56 = .ok (.getfield 15, 3) := by decide +kernel
theorem dX2_measureFrom_59 : decode cX2_measureFrom 59 = .ok (.iload 8, 2) := by decide +kernel
theorem dX2_measureFrom_61 : decode cX2_measureFrom 61 = .ok (.iaload, 1) := by decide +kernel
theorem dX2_measureFrom_62 : decode cX2_measureFrom 62 = .ok (.i2l, 1) := by decide +kernel
theorem dX2_measureFrom_63 : decode cX2_measureFrom 63 = .ok (.aload_n 0, 1) := by decide +kernel
theorem dX2_measureFrom_64 : decode cX2_measureFrom 64 = .ok (.getfield 9, 3) := by decide +kernel
theorem dX2_measureFrom_67 : decode cX2_measureFrom 67 = .ok (.iload 8, 2) := by decide +kernel
theorem dX2_measureFrom_69 : decode cX2_measureFrom 69 = .ok (.iaload, 1) := by decide +kernel
theorem dX2_measureFrom_70 : decode cX2_measureFrom 70 = .ok (.i2l, 1) := by decide +kernel
theorem dX2_measureFrom_71 : decode cX2_measureFrom 71 = .ok (.lmul, 1) := by decide +kernel
theorem dX2_measureFrom_72 : decode cX2_measureFrom 72 = .ok (.aload_n 0, 1) := by decide +kernel
theorem dX2_measureFrom_73 : decode cX2_measureFrom 73 = .ok (.getfield 9, 3) := by decide +kernel
theorem dX2_measureFrom_76 : decode cX2_measureFrom 76 = .ok (.iload 8, 2) := by decide +kernel
theorem dX2_measureFrom_78 : decode cX2_measureFrom 78 = .ok (.iaload, 1) := by decide +kernel
theorem dX2_measureFrom_79 : decode cX2_measureFrom 79 = .ok (.i2l, 1) := by decide +kernel
theorem dX2_measureFrom_80 : decode cX2_measureFrom 80 = .ok (.lmul, 1) := by decide +kernel
theorem dX2_measureFrom_81 : decode cX2_measureFrom 81 = .ok (.ladd, 1) := by decide +kernel
theorem dX2_measureFrom_82 : decode cX2_measureFrom 82 = .ok (.lstore 6, 2) := by decide +kernel
theorem dX2_measureFrom_84 : decode cX2_measureFrom 84 = .ok (.lload_n 2, 1) := by decide +kernel
theorem dX2_measureFrom_85 : decode cX2_measureFrom 85 = .ok (.lconst 0, 1) := by decide +kernel
theorem dX2_measureFrom_86 : decode cX2_measureFrom 86 = .ok (.lcmp, 1) := by decide +kernel
theorem dX2_measureFrom_87 : decode cX2_measureFrom 87 = .ok (.ifCond .le 30, 3) := by decide +kernel
theorem dX2_measureFrom_90 : decode cX2_measureFrom 90 = .ok (.aload_n 0, 1) := by decide +kernel
theorem dX2_measureFrom_91 : decode cX2_measureFrom 91 = .ok (.getfield 20, 3) := by decide +kernel
theorem dX2_measureFrom_94 : decode cX2_measureFrom 94 = .ok (.iload_n 1, 1) := by decide +kernel
theorem dX2_measureFrom_95 : decode cX2_measureFrom 95 = .ok (.aaload, 1) := by decide +kernel
theorem dX2_measureFrom_96 : decode cX2_measureFrom 96 = .ok (.iload 8, 2) := by decide +kernel
theorem dX2_measureFrom_98 : decode cX2_measureFrom 98 = .ok (.iconst 1, 1) := by decide +kernel
theorem dX2_measureFrom_99 : decode cX2_measureFrom 99 = .ok (.iadd, 1) := by decide +kernel
theorem dX2_measureFrom_100 : decode cX2_measureFrom 100 = .ok (.lload_n 2, 1) := by decide +kernel
theorem dX2_measureFrom_101 : decode cX2_measureFrom 101 = .ok (.lload 6, 2) := by decide +kernel
theorem dX2_measureFrom_103 : decode cX2_measureFrom 103 = .ok (.lmul, 1) := by decide +kernel
theorem dX2_measureFrom_104 : decode cX2_measureFrom 104 = .ok (.lload 4, 2) := by decide +kernel
theorem dX2_measureFrom_106 : decode cX2_measureFrom 106 = .ok (.lload 4, 2) := by decide +kernel
theorem dX2_measureFrom_108 : decode cX2_measureFrom 108 = .ok (.lmul, 1) := by decide +kernel
theorem dX2_measureFrom_109 : decode cX2_measureFrom 109 = .ok (.lsub, 1) := by decide +kernel
theorem dX2_measureFrom_110 : decode cX2_measureFrom 110 = .ok (.ldc2_w 47, 3) := by decide +kernel
theorem dX2_measureFrom_113 : decode cX2_measureFrom 113 = .ok (.lload_n 2, 1) := by decide +kernel
theorem dX2_measureFrom_114 : decode cX2_measureFrom 114 = .ok (.ldiv, 1) := by decide +kernel
theorem dX2_measureFrom_115 : decode cX2_measureFrom 115 = .ok (.lmul, 1) := by decide +kernel
theorem dX2_measureFrom_116 : decode cX2_measureFrom 116 = .ok (.lastore, 1) := by decide +kernel
theorem dX2_measureFrom_117 : decode cX2_measureFrom 117 = .ok (.iinc 8 1, 3) := by decide +kernel
theorem dX2_measureFrom_120 : decode cX2_measureFrom 120 = .ok (.goto (-109), 3) := by decide +kernel
theorem dX2_measureFrom_123 : decode cX2_measureFrom 123 = .ok (.return_, 1) := by decide +kernel
theorem dX2_rankOf_0 : decode cX2_rankOf 0 = .ok (.iconst 0, 1) := by decide +kernel
theorem dX2_rankOf_1 : decode cX2_rankOf 1 = .ok (.istore_n 2, 1) := by decide +kernel
theorem dX2_rankOf_2 : decode cX2_rankOf 2 = .ok (.iload_n 2, 1) := by decide +kernel
theorem dX2_rankOf_3 : decode cX2_rankOf 3 = .ok (.aload_n 0, 1) := by decide +kernel
theorem dX2_rankOf_4 : decode cX2_rankOf 4 = .ok (.getfield 23, 3) := by decide +kernel
theorem dX2_rankOf_7 : decode cX2_rankOf 7 = .ok (.if_icmp .ge 19, 3) := by decide +kernel
theorem dX2_rankOf_10 : decode cX2_rankOf 10 = .ok (.aload_n 0, 1) := by decide +kernel
theorem dX2_rankOf_11 : decode cX2_rankOf 11 = .ok (.getfield 9, 3) := by decide +kernel
theorem dX2_rankOf_14 : decode cX2_rankOf 14 = .ok (.iload_n 2, 1) := by decide +kernel
theorem dX2_rankOf_15 : decode cX2_rankOf 15 = .ok (.iaload, 1) := by decide +kernel
theorem dX2_rankOf_16 : decode cX2_rankOf 16 = .ok (.iload_n 1, 1) := by decide +kernel
theorem dX2_rankOf_17 : decode cX2_rankOf 17 = .ok (.if_icmp .ge 9, 3) := by decide +kernel
theorem dX2_rankOf_20 : decode cX2_rankOf 20 = .ok (.iinc 2 1, 3) := by decide +kernel
theorem dX2_rankOf_23 : decode cX2_rankOf 23 = .ok (.goto (-21), 3) := by decide +kernel
theorem dX2_rankOf_26 : decode cX2_rankOf 26 = .ok (.iload_n 2, 1) := by decide +kernel
theorem dX2_rankOf_27 : decode cX2_rankOf 27 = .ok (.ireturn, 1) := by decide +kernel
theorem dX2_numberAt_0 : decode cX2_numberAt 0 = .ok (.iload_n 1, 1) := by decide +kernel
theorem dX2_numberAt_1 : decode cX2_numberAt 1 = .ok (.ifCond .lt 20, 3) := by decide +kernel
theorem dX2_numberAt_4 : decode cX2_numberAt 4 = .ok (.iload_n 1, 1) := by decide +kernel
theorem dX2_numberAt_5 : decode cX2_numberAt 5 = .ok (.aload_n 0, 1) := by decide +kernel
theorem dX2_numberAt_6 : decode cX2_numberAt 6 = .ok (.getfield 23, 3) := by decide +kernel
theorem dX2_numberAt_9 : decode cX2_numberAt 9 = .ok (.if_icmp .ge 12, 3) := by decide +kernel
theorem dX2_numberAt_12 : decode cX2_numberAt 12 = .ok (.aload_n 0, 1) := by decide +kernel
theorem dX2_numberAt_13 : decode cX2_numberAt 13 = .ok (.getfield 9, 3) := by decide +kernel
theorem dX2_numberAt_16 : decode cX2_numberAt 16 = .ok (.iload_n 1, 1) := by decide +kernel
theorem dX2_numberAt_17 : decode cX2_numberAt 17 = .ok (.iaload, 1) := by decide +kernel
theorem dX2_numberAt_18 : decode cX2_numberAt 18 = .ok (.goto 5, 3) := by decide +kernel
theorem dX2_numberAt_21 : decode cX2_numberAt 21 = .ok (.bipush (-9), 2) := by decide +kernel
theorem dX2_numberAt_23 : decode cX2_numberAt 23 = .ok (.ireturn, 1) := by decide +kernel
theorem dX2_weightAt_0 : decode cX2_weightAt 0 = .ok (.iload_n 1, 1) := by decide +kernel
theorem dX2_weightAt_1 : decode cX2_weightAt 1 = .ok (.ifCond .lt 20, 3) := by decide +kernel
theorem dX2_weightAt_4 : decode cX2_weightAt 4 = .ok (.iload_n 1, 1) := by decide +kernel
theorem dX2_weightAt_5 : decode cX2_weightAt 5 = .ok (.aload_n 0, 1) := by decide +kernel
theorem dX2_weightAt_6 : decode cX2_weightAt 6 = .ok (.getfield 23, 3) := by decide +kernel
theorem dX2_weightAt_9 : decode cX2_weightAt 9 = .ok (.if_icmp .ge 12, 3) := by decide +kernel
theorem dX2_weightAt_12 : decode cX2_weightAt 12 = .ok (.aload_n 0, 1) := by decide +kernel
theorem dX2_weightAt_13 : decode cX2_weightAt 13 = .ok (.getfield 15, 3) := by decide +kernel
theorem dX2_weightAt_16 : decode cX2_weightAt 16 = .ok (.iload_n 1, 1) := by decide +kernel
theorem dX2_weightAt_17 : decode cX2_weightAt 17 = .ok (.iaload, 1) := by decide +kernel
theorem dX2_weightAt_18 : decode cX2_weightAt 18 = .ok (.goto 4, 3) := by decide +kernel
theorem dX2_weightAt_21 : decode cX2_weightAt 21 = .ok (.iconst 0, 1) := by decide +kernel
theorem dX2_weightAt_22 : decode cX2_weightAt 22 = .ok (.ireturn, 1) := by decide +kernel
theorem dX3_init_0 : decode cX3_init 0 = .ok (.aload_n 0, 1) := by decide +kernel
theorem dX3_init_1 : decode cX3_init 1 = .ok (.invokespecial 3, 3) := by decide +kernel
theorem dX3_init_4 : decode cX3_init 4 = .ok (.aload_n 0, 1) := by decide +kernel
theorem dX3_init_5 : decode cX3_init 5 = .ok (.bipush 7, 2) := by decide +kernel
theorem dX3_init_7 : decode cX3_init 7 = .ok (.bipush 25, 2) := by decide +kernel
theorem dX3_init_9 : decode cX3_init 9 = .ok (.multianewarray 9 2, 4) := by decide +kernel
theorem dX3_init_13 : decode cX3_init 13 = .ok (.putfield 11, 3) := by decide +kernel
theorem dX3_init_16 : decode cX3_init 16 = .ok (.aload_n 0, 1) := by decide +kernel
theorem dX3_init_17 : decode cX3_init 17 = .ok (.bipush 7, 2) := by decide +kernel
theorem dX3_init_19 : decode cX3_init 19 = .ok (.bipush 25, 2) := by decide +kernel
theorem dX3_init_21 : decode cX3_init 21 = .ok (.multianewarray 16 2, 4) := by decide +kernel
theorem dX3_init_25 : decode cX3_init 25 = .ok (.putfield 18, 3) := by decide +kernel
theorem dX3_init_28 : decode cX3_init 28 = .ok (.return_, 1) := by decide +kernel
theorem dX3_build_0 : decode cX3_build 0 = .ok (.iconst 1, 1) := by decide +kernel
theorem dX3_build_1 : decode cX3_build 1 = .ok (.istore_n 2, 1) := by decide +kernel
theorem dX3_build_2 : decode cX3_build 2 = .ok (.iload_n 2, 1) := by decide +kernel
theorem dX3_build_3 : decode cX3_build 3 = .ok (.aload_n 1, 1) := by decide +kernel
theorem dX3_build_4 : decode cX3_build 4 = .ok (.getfield 21, 3) := by decide +kernel
theorem dX3_build_7 : decode cX3_build 7 = .ok (.if_icmp .gt 34, 3) := by decide +kernel
theorem dX3_build_10 : decode cX3_build 10 = .ok (.aload_n 0, 1) := by decide +kernel
theorem dX3_build_11 : decode cX3_build 11 = .ok (.getfield 11, 3) := by decide +kernel
theorem dX3_build_14 : decode cX3_build 14 = .ok (.iconst 1, 1) := by decide +kernel
theorem dX3_build_15 : decode cX3_build 15 = .ok (.aaload, 1) := by decide +kernel
theorem dX3_build_16 : decode cX3_build 16 = .ok (.iload_n 2, 1) := by decide +kernel
theorem dX3_build_17 : decode cX3_build 17 = .ok (.aload_n 1, 1) := by decide +kernel
theorem dX3_build_18 : decode cX3_build 18 = .ok (.getfield 27, 3) := by decide +kernel
theorem dX3_build_21 : decode cX3_build 21 = .ok (.iconst 0, 1) := by decide +kernel
theorem dX3_build_22 : decode cX3_build 22 = .ok (.aaload, 1) := by decide +kernel
theorem dX3_build_23 : decode cX3_build 23 = .ok (.iload_n 2, 1) := by decide +kernel
theorem dX3_build_24 : decode cX3_build 24 = .ok (.laload, 1) := by decide +kernel
theorem dX3_build_25 : decode cX3_build 25 = .ok (.lastore, 1) := by decide +kernel
theorem dX3_build_26 : decode cX3_build 26 = .ok (.aload_n 0, 1) := by decide +kernel
theorem dX3_build_27 : decode cX3_build 27 = .ok (.getfield 18, 3) := by decide +kernel
theorem dX3_build_30 : decode cX3_build 30 = .ok (.iconst 1, 1) := by decide +kernel
theorem dX3_build_31 : decode cX3_build 31 = .ok (.aaload, 1) := by decide +kernel
theorem dX3_build_32 : decode cX3_build 32 = .ok (.iload_n 2, 1) := by decide +kernel
theorem dX3_build_33 : decode cX3_build 33 = .ok (.iconst 0, 1) := by decide +kernel
theorem dX3_build_34 : decode cX3_build 34 = .ok (.iastore, 1) := by decide +kernel
theorem dX3_build_35 : decode cX3_build 35 = .ok (.iinc 2 1, 3) := by decide +kernel
theorem dX3_build_38 : decode cX3_build 38 = .ok (.goto (-36), 3) := by decide +kernel
theorem dX3_build_41 : decode cX3_build 41 = .ok (.iconst 2, 1) := by decide +kernel
theorem dX3_build_42 : decode cX3_build 42 = .ok (.istore_n 2, 1) := by decide +kernel
theorem dX3_build_43 : decode cX3_build 43 = .ok (.iload_n 2, 1) := by decide +kernel
theorem dX3_build_44 : decode cX3_build 44 = .ok (.bipush 6, 2) := by decide +kernel
theorem dX3_build_46 : decode cX3_build 46 = .ok (.if_icmp .gt 32, 3) := by decide +kernel
theorem dX3_build_49 : decode cX3_build 49 = .ok (.iconst 1, 1) := by decide +kernel
theorem dX3_build_50 : decode cX3_build 50 = .ok (.istore_n 3, 1) := by decide +kernel
theorem dX3_build_51 : decode cX3_build 51 = .ok (.iload_n 3, 1) := by decide +kernel
theorem dX3_build_52 : decode cX3_build 52 = .ok (.aload_n 1, 1) := by decide +kernel
theorem dX3_build_53 : decode cX3_build 53 = .ok (.getfield 21, 3) := by decide +kernel
theorem dX3_build_56 : decode cX3_build 56 = .ok (.if_icmp .gt 16, 3) := by decide +kernel
theorem dX3_build_59 : decode cX3_build 59 = .ok (.aload_n 0, 1) := by decide +kernel
theorem dX3_build_60 : decode cX3_build 60 = .ok (.aload_n 1, 1) := by decide +kernel
theorem dX3_build_61 : decode cX3_build 61 = .ok (.iload_n 2, 1) := by decide +kernel
theorem dX3_build_62 : decode cX3_build 62 = .ok (.iload_n 3, 1) := by decide +kernel
theorem dX3_build_63 : decode cX3_build 63 = .ok (.invokevirtual 30, 3) := by decide +kernel
theorem dX3_build_66 : decode cX3_build 66 = .ok (.iinc 3 1, 3) := by decide +kernel
theorem dX3_build_69 : decode cX3_build 69 = .ok (.goto (-18), 3) := by decide +kernel
theorem dX3_build_72 : decode cX3_build 72 = .ok (.iinc 2 1, 3) := by decide +kernel
theorem dX3_build_75 : decode cX3_build 75 = .ok (.goto (-32), 3) := by decide +kernel
theorem dX3_build_78 : decode cX3_build 78 = .ok (.return_, 1) := by decide +kernel
theorem dX3_choose_0 : decode cX3_choose 0 = .ok (.ldc2_w 36, 3) := by decide +kernel
theorem dX3_choose_3 : decode cX3_choose 3 = .ok (.lstore 4, 2) := by decide +kernel
theorem dX3_choose_5 : decode cX3_choose 5 = .ok (.bipush (-9), 2) := by decide +kernel
theorem dX3_choose_7 : decode cX3_choose 7 = .ok (.istore 6, 2) := by decide +kernel
theorem dX3_choose_9 : decode cX3_choose 9 = .ok (.iload_n 2, 1) := by decide +kernel
theorem dX3_choose_10 : decode cX3_choose 10 = .ok (.iconst 1, 1) := by decide +kernel
theorem dX3_choose_11 : decode cX3_choose 11 = .ok (.isub, 1) := by decide +kernel
theorem dX3_choose_12 : decode cX3_choose 12 = .ok (.istore 7, 2) := by decide +kernel
theorem dX3_choose_14 : decode cX3_choose 14 = .ok (.iload 7, 2) := by decide +kernel
theorem dX3_choose_16 : decode cX3_choose 16 = .ok (.iload_n 3, 1) := by decide +kernel
theorem dX3_choose_17 : decode cX3_choose 17 = .ok (.if_icmp .ge 48, 3) := by decide +kernel
theorem dX3_choose_20 : decode cX3_choose 20 = .ok (.aload_n 0, 1) := by decide +kernel
theorem dX3_choose_21 : decode cX3_choose 21 = .ok (.getfield 11, 3) := by decide +kernel
theorem dX3_choose_24 : decode cX3_choose 24 = .ok (.iload_n 2, 1) := by decide +kernel
theorem dX3_choose_25 : decode cX3_choose 25 = .ok (.iconst 1, 1) := by decide +kernel
theorem dX3_choose_26 : decode cX3_choose 26 = .ok (.isub, 1) := by decide +kernel
theorem dX3_choose_27 : decode cX3_choose 27 = .ok (.aaload, 1) := by decide +kernel
theorem dX3_choose_28 : decode cX3_choose 28 = .ok (.iload 7, 2) := by decide +kernel
theorem dX3_choose_30 : decode cX3_choose 30 = .ok (.laload, 1) := by decide +kernel
theorem dX3_choose_31 : decode cX3_choose 31 = .ok (.aload_n 1, 1) := by decide +kernel
theorem dX3_choose_32 : decode cX3_choose 32 = .ok (.getfield 27, 3) := by decide +kernel
theorem dX3_choose_35 : decode cX3_choose 35 = .ok (.iload 7, 2) := by decide +kernel
theorem dX3_choose_37 : decode cX3_choose 37 = .ok (.aaload, 1) := by decide +kernel
theorem dX3_choose_38 : decode cX3_choose 38 = .ok (.iload_n 3, 1) := by decide +kernel
theorem dX3_choose_39 : decode cX3_choose 39 = .ok (.laload, 1) := by decide +kernel
theorem dX3_choose_40 : decode cX3_choose 40 = .ok (.ladd, 1) := by decide +kernel
theorem dX3_choose_41 : decode cX3_choose 41 = .ok (.lstore 8, 2) := by decide +kernel
theorem dX3_choose_43 : decode cX3_choose 43 = .ok (.lload 8, 2) := by decide +kernel
theorem dX3_choose_45 : decode cX3_choose 45 = .ok (.lload 4, 2) := by decide +kernel
theorem dX3_choose_47 : decode cX3_choose 47 = .ok (.lcmp, 1) := by decide +kernel
theorem dX3_choose_48 : decode cX3_choose 48 = .ok (.ifCond .ge 11, 3) := by decide +kernel
theorem dX3_choose_51 : decode cX3_choose 51 = .ok (.lload 8, 2) := by decide +kernel
theorem dX3_choose_53 : decode cX3_choose 53 = .ok (.lstore 4, 2) := by decide +kernel
theorem dX3_choose_55 : decode cX3_choose 55 = .ok (.iload 7, 2) := by decide +kernel
theorem dX3_choose_57 : decode cX3_choose 57 = .ok (.istore 6, 2) := by decide +kernel
theorem dX3_choose_59 : decode cX3_choose 59 = .ok (.iinc 7 1, 3) := by decide +kernel
theorem dX3_choose_62 : decode cX3_choose 62 = .ok (.goto (-48), 3) := by decide +kernel
theorem dX3_choose_65 : decode cX3_choose 65 = .ok (.aload_n 0, 1) := by decide +kernel
theorem dX3_choose_66 : decode cX3_choose 66 = .ok (.getfield 11, 3) := by decide +kernel
theorem dX3_choose_69 : decode cX3_choose 69 = .ok (.iload_n 2, 1) := by decide +kernel
theorem dX3_choose_70 : decode cX3_choose 70 = .ok (.aaload, 1) := by decide +kernel
theorem dX3_choose_71 : decode cX3_choose 71 = .ok (.iload_n 3, 1) := by decide +kernel
theorem dX3_choose_72 : decode cX3_choose 72 = .ok (.lload 4, 2) := by decide +kernel
theorem dX3_choose_74 : decode cX3_choose 74 = .ok (.lastore, 1) := by decide +kernel
theorem dX3_choose_75 : decode cX3_choose 75 = .ok (.aload_n 0, 1) := by decide +kernel
theorem dX3_choose_76 : decode cX3_choose 76 = .ok (.getfield 18, 3) := by decide +kernel
theorem dX3_choose_79 : decode cX3_choose 79 = .ok (.iload_n 2, 1) := by decide +kernel
theorem dX3_choose_80 : decode cX3_choose 80 = .ok (.aaload, 1) := by decide +kernel
theorem dX3_choose_81 : decode cX3_choose 81 = .ok (.iload_n 3, 1) := by decide +kernel
theorem dX3_choose_82 : decode cX3_choose 82 = .ok (.iload 6, 2) := by decide +kernel
theorem dX3_choose_84 : decode cX3_choose 84 = .ok (.iastore, 1) := by decide +kernel
theorem dX3_choose_85 : decode cX3_choose 85 = .ok (.return_, 1) := by decide +kernel
theorem dX4_init_0 : decode cX4_init 0 = .ok (.aload_n 0, 1) := by decide +kernel
theorem dX4_init_1 : decode cX4_init 1 = .ok (.invokespecial 3, 3) := by decide +kernel
theorem dX4_init_4 : decode cX4_init 4 = .ok (.aload_n 0, 1) := by decide +kernel
theorem dX4_init_5 : decode cX4_init 5 = .ok (.sipush 150, 3) := by decide +kernel
theorem dX4_init_8 : decode cX4_init 8 = .ok (.newarray .int, 2) := by decide +kernel
theorem dX4_init_10 : decode cX4_init 10 = .ok (.putfield 9, 3) := by decide +kernel
theorem dX4_init_13 : decode cX4_init 13 = .ok (.aload_n 0, 1) := by decide +kernel
theorem dX4_init_14 : decode cX4_init 14 = .ok (.new 15, 3) := by decide +kernel
theorem dX4_init_17 : decode cX4_init 17 = .ok (.dup, 1) := by decide +kernel
theorem dX4_init_18 : decode cX4_init 18 = .ok (.invokespecial 17, 3) := by decide +kernel
theorem dX4_init_21 : decode cX4_init 21 = .ok (.putfield 18, 3) := by decide +kernel
theorem dX4_init_24 : decode cX4_init 24 = .ok (.return_, 1) := by decide +kernel
theorem dX4_append_0 : decode cX4_append 0 = .ok (.aload_n 0, 1) := by decide +kernel
theorem dX4_append_1 : decode cX4_append 1 = .ok (.getfield 22, 3) := by decide +kernel
theorem dX4_append_4 : decode cX4_append 4 = .ok (.sipush 150, 3) := by decide +kernel
theorem dX4_append_7 : decode cX4_append 7 = .ok (.if_icmp .lt 5, 3) := by decide +kernel
theorem dX4_append_10 : decode cX4_append 10 = .ok (.iconst 0, 1) := by decide +kernel
theorem dX4_append_11 : decode cX4_append 11 = .ok (.ireturn, 1) := by decide +kernel
theorem dX4_append_12 : decode cX4_append 12 = .ok (.aload_n 0, 1) := by decide +kernel
theorem dX4_append_13 : decode cX4_append 13 = .ok (.getfield 9, 3) := by decide +kernel
theorem dX4_append_16 : decode cX4_append 16 = .ok (.aload_n 0, 1) := by decide +kernel
theorem dX4_append_17 : decode cX4_append 17 = .ok (.getfield 22, 3) := by decide +kernel
theorem dX4_append_20 : decode cX4_append 20 = .ok (.iload_n 1, 1) := by decide +kernel
theorem dX4_append_21 : decode cX4_append 21 = .ok (.iastore, 1) := by decide +kernel
theorem dX4_append_22 : decode cX4_append 22 = .ok (.aload_n 0, 1) := by decide +kernel
theorem dX4_append_23 : decode cX4_append 23 = .ok (.dup, 1) := by decide +kernel
theorem dX4_append_24 : decode cX4_append 24 = .ok (.getfield 22, 3) := by decide +kernel
theorem dX4_append_27 : decode cX4_append 27 = .ok (.iconst 1, 1) := by decide +kernel
theorem dX4_append_28 : decode cX4_append 28 = .ok (.iadd, 1) := by decide +kernel
theorem dX4_append_29 : decode cX4_append 29 = .ok (.putfield 22, 3) := by decide +kernel
theorem dX4_append_32 : decode cX4_append 32 = .ok (.iconst 1, 1) := by decide +kernel
theorem dX4_append_33 : decode cX4_append 33 = .ok (.ireturn, 1) := by decide +kernel
theorem dX4_read_0 : decode cX4_read 0 = .ok (.aload_n 0, 1) := by decide +kernel
theorem dX4_read_1 : decode cX4_read 1 = .ok (.invokevirtual 26, 3) := by decide +kernel
theorem dX4_read_4 : decode cX4_read 4 = .ok (.iconst 0, 1) := by decide +kernel
theorem dX4_read_5 : decode cX4_read 5 = .ok (.istore_n 1, 1) := by decide +kernel
theorem dX4_read_6 : decode cX4_read 6 = .ok (.iconst 0, 1) := by decide +kernel
theorem dX4_read_7 : decode cX4_read 7 = .ok (.istore_n 2, 1) := by decide +kernel
theorem dX4_read_8 : decode cX4_read 8 = .ok (.iload_n 2, 1) := by decide +kernel
theorem dX4_read_9 : decode cX4_read 9 = .ok (.sipush 150, 3) := by decide +kernel
theorem dX4_read_12 : decode cX4_read 12 = .ok (.if_icmp .ge 61, 3) := by decide +kernel
theorem dX4_read_15 : decode cX4_read 15 = .ok (.iload_n 1, 1) := by decide +kernel
theorem dX4_read_16 : decode cX4_read 16 = .ok (.aload_n 0, 1) := by decide +kernel
theorem dX4_read_17 : decode cX4_read 17 = .ok (.getfield 22, 3) := by decide +kernel
theorem dX4_read_20 : decode cX4_read 20 = .ok (.if_icmp .ge 53, 3) := by decide +kernel
theorem dX4_read_23 : decode cX4_read 23 = .ok (.aload_n 0, 1) := by decide +kernel
theorem dX4_read_24 : decode cX4_read 24 = .ok (.getfield 9, 3) := by decide +kernel
theorem dX4_read_27 : decode cX4_read 27 = .ok (.iload_n 1, 1) := by decide +kernel
theorem dX4_read_28 : decode cX4_read 28 = .ok (.iaload, 1) := by decide +kernel
theorem dX4_read_29 : decode cX4_read 29 = .ok (.bipush 32, 2) := by decide +kernel
theorem dX4_read_31 : decode cX4_read 31 = .ok (.if_icmp .ne 9, 3) := by decide +kernel
theorem dX4_read_34 : decode cX4_read 34 = .ok (.iinc 1 1, 3) := by decide +kernel
theorem dX4_read_37 : decode cX4_read 37 = .ok (.goto 30, 3) := by decide +kernel
theorem dX4_read_40 : decode cX4_read 40 = .ok (.aload_n 0, 1) := by decide +kernel
theorem dX4_read_41 : decode cX4_read 41 = .ok (.iload_n 1, 1) := by decide +kernel
theorem dX4_read_42 : decode cX4_read 42 = .ok (.invokevirtual 29, 3) := by decide +kernel
theorem dX4_read_45 : decode cX4_read 45 = .ok (.istore_n 3, 1) := by decide +kernel
theorem dX4_read_46 : decode cX4_read 46 = .ok (.iload_n 3, 1) := by decide +kernel
theorem dX4_read_47 : decode cX4_read 47 = .ok (.iload_n 1, 1) := by decide +kernel
theorem dX4_read_48 : decode cX4_read 48 = .ok (.if_icmp .eq 12, 3) := by decide +kernel
theorem dX4_read_51 : decode cX4_read 51 = .ok (.aload_n 0, 1) := by decide +kernel
theorem dX4_read_52 : decode cX4_read 52 = .ok (.iload_n 1, 1) := by decide +kernel
theorem dX4_read_53 : decode cX4_read 53 = .ok (.iload_n 3, 1) := by decide +kernel
theorem dX4_read_54 : decode cX4_read 54 = .ok (.invokevirtual 33, 3) := by decide +kernel
theorem dX4_read_57 : decode cX4_read 57 = .ok (.ifCond .ne 8, 3) := by decide +kernel
theorem dX4_read_60 : decode cX4_read 60 = .ok (.bipush (-10), 2) := by decide +kernel
theorem dX4_read_62 : decode cX4_read 62 = .ok (.iload_n 1, 1) := by decide +kernel
theorem dX4_read_63 : decode cX4_read 63 = .ok (.isub, 1) := by decide +kernel
theorem dX4_read_64 : decode cX4_read 64 = .ok (.ireturn, 1) := by decide +kernel
theorem dX4_read_65 : decode cX4_read 65 = .ok (.iload_n 3, 1) := by decide +kernel
theorem dX4_read_66 : decode cX4_read 66 = .ok (.istore_n 1, 1) := by decide +kernel
theorem dX4_read_67 : decode cX4_read 67 = .ok (.iinc 2 1, 3) := by decide +kernel
theorem dX4_read_70 : decode cX4_read 70 = .ok (.goto (-62), 3) := by decide +kernel
theorem dX4_read_73 : decode cX4_read 73 = .ok (.aload_n 0, 1) := by decide +kernel
theorem dX4_read_74 : decode cX4_read 74 = .ok (.getfield 37, 3) := by decide +kernel
theorem dX4_read_77 : decode cX4_read 77 = .ok (.ifCond .ne 10, 3) := by decide +kernel
theorem dX4_read_80 : decode cX4_read 80 = .ok (.aload_n 0, 1) := by decide +kernel
theorem dX4_read_81 : decode cX4_read 81 = .ok (.getfield 40, 3) := by decide +kernel
theorem dX4_read_84 : decode cX4_read 84 = .ok (.goto 10, 3) := by decide +kernel
theorem dX4_read_87 : decode cX4_read 87 = .ok (.bipush (-10), 2) := by decide +kernel
theorem dX4_read_89 : decode cX4_read 89 = .ok (.aload_n 0, 1) := by decide +kernel
theorem dX4_read_90 : decode cX4_read 90 = .ok (.getfield 22, 3) := by decide +kernel
theorem dX4_read_93 : decode cX4_read 93 = .ok (.isub, 1) := by decide +kernel
theorem dX4_read_94 : decode cX4_read 94 = .ok (.ireturn, 1) := by decide +kernel
theorem dX4_begin_0 : decode cX4_begin 0 = .ok (.aload_n 0, 1) := by decide +kernel
theorem dX4_begin_1 : decode cX4_begin 1 = .ok (.getfield 18, 3) := by decide +kernel
theorem dX4_begin_4 : decode cX4_begin 4 = .ok (.invokevirtual 43, 3) := by decide +kernel
theorem dX4_begin_7 : decode cX4_begin 7 = .ok (.aload_n 0, 1) := by decide +kernel
theorem dX4_begin_8 : decode cX4_begin 8 = .ok (.iconst 0, 1) := by decide +kernel
theorem dX4_begin_9 : decode cX4_begin 9 = .ok (.putfield 37, 3) := by decide +kernel
theorem dX4_begin_12 : decode cX4_begin 12 = .ok (.aload_n 0, 1) := by decide +kernel
theorem dX4_begin_13 : decode cX4_begin 13 = .ok (.iconst 0, 1) := by decide +kernel
theorem dX4_begin_14 : decode cX4_begin 14 = .ok (.putfield 40, 3) := by decide +kernel
theorem dX4_begin_17 : decode cX4_begin 17 = .ok (.aload_n 0, 1) := by decide +kernel
theorem dX4_begin_18 : decode cX4_begin 18 = .ok (.iconst 0, 1) := by decide +kernel
theorem dX4_begin_19 : decode cX4_begin 19 = .ok (.putfield 46, 3) := by decide +kernel
theorem dX4_begin_22 : decode cX4_begin 22 = .ok (.aload_n 0, 1) := by decide +kernel
theorem dX4_begin_23 : decode cX4_begin 23 = .ok (.iconst 0, 1) := by decide +kernel
theorem dX4_begin_24 : decode cX4_begin 24 = .ok (.putfield 49, 3) := by decide +kernel
theorem dX4_begin_27 : decode cX4_begin 27 = .ok (.aload_n 0, 1) := by decide +kernel
theorem dX4_begin_28 : decode cX4_begin 28 = .ok (.iconst 0, 1) := by decide +kernel
theorem dX4_begin_29 : decode cX4_begin 29 = .ok (.putfield 53, 3) := by decide +kernel
theorem dX4_begin_32 : decode cX4_begin 32 = .ok (.return_, 1) := by decide +kernel
theorem dX4_tokenEnd_0 : decode cX4_tokenEnd 0 = .ok (.aload_n 0, 1) := by decide +kernel
theorem dX4_tokenEnd_1 : decode cX4_tokenEnd 1 = .ok (.getfield 9, 3) := by decide +kernel
theorem dX4_tokenEnd_4 : decode cX4_tokenEnd 4 = .ok (.iload_n 1, 1) := by decide +kernel
theorem dX4_tokenEnd_5 : decode cX4_tokenEnd 5 = .ok (.iaload, 1) := by decide +kernel
theorem dX4_tokenEnd_6 : decode cX4_tokenEnd 6 = .ok (.bipush 59, 2) := by decide +kernel
theorem dX4_tokenEnd_8 : decode cX4_tokenEnd 8 = .ok (.if_icmp .ne 7, 3) := by decide +kernel
theorem dX4_tokenEnd_11 : decode cX4_tokenEnd 11 = .ok (.iload_n 1, 1) := by decide +kernel
theorem dX4_tokenEnd_12 : decode cX4_tokenEnd 12 = .ok (.iconst 1, 1) := by decide +kernel
theorem dX4_tokenEnd_13 : decode cX4_tokenEnd 13 = .ok (.iadd, 1) := by decide +kernel
theorem dX4_tokenEnd_14 : decode cX4_tokenEnd 14 = .ok (.ireturn, 1) := by decide +kernel
theorem dX4_tokenEnd_15 : decode cX4_tokenEnd 15 = .ok (.aload_n 0, 1) := by decide +kernel
theorem dX4_tokenEnd_16 : decode cX4_tokenEnd 16 = .ok (.getfield 9, 3) := by decide +kernel
theorem dX4_tokenEnd_19 : decode cX4_tokenEnd 19 = .ok (.iload_n 1, 1) := by decide +kernel
theorem dX4_tokenEnd_20 : decode cX4_tokenEnd 20 = .ok (.iaload, 1) := by decide +kernel
theorem dX4_tokenEnd_21 : decode cX4_tokenEnd 21 = .ok (.invokestatic 56, 3) := by decide +kernel
theorem dX4_tokenEnd_24 : decode cX4_tokenEnd 24 = .ok (.istore_n 2, 1) := by decide +kernel
theorem dX4_tokenEnd_25 : decode cX4_tokenEnd 25 = .ok (.iload_n 1, 1) := by decide +kernel
theorem dX4_tokenEnd_26 : decode cX4_tokenEnd 26 = .ok (.istore_n 3, 1) := by decide +kernel
theorem dX4_tokenEnd_27 : decode cX4_tokenEnd 27 = .ok (.iload_n 3, 1) := by decide +kernel
theorem dX4_tokenEnd_28 : decode cX4_tokenEnd 28 = .ok (.aload_n 0, 1) := by decide +kernel
theorem dX4_tokenEnd_29 : decode cX4_tokenEnd 29 = .ok (.getfield 22, 3) := by decide +kernel
theorem dX4_tokenEnd_32 : decode cX4_tokenEnd 32 = .ok (.if_icmp .ge 40, 3) := by decide +kernel
theorem dX4_tokenEnd_35 : decode cX4_tokenEnd 35 = .ok (.iload_n 2, 1) := by decide +kernel
theorem dX4_tokenEnd_36 : decode cX4_tokenEnd 36 = .ok (.ifCond .eq 18, 3) := by decide +kernel
theorem dX4_tokenEnd_39 : decode cX4_tokenEnd 39 = .ok (.aload_n 0, 1) := by decide +kernel
theorem dX4_tokenEnd_40 : decode cX4_tokenEnd 40 = .ok (.getfield 9, 3) := by decide +kernel
theorem dX4_tokenEnd_43 : decode cX4_tokenEnd 43 = .ok (.iload_n 3, 1) := by decide +kernel
theorem dX4_tokenEnd_44 : decode cX4_tokenEnd 44 = .ok (.iaload, 1) := by decide +kernel
theorem dX4_tokenEnd_45 : decode cX4_tokenEnd 45 = .ok (.invokestatic 56, 3) := by decide +kernel
theorem dX4_tokenEnd_48 : decode cX4_tokenEnd 48 = .ok (.ifCond .eq 24, 3) := by decide +kernel
theorem dX4_tokenEnd_51 : decode cX4_tokenEnd 51 = .ok (.goto 15, 3) := by decide +kernel
theorem dX4_tokenEnd_54 : decode cX4_tokenEnd 54 = .ok (.aload_n 0, 1) := by decide +kernel
theorem dX4_tokenEnd_55 : decode cX4_tokenEnd 55 = .ok (.getfield 9, 3) := by decide +kernel
theorem dX4_tokenEnd_58 : decode cX4_tokenEnd 58 = .ok (.iload_n 3, 1) := by decide +kernel
theorem dX4_tokenEnd_59 : decode cX4_tokenEnd 59 = .ok (.iaload, 1) := by decide +kernel
theorem dX4_tokenEnd_60 : decode cX4_tokenEnd 60 = .ok (.invokestatic 60, 3) := by decide +kernel
theorem dX4_tokenEnd_63 : decode cX4_tokenEnd 63 = .ok (.ifCond .eq 9, 3) := by decide +kernel
theorem dX4_tokenEnd_66 : decode cX4_tokenEnd 66 = .ok (.iinc 3 1, 3) := by decide +kernel
theorem dX4_tokenEnd_69 : decode cX4_tokenEnd 69 = .ok (.goto (-42), 3) := by decide +kernel
theorem dX4_tokenEnd_72 : decode cX4_tokenEnd 72 = .ok (.iload_n 3, 1) := by decide +kernel
theorem dX4_tokenEnd_73 : decode cX4_tokenEnd 73 = .ok (.ireturn, 1) := by decide +kernel
theorem dX4_takes_0 : decode cX4_takes 0 = .ok (.aload_n 0, 1) := by decide +kernel
theorem dX4_takes_1 : decode cX4_takes 1 = .ok (.getfield 9, 3) := by decide +kernel
theorem dX4_takes_4 : decode cX4_takes 4 = .ok (.iload_n 1, 1) := by decide +kernel
theorem dX4_takes_5 : decode cX4_takes 5 = .ok (.iaload, 1) := by decide +kernel
theorem dX4_takes_6 : decode cX4_takes 6 = .ok (.invokestatic 56, 3) := by decide +kernel
theorem dX4_takes_9 : decode cX4_takes 9 = .ok (.ifCond .eq 36, 3) := by decide +kernel
theorem dX4_takes_12 : decode cX4_takes 12 = .ok (.aload_n 0, 1) := by decide +kernel
theorem dX4_takes_13 : decode cX4_takes 13 = .ok (.getfield 37, 3) := by decide +kernel
theorem dX4_takes_16 : decode cX4_takes 16 = .ok (.ifCond .ne 27, 3) := by decide +kernel
theorem dX4_takes_19 : decode cX4_takes 19 = .ok (.iload_n 2, 1) := by decide +kernel
theorem dX4_takes_20 : decode cX4_takes 20 = .ok (.iload_n 1, 1) := by decide +kernel
theorem dX4_takes_21 : decode cX4_takes 21 = .ok (.iconst 1, 1) := by decide +kernel
theorem dX4_takes_22 : decode cX4_takes 22 = .ok (.iadd, 1) := by decide +kernel
theorem dX4_takes_23 : decode cX4_takes 23 = .ok (.if_icmp .ne 20, 3) := by decide +kernel
theorem dX4_takes_26 : decode cX4_takes 26 = .ok (.aload_n 0, 1) := by decide +kernel
theorem dX4_takes_27 : decode cX4_takes 27 = .ok (.aload_n 0, 1) := by decide +kernel
theorem dX4_takes_28 : decode cX4_takes 28 = .ok (.getfield 9, 3) := by decide +kernel
theorem dX4_takes_31 : decode cX4_takes 31 = .ok (.iload_n 1, 1) := by decide +kernel
theorem dX4_takes_32 : decode cX4_takes 32 = .ok (.iaload, 1) := by decide +kernel
theorem dX4_takes_33 : decode cX4_takes 33 = .ok (.invokevirtual 63, 3) := by decide +kernel
theorem dX4_takes_36 : decode cX4_takes 36 = .ok (.ifCond .eq 7, 3) := by decide +kernel
theorem dX4_takes_39 : decode cX4_takes 39 = .ok (.iconst 1, 1) := by decide +kernel
theorem dX4_takes_40 : decode cX4_takes 40 = .ok (.goto 4, 3) := by decide +kernel
theorem dX4_takes_43 : decode cX4_takes 43 = .ok (.iconst 0, 1) := by decide +kernel
theorem dX4_takes_44 : decode cX4_takes 44 = .ok (.ireturn, 1) := by decide +kernel
theorem dX4_takes_45 : decode cX4_takes 45 = .ok (.aload_n 0, 1) := by decide +kernel
theorem dX4_takes_46 : decode cX4_takes 46 = .ok (.getfield 9, 3) := by decide +kernel
theorem dX4_takes_49 : decode cX4_takes 49 = .ok (.iload_n 1, 1) := by decide +kernel
theorem dX4_takes_50 : decode cX4_takes 50 = .ok (.iaload, 1) := by decide +kernel
theorem dX4_takes_51 : decode cX4_takes 51 = .ok (.invokestatic 60, 3) := by decide +kernel
theorem dX4_takes_54 : decode cX4_takes 54 = .ok (.ifCond .eq 14, 3) := by decide +kernel
theorem dX4_takes_57 : decode cX4_takes 57 = .ok (.aload_n 0, 1) := by decide +kernel
theorem dX4_takes_58 : decode cX4_takes 58 = .ok (.aload_n 0, 1) := by decide +kernel
theorem dX4_takes_59 : decode cX4_takes 59 = .ok (.iload_n 1, 1) := by decide +kernel
theorem dX4_takes_60 : decode cX4_takes 60 = .ok (.iload_n 2, 1) := by decide +kernel
theorem dX4_takes_61 : decode cX4_takes 61 = .ok (.invokevirtual 66, 3) := by decide +kernel
theorem dX4_takes_64 : decode cX4_takes 64 = .ok (.invokevirtual 70, 3) := by decide +kernel
theorem dX4_takes_67 : decode cX4_takes 67 = .ok (.ireturn, 1) := by decide +kernel
theorem dX4_takes_68 : decode cX4_takes 68 = .ok (.aload_n 0, 1) := by decide +kernel
theorem dX4_takes_69 : decode cX4_takes 69 = .ok (.invokevirtual 73, 3) := by decide +kernel
theorem dX4_takes_72 : decode cX4_takes 72 = .ok (.ireturn, 1) := by decide +kernel
theorem dX4_takesLetter_0 : decode cX4_takesLetter 0 = .ok (.iload_n 1, 1) := by decide +kernel
theorem dX4_takesLetter_1 : decode cX4_takesLetter 1 = .ok (.lookupswitch 50 #[(99, 45), (107, 40), (112, 35)], 35) := by decide +kernel
theorem dX4_takesLetter_36 : decode cX4_takesLetter 36 = .ok (.aload_n 0, 1) := by decide +kernel
theorem dX4_takesLetter_37 : decode cX4_takesLetter 37 = .ok (.invokevirtual 77, 3) := by decide +kernel
theorem dX4_takesLetter_40 : decode cX4_takesLetter 40 = .ok (.ireturn, 1) := by decide +kernel
theorem dX4_takesLetter_41 : decode cX4_takesLetter 41 = .ok (.aload_n 0, 1) := by decide +kernel
theorem dX4_takesLetter_42 : decode cX4_takesLetter 42 = .ok (.invokevirtual 80, 3) := by decide +kernel
theorem dX4_takesLetter_45 : decode cX4_takesLetter 45 = .ok (.ireturn, 1) := by decide +kernel
theorem dX4_takesLetter_46 : decode cX4_takesLetter 46 = .ok (.aload_n 0, 1) := by decide +kernel
theorem dX4_takesLetter_47 : decode cX4_takesLetter 47 = .ok (.invokevirtual 83, 3) := by decide +kernel
theorem dX4_takesLetter_50 : decode cX4_takesLetter 50 = .ok (.ireturn, 1) := by decide +kernel
theorem dX4_takesLetter_51 : decode cX4_takesLetter 51 = .ok (.iconst 0, 1) := by decide +kernel
theorem dX4_takesLetter_52 : decode cX4_takesLetter 52 = .ok (.ireturn, 1) := by decide +kernel
theorem dX4_beginsPlace_0 : decode cX4_beginsPlace 0 = .ok (.aload_n 0, 1) := by decide +kernel
theorem dX4_beginsPlace_1 : decode cX4_beginsPlace 1 = .ok (.getfield 46, 3) := by decide +kernel
theorem dX4_beginsPlace_4 : decode cX4_beginsPlace 4 = .ok (.bipush 24, 2) := by decide +kernel
theorem dX4_beginsPlace_6 : decode cX4_beginsPlace 6 = .ok (.if_icmp .lt 5, 3) := by decide +kernel
theorem dX4_beginsPlace_9 : decode cX4_beginsPlace 9 = .ok (.iconst 0, 1) := by decide +kernel
theorem dX4_beginsPlace_10 : decode cX4_beginsPlace 10 = .ok (.ireturn, 1) := by decide +kernel
theorem dX4_beginsPlace_11 : decode cX4_beginsPlace 11 = .ok (.aload_n 0, 1) := by decide +kernel
theorem dX4_beginsPlace_12 : decode cX4_beginsPlace 12 = .ok (.dup, 1) := by decide +kernel
theorem dX4_beginsPlace_13 : decode cX4_beginsPlace 13 = .ok (.getfield 46, 3) := by decide +kernel
theorem dX4_beginsPlace_16 : decode cX4_beginsPlace 16 = .ok (.iconst 1, 1) := by decide +kernel
theorem dX4_beginsPlace_17 : decode cX4_beginsPlace 17 = .ok (.iadd, 1) := by decide +kernel
theorem dX4_beginsPlace_18 : decode cX4_beginsPlace 18 = .ok (.putfield 46, 3) := by decide +kernel
theorem dX4_beginsPlace_21 : decode cX4_beginsPlace 21 = .ok (.aload_n 0, 1) := by decide +kernel
theorem dX4_beginsPlace_22 : decode cX4_beginsPlace 22 = .ok (.iconst 1, 1) := by decide +kernel
theorem dX4_beginsPlace_23 : decode cX4_beginsPlace 23 = .ok (.putfield 37, 3) := by decide +kernel
theorem dX4_beginsPlace_26 : decode cX4_beginsPlace 26 = .ok (.iconst 1, 1) := by decide +kernel
theorem dX4_beginsPlace_27 : decode cX4_beginsPlace 27 = .ok (.ireturn, 1) := by decide +kernel
theorem dX4_beginsClasses_0 : decode cX4_beginsClasses 0 = .ok (.aload_n 0, 1) := by decide +kernel
theorem dX4_beginsClasses_1 : decode cX4_beginsClasses 1 = .ok (.getfield 49, 3) := by decide +kernel
theorem dX4_beginsClasses_4 : decode cX4_beginsClasses 4 = .ok (.ifCond .eq 5, 3) := by decide +kernel
theorem dX4_beginsClasses_7 : decode cX4_beginsClasses 7 = .ok (.iconst 0, 1) := by decide +kernel
theorem dX4_beginsClasses_8 : decode cX4_beginsClasses 8 = .ok (.ireturn, 1) := by decide +kernel
theorem dX4_beginsClasses_9 : decode cX4_beginsClasses 9 = .ok (.aload_n 0, 1) := by decide +kernel
theorem dX4_beginsClasses_10 : decode cX4_beginsClasses 10 = .ok (.iconst 1, 1) := by decide +kernel
theorem dX4_beginsClasses_11 : decode cX4_beginsClasses 11 = .ok (.putfield 49, 3) := by decide +kernel
theorem dX4_beginsClasses_14 : decode cX4_beginsClasses 14 = .ok (.aload_n 0, 1) := by decide +kernel
theorem dX4_beginsClasses_15 : decode cX4_beginsClasses 15 = .ok (.iconst 4, 1) := by decide +kernel
theorem dX4_beginsClasses_16 : decode cX4_beginsClasses 16 = .ok (.putfield 37, 3) := by decide +kernel
theorem dX4_beginsClasses_19 : decode cX4_beginsClasses 19 = .ok (.iconst 1, 1) := by decide +kernel
theorem dX4_beginsClasses_20 : decode cX4_beginsClasses 20 = .ok (.ireturn, 1) := by decide +kernel
theorem dX4_beginsCost_0 : decode cX4_beginsCost 0 = .ok (.aload_n 0, 1) := by decide +kernel
theorem dX4_beginsCost_1 : decode cX4_beginsCost 1 = .ok (.getfield 53, 3) := by decide +kernel
theorem dX4_beginsCost_4 : decode cX4_beginsCost 4 = .ok (.ifCond .eq 5, 3) := by decide +kernel
theorem dX4_beginsCost_7 : decode cX4_beginsCost 7 = .ok (.iconst 0, 1) := by decide +kernel
theorem dX4_beginsCost_8 : decode cX4_beginsCost 8 = .ok (.ireturn, 1) := by decide +kernel
theorem dX4_beginsCost_9 : decode cX4_beginsCost 9 = .ok (.aload_n 0, 1) := by decide +kernel
theorem dX4_beginsCost_10 : decode cX4_beginsCost 10 = .ok (.iconst 1, 1) := by decide +kernel
theorem dX4_beginsCost_11 : decode cX4_beginsCost 11 = .ok (.putfield 53, 3) := by decide +kernel
theorem dX4_beginsCost_14 : decode cX4_beginsCost 14 = .ok (.aload_n 0, 1) := by decide +kernel
theorem dX4_beginsCost_15 : decode cX4_beginsCost 15 = .ok (.iconst 5, 1) := by decide +kernel
theorem dX4_beginsCost_16 : decode cX4_beginsCost 16 = .ok (.putfield 37, 3) := by decide +kernel
theorem dX4_beginsCost_19 : decode cX4_beginsCost 19 = .ok (.iconst 1, 1) := by decide +kernel
theorem dX4_beginsCost_20 : decode cX4_beginsCost 20 = .ok (.ireturn, 1) := by decide +kernel
theorem dX4_numeral_0 : decode cX4_numeral 0 = .ok (.iload_n 2, 1) := by decide +kernel
theorem dX4_numeral_1 : decode cX4_numeral 1 = .ok (.iload_n 1, 1) := by decide +kernel
theorem dX4_numeral_2 : decode cX4_numeral 2 = .ok (.isub, 1) := by decide +kernel
theorem dX4_numeral_3 : decode cX4_numeral 3 = .ok (.iconst 3, 1) := by decide +kernel
theorem dX4_numeral_4 : decode cX4_numeral 4 = .ok (.if_icmp .gt 21, 3) := by decide +kernel
theorem dX4_numeral_7 : decode cX4_numeral 7 = .ok (.aload_n 0, 1) := by decide +kernel
theorem dX4_numeral_8 : decode cX4_numeral 8 = .ok (.getfield 9, 3) := by decide +kernel
theorem dX4_numeral_11 : decode cX4_numeral 11 = .ok (.iload_n 1, 1) := by decide +kernel
theorem dX4_numeral_12 : decode cX4_numeral 12 = .ok (.iaload, 1) := by decide +kernel
theorem dX4_numeral_13 : decode cX4_numeral 13 = .ok (.bipush 48, 2) := by decide +kernel
theorem dX4_numeral_15 : decode cX4_numeral 15 = .ok (.if_icmp .ne 12, 3) := by decide +kernel
theorem dX4_numeral_18 : decode cX4_numeral 18 = .ok (.iload_n 2, 1) := by decide +kernel
theorem dX4_numeral_19 : decode cX4_numeral 19 = .ok (.iload_n 1, 1) := by decide +kernel
theorem dX4_numeral_20 : decode cX4_numeral 20 = .ok (.isub, 1) := by decide +kernel
theorem dX4_numeral_21 : decode cX4_numeral 21 = .ok (.iconst 1, 1) := by decide +kernel
theorem dX4_numeral_22 : decode cX4_numeral 22 = .ok (.if_icmp .le 5, 3) := by decide +kernel
theorem dX4_numeral_25 : decode cX4_numeral 25 = .ok (.iconst (-1), 1) := by decide +kernel
theorem dX4_numeral_26 : decode cX4_numeral 26 = .ok (.ireturn, 1) := by decide +kernel
theorem dX4_numeral_27 : decode cX4_numeral 27 = .ok (.iconst 0, 1) := by decide +kernel
theorem dX4_numeral_28 : decode cX4_numeral 28 = .ok (.istore_n 3, 1) := by decide +kernel
theorem dX4_numeral_29 : decode cX4_numeral 29 = .ok (.iload_n 1, 1) := by decide +kernel
theorem dX4_numeral_30 : decode cX4_numeral 30 = .ok (.istore 4, 2) := by decide +kernel
theorem dX4_numeral_32 : decode cX4_numeral 32 = .ok (.iload 4, 2) := by decide +kernel
theorem dX4_numeral_34 : decode cX4_numeral 34 = .ok (.iload_n 2, 1) := by decide +kernel
theorem dX4_numeral_35 : decode cX4_numeral 35 = .ok (.if_icmp .ge 25, 3) := by decide +kernel
theorem dX4_numeral_38 : decode cX4_numeral 38 = .ok (.iload_n 3, 1) := by decide +kernel
theorem dX4_numeral_39 : decode cX4_numeral 39 = .ok (.bipush 10, 2) := by decide +kernel
theorem dX4_numeral_41 : decode cX4_numeral 41 = .ok (.imul, 1) := by decide +kernel
theorem dX4_numeral_42 : decode cX4_numeral 42 = .ok (.aload_n 0, 1) := by decide +kernel
theorem dX4_numeral_43 : decode cX4_numeral 43 = .ok (.getfield 9, 3) := by decide +kernel
theorem dX4_numeral_46 : decode cX4_numeral 46 = .ok (.iload 4, 2) := by decide +kernel
theorem dX4_numeral_48 : decode cX4_numeral 48 = .ok (.iaload, 1) := by decide +kernel
theorem dX4_numeral_49 : decode cX4_numeral 49 = .ok (.iadd, 1) := by decide +kernel
theorem dX4_numeral_50 : decode cX4_numeral 50 = .ok (.bipush 48, 2) := by decide +kernel
theorem dX4_numeral_52 : decode cX4_numeral 52 = .ok (.isub, 1) := by decide +kernel
theorem dX4_numeral_53 : decode cX4_numeral 53 = .ok (.istore_n 3, 1) := by decide +kernel
theorem dX4_numeral_54 : decode cX4_numeral 54 = .ok (.iinc 4 1, 3) := by decide +kernel
theorem dX4_numeral_57 : decode cX4_numeral 57 = .ok (.goto (-25), 3) := by decide +kernel
theorem dX4_numeral_60 : decode cX4_numeral 60 = .ok (.iload_n 3, 1) := by decide +kernel
theorem dX4_numeral_61 : decode cX4_numeral 61 = .ok (.ireturn, 1) := by decide +kernel
theorem dX4_takesNumeral_0 : decode cX4_takesNumeral 0 = .ok (.iload_n 1, 1) := by decide +kernel
theorem dX4_takesNumeral_1 : decode cX4_takesNumeral 1 = .ok (.ifCond .ge 5, 3) := by decide +kernel
theorem dX4_takesNumeral_4 : decode cX4_takesNumeral 4 = .ok (.iconst 0, 1) := by decide +kernel
theorem dX4_takesNumeral_5 : decode cX4_takesNumeral 5 = .ok (.ireturn, 1) := by decide +kernel
theorem dX4_takesNumeral_6 : decode cX4_takesNumeral 6 = .ok (.aload_n 0, 1) := by decide +kernel
theorem dX4_takesNumeral_7 : decode cX4_takesNumeral 7 = .ok (.getfield 37, 3) := by decide +kernel
theorem dX4_takesNumeral_10 : decode cX4_takesNumeral 10 = .ok (.tableswitch 64 1 5 #[34, 40, 46, 52, 58], 34) := by decide +kernel
theorem dX4_takesNumeral_44 : decode cX4_takesNumeral 44 = .ok (.aload_n 0, 1) := by decide +kernel
theorem dX4_takesNumeral_45 : decode cX4_takesNumeral 45 = .ok (.iload_n 1, 1) := by decide +kernel
theorem dX4_takesNumeral_46 : decode cX4_takesNumeral 46 = .ok (.invokevirtual 86, 3) := by decide +kernel
theorem dX4_takesNumeral_49 : decode cX4_takesNumeral 49 = .ok (.ireturn, 1) := by decide +kernel
theorem dX4_takesNumeral_50 : decode cX4_takesNumeral 50 = .ok (.aload_n 0, 1) := by decide +kernel
theorem dX4_takesNumeral_51 : decode cX4_takesNumeral 51 = .ok (.iload_n 1, 1) := by decide +kernel
theorem dX4_takesNumeral_52 : decode cX4_takesNumeral 52 = .ok (.invokevirtual 89, 3) := by decide +kernel
theorem dX4_takesNumeral_55 : decode cX4_takesNumeral 55 = .ok (.ireturn, 1) := by decide +kernel
theorem dX4_takesNumeral_56 : decode cX4_takesNumeral 56 = .ok (.aload_n 0, 1) := by decide +kernel
theorem dX4_takesNumeral_57 : decode cX4_takesNumeral 57 = .ok (.iload_n 1, 1) := by decide +kernel
theorem dX4_takesNumeral_58 : decode cX4_takesNumeral 58 = .ok (.invokevirtual 92, 3) := by decide +kernel
theorem dX4_takesNumeral_61 : decode cX4_takesNumeral 61 = .ok (.ireturn, 1) := by decide +kernel
theorem dX4_takesNumeral_62 : decode cX4_takesNumeral 62 = .ok (.aload_n 0, 1) := by decide +kernel
theorem dX4_takesNumeral_63 : decode cX4_takesNumeral 63 = .ok (.iload_n 1, 1) := by decide +kernel
theorem dX4_takesNumeral_64 : decode cX4_takesNumeral 64 = .ok (.invokevirtual 95, 3) := by decide +kernel
theorem dX4_takesNumeral_67 : decode cX4_takesNumeral 67 = .ok (.ireturn, 1) := by decide +kernel
theorem dX4_takesNumeral_68 : decode cX4_takesNumeral 68 = .ok (.aload_n 0, 1) := by decide +kernel
theorem dX4_takesNumeral_69 : decode cX4_takesNumeral 69 = .ok (.iload_n 1, 1) := by decide +kernel
theorem dX4_takesNumeral_70 : decode cX4_takesNumeral 70 = .ok (.invokevirtual 98, 3) := by decide +kernel
theorem dX4_takesNumeral_73 : decode cX4_takesNumeral 73 = .ok (.ireturn, 1) := by decide +kernel
theorem dX4_takesNumeral_74 : decode cX4_takesNumeral 74 = .ok (.iconst 0, 1) := by decide +kernel
theorem dX4_takesNumeral_75 : decode cX4_takesNumeral 75 = .ok (.ireturn, 1) := by decide +kernel
theorem dX4_takesRow_0 : decode cX4_takesRow 0 = .ok (.iload_n 1, 1) := by decide +kernel
theorem dX4_takesRow_1 : decode cX4_takesRow 1 = .ok (.invokestatic 101, 3) := by decide +kernel
theorem dX4_takesRow_4 : decode cX4_takesRow 4 = .ok (.ifCond .ne 5, 3) := by decide +kernel
theorem dX4_takesRow_7 : decode cX4_takesRow 7 = .ok (.iconst 0, 1) := by decide +kernel
theorem dX4_takesRow_8 : decode cX4_takesRow 8 = .ok (.ireturn, 1) := by decide +kernel
theorem dX4_takesRow_9 : decode cX4_takesRow 9 = .ok (.aload_n 0, 1) := by decide +kernel
theorem dX4_takesRow_10 : decode cX4_takesRow 10 = .ok (.iload_n 1, 1) := by decide +kernel
theorem dX4_takesRow_11 : decode cX4_takesRow 11 = .ok (.putfield 104, 3) := by decide +kernel
theorem dX4_takesRow_14 : decode cX4_takesRow 14 = .ok (.aload_n 0, 1) := by decide +kernel
theorem dX4_takesRow_15 : decode cX4_takesRow 15 = .ok (.iconst 2, 1) := by decide +kernel
theorem dX4_takesRow_16 : decode cX4_takesRow 16 = .ok (.putfield 37, 3) := by decide +kernel
theorem dX4_takesRow_19 : decode cX4_takesRow 19 = .ok (.iconst 1, 1) := by decide +kernel
theorem dX4_takesRow_20 : decode cX4_takesRow 20 = .ok (.ireturn, 1) := by decide +kernel
theorem dX4_takesColumn_0 : decode cX4_takesColumn 0 = .ok (.aload_n 0, 1) := by decide +kernel
theorem dX4_takesColumn_1 : decode cX4_takesColumn 1 = .ok (.getfield 104, 3) := by decide +kernel
theorem dX4_takesColumn_4 : decode cX4_takesColumn 4 = .ok (.iload_n 1, 1) := by decide +kernel
theorem dX4_takesColumn_5 : decode cX4_takesColumn 5 = .ok (.invokestatic 107, 3) := by decide +kernel
theorem dX4_takesColumn_8 : decode cX4_takesColumn 8 = .ok (.istore_n 2, 1) := by decide +kernel
theorem dX4_takesColumn_9 : decode cX4_takesColumn 9 = .ok (.iload_n 2, 1) := by decide +kernel
theorem dX4_takesColumn_10 : decode cX4_takesColumn 10 = .ok (.ifCond .lt 16, 3) := by decide +kernel
theorem dX4_takesColumn_13 : decode cX4_takesColumn 13 = .ok (.aload_n 0, 1) := by decide +kernel
theorem dX4_takesColumn_14 : decode cX4_takesColumn 14 = .ok (.getfield 18, 3) := by decide +kernel
theorem dX4_takesColumn_17 : decode cX4_takesColumn 17 = .ok (.getfield 110, 3) := by decide +kernel
theorem dX4_takesColumn_20 : decode cX4_takesColumn 20 = .ok (.iload_n 2, 1) := by decide +kernel
theorem dX4_takesColumn_21 : decode cX4_takesColumn 21 = .ok (.iaload, 1) := by decide +kernel
theorem dX4_takesColumn_22 : decode cX4_takesColumn 22 = .ok (.iconst (-1), 1) := by decide +kernel
theorem dX4_takesColumn_23 : decode cX4_takesColumn 23 = .ok (.if_icmp .eq 5, 3) := by decide +kernel
theorem dX4_takesColumn_26 : decode cX4_takesColumn 26 = .ok (.iconst 0, 1) := by decide +kernel
theorem dX4_takesColumn_27 : decode cX4_takesColumn 27 = .ok (.ireturn, 1) := by decide +kernel
theorem dX4_takesColumn_28 : decode cX4_takesColumn 28 = .ok (.aload_n 0, 1) := by decide +kernel
theorem dX4_takesColumn_29 : decode cX4_takesColumn 29 = .ok (.iload_n 2, 1) := by decide +kernel
theorem dX4_takesColumn_30 : decode cX4_takesColumn 30 = .ok (.putfield 113, 3) := by decide +kernel
theorem dX4_takesColumn_33 : decode cX4_takesColumn 33 = .ok (.aload_n 0, 1) := by decide +kernel
theorem dX4_takesColumn_34 : decode cX4_takesColumn 34 = .ok (.iconst 3, 1) := by decide +kernel
theorem dX4_takesColumn_35 : decode cX4_takesColumn 35 = .ok (.putfield 37, 3) := by decide +kernel
theorem dX4_takesColumn_38 : decode cX4_takesColumn 38 = .ok (.iconst 1, 1) := by decide +kernel
theorem dX4_takesColumn_39 : decode cX4_takesColumn 39 = .ok (.ireturn, 1) := by decide +kernel
theorem dX4_takesNumber_0 : decode cX4_takesNumber 0 = .ok (.iload_n 1, 1) := by decide +kernel
theorem dX4_takesNumber_1 : decode cX4_takesNumber 1 = .ok (.sipush 999, 3) := by decide +kernel
theorem dX4_takesNumber_4 : decode cX4_takesNumber 4 = .ok (.if_icmp .le 5, 3) := by decide +kernel
theorem dX4_takesNumber_7 : decode cX4_takesNumber 7 = .ok (.iconst 0, 1) := by decide +kernel
theorem dX4_takesNumber_8 : decode cX4_takesNumber 8 = .ok (.ireturn, 1) := by decide +kernel
theorem dX4_takesNumber_9 : decode cX4_takesNumber 9 = .ok (.aload_n 0, 1) := by decide +kernel
theorem dX4_takesNumber_10 : decode cX4_takesNumber 10 = .ok (.getfield 18, 3) := by decide +kernel
theorem dX4_takesNumber_13 : decode cX4_takesNumber 13 = .ok (.getfield 110, 3) := by decide +kernel
theorem dX4_takesNumber_16 : decode cX4_takesNumber 16 = .ok (.aload_n 0, 1) := by decide +kernel
theorem dX4_takesNumber_17 : decode cX4_takesNumber 17 = .ok (.getfield 113, 3) := by decide +kernel
theorem dX4_takesNumber_20 : decode cX4_takesNumber 20 = .ok (.iload_n 1, 1) := by decide +kernel
theorem dX4_takesNumber_21 : decode cX4_takesNumber 21 = .ok (.iastore, 1) := by decide +kernel
theorem dX4_takesNumber_22 : decode cX4_takesNumber 22 = .ok (.aload_n 0, 1) := by decide +kernel
theorem dX4_takesNumber_23 : decode cX4_takesNumber 23 = .ok (.bipush 6, 2) := by decide +kernel
theorem dX4_takesNumber_25 : decode cX4_takesNumber 25 = .ok (.putfield 37, 3) := by decide +kernel
theorem dX4_takesNumber_28 : decode cX4_takesNumber 28 = .ok (.iconst 1, 1) := by decide +kernel
theorem dX4_takesNumber_29 : decode cX4_takesNumber 29 = .ok (.ireturn, 1) := by decide +kernel
theorem dX4_takesClasses_0 : decode cX4_takesClasses 0 = .ok (.iload_n 1, 1) := by decide +kernel
theorem dX4_takesClasses_1 : decode cX4_takesClasses 1 = .ok (.invokestatic 116, 3) := by decide +kernel
theorem dX4_takesClasses_4 : decode cX4_takesClasses 4 = .ok (.ifCond .ne 5, 3) := by decide +kernel
theorem dX4_takesClasses_7 : decode cX4_takesClasses 7 = .ok (.iconst 0, 1) := by decide +kernel
theorem dX4_takesClasses_8 : decode cX4_takesClasses 8 = .ok (.ireturn, 1) := by decide +kernel
theorem dX4_takesClasses_9 : decode cX4_takesClasses 9 = .ok (.aload_n 0, 1) := by decide +kernel
theorem dX4_takesClasses_10 : decode cX4_takesClasses 10 = .ok (.getfield 18, 3) := by decide +kernel
theorem dX4_takesClasses_13 : decode cX4_takesClasses 13 = .ok (.iload_n 1, 1) := by decide +kernel
theorem dX4_takesClasses_14 : decode cX4_takesClasses 14 = .ok (.putfield 119, 3) := by decide +kernel
theorem dX4_takesClasses_17 : decode cX4_takesClasses 17 = .ok (.aload_n 0, 1) := by decide +kernel
theorem dX4_takesClasses_18 : decode cX4_takesClasses 18 = .ok (.bipush 6, 2) := by decide +kernel
theorem dX4_takesClasses_20 : decode cX4_takesClasses 20 = .ok (.putfield 37, 3) := by decide +kernel
theorem dX4_takesClasses_23 : decode cX4_takesClasses 23 = .ok (.iconst 1, 1) := by decide +kernel
theorem dX4_takesClasses_24 : decode cX4_takesClasses 24 = .ok (.ireturn, 1) := by decide +kernel
theorem dX4_takesCost_0 : decode cX4_takesCost 0 = .ok (.iload_n 1, 1) := by decide +kernel
theorem dX4_takesCost_1 : decode cX4_takesCost 1 = .ok (.sipush 999, 3) := by decide +kernel
theorem dX4_takesCost_4 : decode cX4_takesCost 4 = .ok (.if_icmp .le 5, 3) := by decide +kernel
theorem dX4_takesCost_7 : decode cX4_takesCost 7 = .ok (.iconst 0, 1) := by decide +kernel
theorem dX4_takesCost_8 : decode cX4_takesCost 8 = .ok (.ireturn, 1) := by decide +kernel
theorem dX4_takesCost_9 : decode cX4_takesCost 9 = .ok (.aload_n 0, 1) := by decide +kernel
theorem dX4_takesCost_10 : decode cX4_takesCost 10 = .ok (.getfield 18, 3) := by decide +kernel
theorem dX4_takesCost_13 : decode cX4_takesCost 13 = .ok (.iload_n 1, 1) := by decide +kernel
theorem dX4_takesCost_14 : decode cX4_takesCost 14 = .ok (.putfield 122, 3) := by decide +kernel
theorem dX4_takesCost_17 : decode cX4_takesCost 17 = .ok (.aload_n 0, 1) := by decide +kernel
theorem dX4_takesCost_18 : decode cX4_takesCost 18 = .ok (.bipush 6, 2) := by decide +kernel
theorem dX4_takesCost_20 : decode cX4_takesCost 20 = .ok (.putfield 37, 3) := by decide +kernel
theorem dX4_takesCost_23 : decode cX4_takesCost 23 = .ok (.iconst 1, 1) := by decide +kernel
theorem dX4_takesCost_24 : decode cX4_takesCost 24 = .ok (.ireturn, 1) := by decide +kernel
theorem dX4_takesEnd_0 : decode cX4_takesEnd 0 = .ok (.aload_n 0, 1) := by decide +kernel
theorem dX4_takesEnd_1 : decode cX4_takesEnd 1 = .ok (.getfield 37, 3) := by decide +kernel
theorem dX4_takesEnd_4 : decode cX4_takesEnd 4 = .ok (.bipush 6, 2) := by decide +kernel
theorem dX4_takesEnd_6 : decode cX4_takesEnd 6 = .ok (.if_icmp .eq 5, 3) := by decide +kernel
theorem dX4_takesEnd_9 : decode cX4_takesEnd 9 = .ok (.iconst 0, 1) := by decide +kernel
theorem dX4_takesEnd_10 : decode cX4_takesEnd 10 = .ok (.ireturn, 1) := by decide +kernel
theorem dX4_takesEnd_11 : decode cX4_takesEnd 11 = .ok (.aload_n 0, 1) := by decide +kernel
theorem dX4_takesEnd_12 : decode cX4_takesEnd 12 = .ok (.dup, 1) := by decide +kernel
theorem dX4_takesEnd_13 : decode cX4_takesEnd 13 = .ok (.getfield 40, 3) := by decide +kernel
theorem dX4_takesEnd_16 : decode cX4_takesEnd 16 = .ok (.iconst 1, 1) := by decide +kernel
theorem dX4_takesEnd_17 : decode cX4_takesEnd 17 = .ok (.iadd, 1) := by decide +kernel
theorem dX4_takesEnd_18 : decode cX4_takesEnd 18 = .ok (.putfield 40, 3) := by decide +kernel
theorem dX4_takesEnd_21 : decode cX4_takesEnd 21 = .ok (.aload_n 0, 1) := by decide +kernel
theorem dX4_takesEnd_22 : decode cX4_takesEnd 22 = .ok (.iconst 0, 1) := by decide +kernel
theorem dX4_takesEnd_23 : decode cX4_takesEnd 23 = .ok (.putfield 37, 3) := by decide +kernel
theorem dX4_takesEnd_26 : decode cX4_takesEnd 26 = .ok (.iconst 1, 1) := by decide +kernel
theorem dX4_takesEnd_27 : decode cX4_takesEnd 27 = .ok (.ireturn, 1) := by decide +kernel
theorem dX4_isLetter_0 : decode cX4_isLetter 0 = .ok (.iload_n 0, 1) := by decide +kernel
theorem dX4_isLetter_1 : decode cX4_isLetter 1 = .ok (.bipush 97, 2) := by decide +kernel
theorem dX4_isLetter_3 : decode cX4_isLetter 3 = .ok (.if_icmp .lt 13, 3) := by decide +kernel
theorem dX4_isLetter_6 : decode cX4_isLetter 6 = .ok (.iload_n 0, 1) := by decide +kernel
theorem dX4_isLetter_7 : decode cX4_isLetter 7 = .ok (.bipush 122, 2) := by decide +kernel
theorem dX4_isLetter_9 : decode cX4_isLetter 9 = .ok (.if_icmp .gt 7, 3) := by decide +kernel
theorem dX4_isLetter_12 : decode cX4_isLetter 12 = .ok (.iconst 1, 1) := by decide +kernel
theorem dX4_isLetter_13 : decode cX4_isLetter 13 = .ok (.goto 4, 3) := by decide +kernel
theorem dX4_isLetter_16 : decode cX4_isLetter 16 = .ok (.iconst 0, 1) := by decide +kernel
theorem dX4_isLetter_17 : decode cX4_isLetter 17 = .ok (.ireturn, 1) := by decide +kernel
theorem dX4_isDigit_0 : decode cX4_isDigit 0 = .ok (.iload_n 0, 1) := by decide +kernel
theorem dX4_isDigit_1 : decode cX4_isDigit 1 = .ok (.bipush 48, 2) := by decide +kernel
theorem dX4_isDigit_3 : decode cX4_isDigit 3 = .ok (.if_icmp .lt 13, 3) := by decide +kernel
theorem dX4_isDigit_6 : decode cX4_isDigit 6 = .ok (.iload_n 0, 1) := by decide +kernel
theorem dX4_isDigit_7 : decode cX4_isDigit 7 = .ok (.bipush 57, 2) := by decide +kernel
theorem dX4_isDigit_9 : decode cX4_isDigit 9 = .ok (.if_icmp .gt 7, 3) := by decide +kernel
theorem dX4_isDigit_12 : decode cX4_isDigit 12 = .ok (.iconst 1, 1) := by decide +kernel
theorem dX4_isDigit_13 : decode cX4_isDigit 13 = .ok (.goto 4, 3) := by decide +kernel
theorem dX4_isDigit_16 : decode cX4_isDigit 16 = .ok (.iconst 0, 1) := by decide +kernel
theorem dX4_isDigit_17 : decode cX4_isDigit 17 = .ok (.ireturn, 1) := by decide +kernel
theorem dX5_init_0 : decode cX5_init 0 = .ok (.aload_n 0, 1) := by decide +kernel
theorem dX5_init_1 : decode cX5_init 1 = .ok (.invokespecial 3, 3) := by decide +kernel
theorem dX5_init_4 : decode cX5_init 4 = .ok (.aload_n 0, 1) := by decide +kernel
theorem dX5_init_5 : decode cX5_init 5 = .ok (.bipush 6, 2) := by decide +kernel
theorem dX5_init_7 : decode cX5_init 7 = .ok (.newarray .int, 2) := by decide +kernel
theorem dX5_init_9 : decode cX5_init 9 = .ok (.putfield 9, 3) := by decide +kernel
theorem dX5_init_12 : decode cX5_init 12 = .ok (.return_, 1) := by decide +kernel
theorem dX5_beginOf_0 : decode cX5_beginOf 0 = .ok (.iload_n 1, 1) := by decide +kernel
theorem dX5_beginOf_1 : decode cX5_beginOf 1 = .ok (.ifCond .lt 26, 3) := by decide +kernel
theorem dX5_beginOf_4 : decode cX5_beginOf 4 = .ok (.iload_n 1, 1) := by decide +kernel
theorem dX5_beginOf_5 : decode cX5_beginOf 5 = .ok (.aload_n 0, 1) := by decide +kernel
theorem dX5_beginOf_6 : decode cX5_beginOf 6 = .ok (.getfield 15, 3) := by decide +kernel
theorem dX5_beginOf_9 : decode cX5_beginOf 9 = .ok (.if_icmp .ge 18, 3) := by decide +kernel
theorem dX5_beginOf_12 : decode cX5_beginOf 12 = .ok (.iload_n 1, 1) := by decide +kernel
theorem dX5_beginOf_13 : decode cX5_beginOf 13 = .ok (.bipush 6, 2) := by decide +kernel
theorem dX5_beginOf_15 : decode cX5_beginOf 15 = .ok (.if_icmp .ge 12, 3) := by decide +kernel
theorem dX5_beginOf_18 : decode cX5_beginOf 18 = .ok (.aload_n 0, 1) := by decide +kernel
theorem dX5_beginOf_19 : decode cX5_beginOf 19 = .ok (.getfield 9, 3) := by decide +kernel
theorem dX5_beginOf_22 : decode cX5_beginOf 22 = .ok (.iload_n 1, 1) := by decide +kernel
theorem dX5_beginOf_23 : decode cX5_beginOf 23 = .ok (.iaload, 1) := by decide +kernel
theorem dX5_beginOf_24 : decode cX5_beginOf 24 = .ok (.goto 5, 3) := by decide +kernel
theorem dX5_beginOf_27 : decode cX5_beginOf 27 = .ok (.bipush (-9), 2) := by decide +kernel
theorem dX5_beginOf_29 : decode cX5_beginOf 29 = .ok (.ireturn, 1) := by decide +kernel
theorem dX5_runOf_0 : decode cX5_runOf 0 = .ok (.iconst 0, 1) := by decide +kernel
theorem dX5_runOf_1 : decode cX5_runOf 1 = .ok (.istore_n 2, 1) := by decide +kernel
theorem dX5_runOf_2 : decode cX5_runOf 2 = .ok (.iload_n 2, 1) := by decide +kernel
theorem dX5_runOf_3 : decode cX5_runOf 3 = .ok (.iconst 1, 1) := by decide +kernel
theorem dX5_runOf_4 : decode cX5_runOf 4 = .ok (.iadd, 1) := by decide +kernel
theorem dX5_runOf_5 : decode cX5_runOf 5 = .ok (.aload_n 0, 1) := by decide +kernel
theorem dX5_runOf_6 : decode cX5_runOf 6 = .ok (.getfield 15, 3) := by decide +kernel
theorem dX5_runOf_9 : decode cX5_runOf 9 = .ok (.if_icmp .ge 20, 3) := by decide +kernel
theorem dX5_runOf_12 : decode cX5_runOf 12 = .ok (.aload_n 0, 1) := by decide +kernel
theorem dX5_runOf_13 : decode cX5_runOf 13 = .ok (.iload_n 2, 1) := by decide +kernel
theorem dX5_runOf_14 : decode cX5_runOf 14 = .ok (.iconst 1, 1) := by decide +kernel
theorem dX5_runOf_15 : decode cX5_runOf 15 = .ok (.iadd, 1) := by decide +kernel
theorem dX5_runOf_16 : decode cX5_runOf 16 = .ok (.invokevirtual 19, 3) := by decide +kernel
theorem dX5_runOf_19 : decode cX5_runOf 19 = .ok (.iload_n 1, 1) := by decide +kernel
theorem dX5_runOf_20 : decode cX5_runOf 20 = .ok (.if_icmp .gt 9, 3) := by decide +kernel
theorem dX5_runOf_23 : decode cX5_runOf 23 = .ok (.iinc 2 1, 3) := by decide +kernel
theorem dX5_runOf_26 : decode cX5_runOf 26 = .ok (.goto (-24), 3) := by decide +kernel
theorem dX5_runOf_29 : decode cX5_runOf 29 = .ok (.iload_n 2, 1) := by decide +kernel
theorem dX5_runOf_30 : decode cX5_runOf 30 = .ok (.ireturn, 1) := by decide +kernel
theorem dX6_init_0 : decode cX6_init 0 = .ok (.aload_n 0, 1) := by decide +kernel
theorem dX6_init_1 : decode cX6_init 1 = .ok (.invokespecial 3, 3) := by decide +kernel
theorem dX6_init_4 : decode cX6_init 4 = .ok (.aload_n 0, 1) := by decide +kernel
theorem dX6_init_5 : decode cX6_init 5 = .ok (.new 9, 3) := by decide +kernel
theorem dX6_init_8 : decode cX6_init 8 = .ok (.dup, 1) := by decide +kernel
theorem dX6_init_9 : decode cX6_init 9 = .ok (.invokespecial 11, 3) := by decide +kernel
theorem dX6_init_12 : decode cX6_init 12 = .ok (.putfield 12, 3) := by decide +kernel
theorem dX6_init_15 : decode cX6_init 15 = .ok (.aload_n 0, 1) := by decide +kernel
theorem dX6_init_16 : decode cX6_init 16 = .ok (.new 18, 3) := by decide +kernel
theorem dX6_init_19 : decode cX6_init 19 = .ok (.dup, 1) := by decide +kernel
theorem dX6_init_20 : decode cX6_init 20 = .ok (.invokespecial 20, 3) := by decide +kernel
theorem dX6_init_23 : decode cX6_init 23 = .ok (.putfield 21, 3) := by decide +kernel
theorem dX6_init_26 : decode cX6_init 26 = .ok (.aload_n 0, 1) := by decide +kernel
theorem dX6_init_27 : decode cX6_init 27 = .ok (.new 18, 3) := by decide +kernel
theorem dX6_init_30 : decode cX6_init 30 = .ok (.dup, 1) := by decide +kernel
theorem dX6_init_31 : decode cX6_init 31 = .ok (.invokespecial 20, 3) := by decide +kernel
theorem dX6_init_34 : decode cX6_init 34 = .ok (.putfield 25, 3) := by decide +kernel
theorem dX6_init_37 : decode cX6_init 37 = .ok (.aload_n 0, 1) := by decide +kernel
theorem dX6_init_38 : decode cX6_init 38 = .ok (.new 28, 3) := by decide +kernel
theorem dX6_init_41 : decode cX6_init 41 = .ok (.dup, 1) := by decide +kernel
theorem dX6_init_42 : decode cX6_init 42 = .ok (.invokespecial 30, 3) := by decide +kernel
theorem dX6_init_45 : decode cX6_init 45 = .ok (.putfield 31, 3) := by decide +kernel
theorem dX6_init_48 : decode cX6_init 48 = .ok (.aload_n 0, 1) := by decide +kernel
theorem dX6_init_49 : decode cX6_init 49 = .ok (.new 35, 3) := by decide +kernel
theorem dX6_init_52 : decode cX6_init 52 = .ok (.dup, 1) := by decide +kernel
theorem dX6_init_53 : decode cX6_init 53 = .ok (.invokespecial 37, 3) := by decide +kernel
theorem dX6_init_56 : decode cX6_init 56 = .ok (.putfield 38, 3) := by decide +kernel
theorem dX6_init_59 : decode cX6_init 59 = .ok (.aload_n 0, 1) := by decide +kernel
theorem dX6_init_60 : decode cX6_init 60 = .ok (.bipush 6, 2) := by decide +kernel
theorem dX6_init_62 : decode cX6_init 62 = .ok (.anewarray 35, 3) := by decide +kernel
theorem dX6_init_65 : decode cX6_init 65 = .ok (.putfield 42, 3) := by decide +kernel
theorem dX6_init_68 : decode cX6_init 68 = .ok (.aload_n 0, 1) := by decide +kernel
theorem dX6_init_69 : decode cX6_init 69 = .ok (.aload_n 1, 1) := by decide +kernel
theorem dX6_init_70 : decode cX6_init 70 = .ok (.putfield 46, 3) := by decide +kernel
theorem dX6_init_73 : decode cX6_init 73 = .ok (.iconst 0, 1) := by decide +kernel
theorem dX6_init_74 : decode cX6_init 74 = .ok (.istore_n 2, 1) := by decide +kernel
theorem dX6_init_75 : decode cX6_init 75 = .ok (.iload_n 2, 1) := by decide +kernel
theorem dX6_init_76 : decode cX6_init 76 = .ok (.bipush 6, 2) := by decide +kernel
theorem dX6_init_78 : decode cX6_init 78 = .ok (.if_icmp .ge 22, 3) := by decide +kernel
theorem dX6_init_81 : decode cX6_init 81 = .ok (.aload_n 0, 1) := by decide +kernel
theorem dX6_init_82 : decode cX6_init 82 = .ok (.getfield 42, 3) := by decide +kernel
theorem dX6_init_85 : decode cX6_init 85 = .ok (.iload_n 2, 1) := by decide +kernel
theorem dX6_init_86 : decode cX6_init 86 = .ok (.new 35, 3) := by decide +kernel
theorem dX6_init_89 : decode cX6_init 89 = .ok (.dup, 1) := by decide +kernel
theorem dX6_init_90 : decode cX6_init 90 = .ok (.invokespecial 37, 3) := by decide +kernel
theorem dX6_init_93 : decode cX6_init 93 = .ok (.aastore, 1) := by decide +kernel
theorem dX6_init_94 : decode cX6_init 94 = .ok (.iinc 2 1, 3) := by decide +kernel
theorem dX6_init_97 : decode cX6_init 97 = .ok (.goto (-22), 3) := by decide +kernel
theorem dX6_init_100 : decode cX6_init 100 = .ok (.return_, 1) := by decide +kernel
theorem dX6_forget_0 : decode cX6_forget 0 = .ok (.aload_n 0, 1) := by decide +kernel
theorem dX6_forget_1 : decode cX6_forget 1 = .ok (.iconst 0, 1) := by decide +kernel
theorem dX6_forget_2 : decode cX6_forget 2 = .ok (.putfield 50, 3) := by decide +kernel
theorem dX6_forget_5 : decode cX6_forget 5 = .ok (.aload_n 0, 1) := by decide +kernel
theorem dX6_forget_6 : decode cX6_forget 6 = .ok (.iconst 0, 1) := by decide +kernel
theorem dX6_forget_7 : decode cX6_forget 7 = .ok (.putfield 54, 3) := by decide +kernel
theorem dX6_forget_10 : decode cX6_forget 10 = .ok (.aload_n 0, 1) := by decide +kernel
theorem dX6_forget_11 : decode cX6_forget 11 = .ok (.iconst 0, 1) := by decide +kernel
theorem dX6_forget_12 : decode cX6_forget 12 = .ok (.putfield 57, 3) := by decide +kernel
theorem dX6_forget_15 : decode cX6_forget 15 = .ok (.aload_n 0, 1) := by decide +kernel
theorem dX6_forget_16 : decode cX6_forget 16 = .ok (.iconst 0, 1) := by decide +kernel
theorem dX6_forget_17 : decode cX6_forget 17 = .ok (.putfield 60, 3) := by decide +kernel
theorem dX6_forget_20 : decode cX6_forget 20 = .ok (.return_, 1) := by decide +kernel
theorem dX6_rungs_0 : decode cX6_rungs 0 = .ok (.aload_n 0, 1) := by decide +kernel
theorem dX6_rungs_1 : decode cX6_rungs 1 = .ok (.getfield 50, 3) := by decide +kernel
theorem dX6_rungs_4 : decode cX6_rungs 4 = .ok (.ifCond .ne 19, 3) := by decide +kernel
theorem dX6_rungs_7 : decode cX6_rungs 7 = .ok (.aload_n 0, 1) := by decide +kernel
theorem dX6_rungs_8 : decode cX6_rungs 8 = .ok (.getfield 12, 3) := by decide +kernel
theorem dX6_rungs_11 : decode cX6_rungs 11 = .ok (.aload_n 0, 1) := by decide +kernel
theorem dX6_rungs_12 : decode cX6_rungs 12 = .ok (.getfield 46, 3) := by decide +kernel
theorem dX6_rungs_15 : decode cX6_rungs 15 = .ok (.invokevirtual 63, 3) := by decide +kernel
theorem dX6_rungs_18 : decode cX6_rungs 18 = .ok (.aload_n 0, 1) := by decide +kernel
theorem dX6_rungs_19 : decode cX6_rungs 19 = .ok (.iconst 1, 1) := by decide +kernel
theorem dX6_rungs_20 : decode cX6_rungs 20 = .ok (.putfield 50, 3) := by decide +kernel
theorem dX6_rungs_23 : decode cX6_rungs 23 = .ok (.aload_n 0, 1) := by decide +kernel
theorem dX6_rungs_24 : decode cX6_rungs 24 = .ok (.getfield 12, 3) := by decide +kernel
theorem dX6_rungs_27 : decode cX6_rungs 27 = .ok (.areturn, 1) := by decide +kernel
theorem dX6_ofNow_0 : decode cX6_ofNow 0 = .ok (.aload_n 0, 1) := by decide +kernel
theorem dX6_ofNow_1 : decode cX6_ofNow 1 = .ok (.getfield 54, 3) := by decide +kernel
theorem dX6_ofNow_4 : decode cX6_ofNow 4 = .ok (.ifCond .ne 97, 3) := by decide +kernel
theorem dX6_ofNow_7 : decode cX6_ofNow 7 = .ok (.aload_n 0, 1) := by decide +kernel
theorem dX6_ofNow_8 : decode cX6_ofNow 8 = .ok (.invokevirtual 67, 3) := by decide +kernel
theorem dX6_ofNow_11 : decode cX6_ofNow 11 = .ok (.pop, 1) := by decide +kernel
theorem dX6_ofNow_12 : decode cX6_ofNow 12 = .ok (.iconst 0, 1) := by decide +kernel
theorem dX6_ofNow_13 : decode cX6_ofNow 13 = .ok (.istore_n 1, 1) := by decide +kernel
theorem dX6_ofNow_14 : decode cX6_ofNow 14 = .ok (.iload_n 1, 1) := by decide +kernel
theorem dX6_ofNow_15 : decode cX6_ofNow 15 = .ok (.aload_n 0, 1) := by decide +kernel
theorem dX6_ofNow_16 : decode cX6_ofNow 16 = .ok (.getfield 12, 3) := by decide +kernel
theorem dX6_ofNow_19 : decode cX6_ofNow 19 = .ok (.getfield 71, 3) := by decide +kernel
theorem dX6_ofNow_22 : decode cX6_ofNow 22 = .ok (.if_icmp .ge 34, 3) := by decide +kernel
theorem dX6_ofNow_25 : decode cX6_ofNow 25 = .ok (.aload_n 0, 1) := by decide +kernel
theorem dX6_ofNow_26 : decode cX6_ofNow 26 = .ok (.getfield 21, 3) := by decide +kernel
theorem dX6_ofNow_29 : decode cX6_ofNow 29 = .ok (.getfield 75, 3) := by decide +kernel
theorem dX6_ofNow_32 : decode cX6_ofNow 32 = .ok (.iload_n 1, 1) := by decide +kernel
theorem dX6_ofNow_33 : decode cX6_ofNow 33 = .ok (.aload_n 0, 1) := by decide +kernel
theorem dX6_ofNow_34 : decode cX6_ofNow 34 = .ok (.getfield 46, 3) := by decide +kernel
theorem dX6_ofNow_37 : decode cX6_ofNow 37 = .ok (.aload_n 0, 1) := by decide +kernel
theorem dX6_ofNow_38 : decode cX6_ofNow 38 = .ok (.getfield 12, 3) := by decide +kernel
theorem dX6_ofNow_41 : decode cX6_ofNow 41 = .ok (.getfield 79, 3) := by decide +kernel
theorem dX6_ofNow_44 : decode cX6_ofNow 44 = .ok (.iload_n 1, 1) := by decide +kernel
theorem dX6_ofNow_45 : decode cX6_ofNow 45 = .ok (.iaload, 1) := by decide +kernel
theorem dX6_ofNow_46 : decode cX6_ofNow 46 = .ok (.invokevirtual 83, 3) := by decide +kernel
theorem dX6_ofNow_49 : decode cX6_ofNow 49 = .ok (.lastore, 1) := by decide +kernel
theorem dX6_ofNow_50 : decode cX6_ofNow 50 = .ok (.iinc 1 1, 3) := by decide +kernel
theorem dX6_ofNow_53 : decode cX6_ofNow 53 = .ok (.goto (-39), 3) := by decide +kernel
theorem dX6_ofNow_56 : decode cX6_ofNow 56 = .ok (.aload_n 0, 1) := by decide +kernel
theorem dX6_ofNow_57 : decode cX6_ofNow 57 = .ok (.getfield 21, 3) := by decide +kernel
theorem dX6_ofNow_60 : decode cX6_ofNow 60 = .ok (.aload_n 0, 1) := by decide +kernel
theorem dX6_ofNow_61 : decode cX6_ofNow 61 = .ok (.getfield 12, 3) := by decide +kernel
theorem dX6_ofNow_64 : decode cX6_ofNow 64 = .ok (.aload_n 0, 1) := by decide +kernel
theorem dX6_ofNow_65 : decode cX6_ofNow 65 = .ok (.getfield 46, 3) := by decide +kernel
theorem dX6_ofNow_68 : decode cX6_ofNow 68 = .ok (.getfield 89, 3) := by decide +kernel
theorem dX6_ofNow_71 : decode cX6_ofNow 71 = .ok (.invokevirtual 92, 3) := by decide +kernel
theorem dX6_ofNow_74 : decode cX6_ofNow 74 = .ok (.aload_n 0, 1) := by decide +kernel
theorem dX6_ofNow_75 : decode cX6_ofNow 75 = .ok (.getfield 21, 3) := by decide +kernel
theorem dX6_ofNow_78 : decode cX6_ofNow 78 = .ok (.aload_n 0, 1) := by decide +kernel
theorem dX6_ofNow_79 : decode cX6_ofNow 79 = .ok (.getfield 12, 3) := by decide +kernel
theorem dX6_ofNow_82 : decode cX6_ofNow 82 = .ok (.aload_n 0, 1) := by decide +kernel
theorem dX6_ofNow_83 : decode cX6_ofNow 83 = .ok (.getfield 46, 3) := by decide +kernel
theorem dX6_ofNow_86 : decode cX6_ofNow 86 = .ok (.getfield 89, 3) := by decide +kernel
theorem dX6_ofNow_89 : decode cX6_ofNow 89 = .ok (.aload_n 0, 1) := by decide +kernel
theorem dX6_ofNow_90 : decode cX6_ofNow 90 = .ok (.getfield 38, 3) := by decide +kernel
theorem dX6_ofNow_93 : decode cX6_ofNow 93 = .ok (.invokevirtual 95, 3) := by decide +kernel
theorem dX6_ofNow_96 : decode cX6_ofNow 96 = .ok (.aload_n 0, 1) := by decide +kernel
theorem dX6_ofNow_97 : decode cX6_ofNow 97 = .ok (.iconst 1, 1) := by decide +kernel
theorem dX6_ofNow_98 : decode cX6_ofNow 98 = .ok (.putfield 54, 3) := by decide +kernel
theorem dX6_ofNow_101 : decode cX6_ofNow 101 = .ok (.aload_n 0, 1) := by decide +kernel
theorem dX6_ofNow_102 : decode cX6_ofNow 102 = .ok (.getfield 38, 3) := by decide +kernel
theorem dX6_ofNow_105 : decode cX6_ofNow 105 = .ok (.areturn, 1) := by decide +kernel
theorem dX6_leastIn_0 : decode cX6_leastIn 0 = .ok (.aload_n 0, 1) := by decide +kernel
theorem dX6_leastIn_1 : decode cX6_leastIn 1 = .ok (.getfield 57, 3) := by decide +kernel
theorem dX6_leastIn_4 : decode cX6_leastIn 4 = .ok (.ifCond .ne 60, 3) := by decide +kernel
theorem dX6_leastIn_7 : decode cX6_leastIn 7 = .ok (.aload_n 0, 1) := by decide +kernel
theorem dX6_leastIn_8 : decode cX6_leastIn 8 = .ok (.invokevirtual 67, 3) := by decide +kernel
theorem dX6_leastIn_11 : decode cX6_leastIn 11 = .ok (.pop, 1) := by decide +kernel
theorem dX6_leastIn_12 : decode cX6_leastIn 12 = .ok (.aload_n 0, 1) := by decide +kernel
theorem dX6_leastIn_13 : decode cX6_leastIn 13 = .ok (.getfield 25, 3) := by decide +kernel
theorem dX6_leastIn_16 : decode cX6_leastIn 16 = .ok (.aload_n 0, 1) := by decide +kernel
theorem dX6_leastIn_17 : decode cX6_leastIn 17 = .ok (.getfield 12, 3) := by decide +kernel
theorem dX6_leastIn_20 : decode cX6_leastIn 20 = .ok (.bipush 6, 2) := by decide +kernel
theorem dX6_leastIn_22 : decode cX6_leastIn 22 = .ok (.invokevirtual 92, 3) := by decide +kernel
theorem dX6_leastIn_25 : decode cX6_leastIn 25 = .ok (.iconst 0, 1) := by decide +kernel
theorem dX6_leastIn_26 : decode cX6_leastIn 26 = .ok (.istore_n 2, 1) := by decide +kernel
theorem dX6_leastIn_27 : decode cX6_leastIn 27 = .ok (.iload_n 2, 1) := by decide +kernel
theorem dX6_leastIn_28 : decode cX6_leastIn 28 = .ok (.bipush 6, 2) := by decide +kernel
theorem dX6_leastIn_30 : decode cX6_leastIn 30 = .ok (.if_icmp .ge 29, 3) := by decide +kernel
theorem dX6_leastIn_33 : decode cX6_leastIn 33 = .ok (.aload_n 0, 1) := by decide +kernel
theorem dX6_leastIn_34 : decode cX6_leastIn 34 = .ok (.getfield 25, 3) := by decide +kernel
theorem dX6_leastIn_37 : decode cX6_leastIn 37 = .ok (.aload_n 0, 1) := by decide +kernel
theorem dX6_leastIn_38 : decode cX6_leastIn 38 = .ok (.getfield 12, 3) := by decide +kernel
theorem dX6_leastIn_41 : decode cX6_leastIn 41 = .ok (.iload_n 2, 1) := by decide +kernel
theorem dX6_leastIn_42 : decode cX6_leastIn 42 = .ok (.iconst 1, 1) := by decide +kernel
theorem dX6_leastIn_43 : decode cX6_leastIn 43 = .ok (.iadd, 1) := by decide +kernel
theorem dX6_leastIn_44 : decode cX6_leastIn 44 = .ok (.aload_n 0, 1) := by decide +kernel
theorem dX6_leastIn_45 : decode cX6_leastIn 45 = .ok (.getfield 42, 3) := by decide +kernel
theorem dX6_leastIn_48 : decode cX6_leastIn 48 = .ok (.iload_n 2, 1) := by decide +kernel
theorem dX6_leastIn_49 : decode cX6_leastIn 49 = .ok (.aaload, 1) := by decide +kernel
theorem dX6_leastIn_50 : decode cX6_leastIn 50 = .ok (.invokevirtual 95, 3) := by decide +kernel
theorem dX6_leastIn_53 : decode cX6_leastIn 53 = .ok (.iinc 2 1, 3) := by decide +kernel
theorem dX6_leastIn_56 : decode cX6_leastIn 56 = .ok (.goto (-29), 3) := by decide +kernel
theorem dX6_leastIn_59 : decode cX6_leastIn 59 = .ok (.aload_n 0, 1) := by decide +kernel
theorem dX6_leastIn_60 : decode cX6_leastIn 60 = .ok (.iconst 1, 1) := by decide +kernel
theorem dX6_leastIn_61 : decode cX6_leastIn 61 = .ok (.putfield 57, 3) := by decide +kernel
theorem dX6_leastIn_64 : decode cX6_leastIn 64 = .ok (.aload_n 0, 1) := by decide +kernel
theorem dX6_leastIn_65 : decode cX6_leastIn 65 = .ok (.getfield 42, 3) := by decide +kernel
theorem dX6_leastIn_68 : decode cX6_leastIn 68 = .ok (.iload_n 1, 1) := by decide +kernel
theorem dX6_leastIn_69 : decode cX6_leastIn 69 = .ok (.bipush 6, 2) := by decide +kernel
theorem dX6_leastIn_71 : decode cX6_leastIn 71 = .ok (.invokestatic 99, 3) := by decide +kernel
theorem dX6_leastIn_74 : decode cX6_leastIn 74 = .ok (.iconst 1, 1) := by decide +kernel
theorem dX6_leastIn_75 : decode cX6_leastIn 75 = .ok (.invokestatic 105, 3) := by decide +kernel
theorem dX6_leastIn_78 : decode cX6_leastIn 78 = .ok (.iconst 1, 1) := by decide +kernel
theorem dX6_leastIn_79 : decode cX6_leastIn 79 = .ok (.isub, 1) := by decide +kernel
theorem dX6_leastIn_80 : decode cX6_leastIn 80 = .ok (.aaload, 1) := by decide +kernel
theorem dX6_leastIn_81 : decode cX6_leastIn 81 = .ok (.areturn, 1) := by decide +kernel
theorem dX6_lastBegin_0 : decode cX6_lastBegin 0 = .ok (.aload_n 0, 1) := by decide +kernel
theorem dX6_lastBegin_1 : decode cX6_lastBegin 1 = .ok (.invokevirtual 67, 3) := by decide +kernel
theorem dX6_lastBegin_4 : decode cX6_lastBegin 4 = .ok (.pop, 1) := by decide +kernel
theorem dX6_lastBegin_5 : decode cX6_lastBegin 5 = .ok (.iload_n 1, 1) := by decide +kernel
theorem dX6_lastBegin_6 : decode cX6_lastBegin 6 = .ok (.invokestatic 108, 3) := by decide +kernel
theorem dX6_lastBegin_9 : decode cX6_lastBegin 9 = .ok (.ifCond .eq 19, 3) := by decide +kernel
theorem dX6_lastBegin_12 : decode cX6_lastBegin 12 = .ok (.iload_n 2, 1) := by decide +kernel
theorem dX6_lastBegin_13 : decode cX6_lastBegin 13 = .ok (.iconst 1, 1) := by decide +kernel
theorem dX6_lastBegin_14 : decode cX6_lastBegin 14 = .ok (.if_icmp .lt 14, 3) := by decide +kernel
theorem dX6_lastBegin_17 : decode cX6_lastBegin 17 = .ok (.iload_n 2, 1) := by decide +kernel
theorem dX6_lastBegin_18 : decode cX6_lastBegin 18 = .ok (.aload_n 0, 1) := by decide +kernel
theorem dX6_lastBegin_19 : decode cX6_lastBegin 19 = .ok (.getfield 12, 3) := by decide +kernel
theorem dX6_lastBegin_22 : decode cX6_lastBegin 22 = .ok (.getfield 71, 3) := by decide +kernel
theorem dX6_lastBegin_25 : decode cX6_lastBegin 25 = .ok (.if_icmp .le 6, 3) := by decide +kernel
theorem dX6_lastBegin_28 : decode cX6_lastBegin 28 = .ok (.bipush (-9), 2) := by decide +kernel
theorem dX6_lastBegin_30 : decode cX6_lastBegin 30 = .ok (.ireturn, 1) := by decide +kernel
theorem dX6_lastBegin_31 : decode cX6_lastBegin 31 = .ok (.aload_n 0, 1) := by decide +kernel
theorem dX6_lastBegin_32 : decode cX6_lastBegin 32 = .ok (.getfield 60, 3) := by decide +kernel
theorem dX6_lastBegin_35 : decode cX6_lastBegin 35 = .ok (.ifCond .ne 19, 3) := by decide +kernel
theorem dX6_lastBegin_38 : decode cX6_lastBegin 38 = .ok (.aload_n 0, 1) := by decide +kernel
theorem dX6_lastBegin_39 : decode cX6_lastBegin 39 = .ok (.getfield 31, 3) := by decide +kernel
theorem dX6_lastBegin_42 : decode cX6_lastBegin 42 = .ok (.aload_n 0, 1) := by decide +kernel
theorem dX6_lastBegin_43 : decode cX6_lastBegin 43 = .ok (.getfield 12, 3) := by decide +kernel
theorem dX6_lastBegin_46 : decode cX6_lastBegin 46 = .ok (.invokevirtual 112, 3) := by decide +kernel
theorem dX6_lastBegin_49 : decode cX6_lastBegin 49 = .ok (.aload_n 0, 1) := by decide +kernel
theorem dX6_lastBegin_50 : decode cX6_lastBegin 50 = .ok (.iconst 1, 1) := by decide +kernel
theorem dX6_lastBegin_51 : decode cX6_lastBegin 51 = .ok (.putfield 60, 3) := by decide +kernel
theorem dX6_lastBegin_54 : decode cX6_lastBegin 54 = .ok (.aload_n 0, 1) := by decide +kernel
theorem dX6_lastBegin_55 : decode cX6_lastBegin 55 = .ok (.getfield 31, 3) := by decide +kernel
theorem dX6_lastBegin_58 : decode cX6_lastBegin 58 = .ok (.getfield 115, 3) := by decide +kernel
theorem dX6_lastBegin_61 : decode cX6_lastBegin 61 = .ok (.iload_n 1, 1) := by decide +kernel
theorem dX6_lastBegin_62 : decode cX6_lastBegin 62 = .ok (.aaload, 1) := by decide +kernel
theorem dX6_lastBegin_63 : decode cX6_lastBegin 63 = .ok (.iload_n 2, 1) := by decide +kernel
theorem dX6_lastBegin_64 : decode cX6_lastBegin 64 = .ok (.iaload, 1) := by decide +kernel
theorem dX6_lastBegin_65 : decode cX6_lastBegin 65 = .ok (.ireturn, 1) := by decide +kernel
theorem dX7_init_0 : decode cX7_init 0 = .ok (.aload_n 0, 1) := by decide +kernel
theorem dX7_init_1 : decode cX7_init 1 = .ok (.invokespecial 3, 3) := by decide +kernel
theorem dX7_init_4 : decode cX7_init 4 = .ok (.aload_n 0, 1) := by decide +kernel
theorem dX7_init_5 : decode cX7_init 5 = .ok (.bipush 7, 2) := by decide +kernel
theorem dX7_init_7 : decode cX7_init 7 = .ok (.bipush 25, 2) := by decide +kernel
theorem dX7_init_9 : decode cX7_init 9 = .ok (.multianewarray 9 2, 4) := by decide +kernel
theorem dX7_init_13 : decode cX7_init 13 = .ok (.putfield 11, 3) := by decide +kernel
theorem dX7_init_16 : decode cX7_init 16 = .ok (.aload_n 0, 1) := by decide +kernel
theorem dX7_init_17 : decode cX7_init 17 = .ok (.bipush 7, 2) := by decide +kernel
theorem dX7_init_19 : decode cX7_init 19 = .ok (.bipush 25, 2) := by decide +kernel
theorem dX7_init_21 : decode cX7_init 21 = .ok (.multianewarray 16 2, 4) := by decide +kernel
theorem dX7_init_25 : decode cX7_init 25 = .ok (.putfield 18, 3) := by decide +kernel
theorem dX7_init_28 : decode cX7_init 28 = .ok (.aload_n 0, 1) := by decide +kernel
theorem dX7_init_29 : decode cX7_init 29 = .ok (.bipush 25, 2) := by decide +kernel
theorem dX7_init_31 : decode cX7_init 31 = .ok (.newarray .long, 2) := by decide +kernel
theorem dX7_init_33 : decode cX7_init 33 = .ok (.putfield 21, 3) := by decide +kernel
theorem dX7_init_36 : decode cX7_init 36 = .ok (.return_, 1) := by decide +kernel
theorem dX7_build_0 : decode cX7_build 0 = .ok (.aload_n 1, 1) := by decide +kernel
theorem dX7_build_1 : decode cX7_build 1 = .ok (.getfield 25, 3) := by decide +kernel
theorem dX7_build_4 : decode cX7_build 4 = .ok (.istore_n 3, 1) := by decide +kernel
theorem dX7_build_5 : decode cX7_build 5 = .ok (.iconst 0, 1) := by decide +kernel
theorem dX7_build_6 : decode cX7_build 6 = .ok (.istore 4, 2) := by decide +kernel
theorem dX7_build_8 : decode cX7_build 8 = .ok (.iload 4, 2) := by decide +kernel
theorem dX7_build_10 : decode cX7_build 10 = .ok (.iload_n 3, 1) := by decide +kernel
theorem dX7_build_11 : decode cX7_build 11 = .ok (.if_icmp .ge 37, 3) := by decide +kernel
theorem dX7_build_14 : decode cX7_build 14 = .ok (.aload_n 0, 1) := by decide +kernel
theorem dX7_build_15 : decode cX7_build 15 = .ok (.getfield 11, 3) := by decide +kernel
theorem dX7_build_18 : decode cX7_build 18 = .ok (.iconst 1, 1) := by decide +kernel
theorem dX7_build_19 : decode cX7_build 19 = .ok (.aaload, 1) := by decide +kernel
theorem dX7_build_20 : decode cX7_build 20 = .ok (.iload 4, 2) := by decide +kernel
theorem dX7_build_22 : decode cX7_build 22 = .ok (.aload_n 1, 1) := by decide +kernel
theorem dX7_build_23 : decode cX7_build 23 = .ok (.getfield 31, 3) := by decide +kernel
theorem dX7_build_26 : decode cX7_build 26 = .ok (.iload 4, 2) := by decide +kernel
theorem dX7_build_28 : decode cX7_build 28 = .ok (.aaload, 1) := by decide +kernel
theorem dX7_build_29 : decode cX7_build 29 = .ok (.iload_n 3, 1) := by decide +kernel
theorem dX7_build_30 : decode cX7_build 30 = .ok (.laload, 1) := by decide +kernel
theorem dX7_build_31 : decode cX7_build 31 = .ok (.lastore, 1) := by decide +kernel
theorem dX7_build_32 : decode cX7_build 32 = .ok (.aload_n 0, 1) := by decide +kernel
theorem dX7_build_33 : decode cX7_build 33 = .ok (.getfield 18, 3) := by decide +kernel
theorem dX7_build_36 : decode cX7_build 36 = .ok (.iconst 1, 1) := by decide +kernel
theorem dX7_build_37 : decode cX7_build 37 = .ok (.aaload, 1) := by decide +kernel
theorem dX7_build_38 : decode cX7_build 38 = .ok (.iload 4, 2) := by decide +kernel
theorem dX7_build_40 : decode cX7_build 40 = .ok (.iload_n 3, 1) := by decide +kernel
theorem dX7_build_41 : decode cX7_build 41 = .ok (.iastore, 1) := by decide +kernel
theorem dX7_build_42 : decode cX7_build 42 = .ok (.iinc 4 1, 3) := by decide +kernel
theorem dX7_build_45 : decode cX7_build 45 = .ok (.goto (-37), 3) := by decide +kernel
theorem dX7_build_48 : decode cX7_build 48 = .ok (.iconst 2, 1) := by decide +kernel
theorem dX7_build_49 : decode cX7_build 49 = .ok (.istore 4, 2) := by decide +kernel
theorem dX7_build_51 : decode cX7_build 51 = .ok (.iload 4, 2) := by decide +kernel
theorem dX7_build_53 : decode cX7_build 53 = .ok (.iload_n 2, 1) := by decide +kernel
theorem dX7_build_54 : decode cX7_build 54 = .ok (.if_icmp .gt 43, 3) := by decide +kernel
theorem dX7_build_57 : decode cX7_build 57 = .ok (.iload 4, 2) := by decide +kernel
theorem dX7_build_59 : decode cX7_build 59 = .ok (.bipush 6, 2) := by decide +kernel
theorem dX7_build_61 : decode cX7_build 61 = .ok (.if_icmp .gt 36, 3) := by decide +kernel
theorem dX7_build_64 : decode cX7_build 64 = .ok (.iconst 0, 1) := by decide +kernel
theorem dX7_build_65 : decode cX7_build 65 = .ok (.istore 5, 2) := by decide +kernel
theorem dX7_build_67 : decode cX7_build 67 = .ok (.iload 5, 2) := by decide +kernel
theorem dX7_build_69 : decode cX7_build 69 = .ok (.iload 4, 2) := by decide +kernel
theorem dX7_build_71 : decode cX7_build 71 = .ok (.iadd, 1) := by decide +kernel
theorem dX7_build_72 : decode cX7_build 72 = .ok (.iload_n 3, 1) := by decide +kernel
theorem dX7_build_73 : decode cX7_build 73 = .ok (.if_icmp .gt 18, 3) := by decide +kernel
theorem dX7_build_76 : decode cX7_build 76 = .ok (.aload_n 0, 1) := by decide +kernel
theorem dX7_build_77 : decode cX7_build 77 = .ok (.aload_n 1, 1) := by decide +kernel
theorem dX7_build_78 : decode cX7_build 78 = .ok (.iload 4, 2) := by decide +kernel
theorem dX7_build_80 : decode cX7_build 80 = .ok (.iload 5, 2) := by decide +kernel
theorem dX7_build_82 : decode cX7_build 82 = .ok (.invokevirtual 34, 3) := by decide +kernel
theorem dX7_build_85 : decode cX7_build 85 = .ok (.iinc 5 1, 3) := by decide +kernel
theorem dX7_build_88 : decode cX7_build 88 = .ok (.goto (-21), 3) := by decide +kernel
theorem dX7_build_91 : decode cX7_build 91 = .ok (.iinc 4 1, 3) := by decide +kernel
theorem dX7_build_94 : decode cX7_build 94 = .ok (.goto (-43), 3) := by decide +kernel
theorem dX7_build_97 : decode cX7_build 97 = .ok (.return_, 1) := by decide +kernel
theorem dX7_choose_0 : decode cX7_choose 0 = .ok (.ldc2_w 40, 3) := by decide +kernel
theorem dX7_choose_3 : decode cX7_choose 3 = .ok (.lstore 4, 2) := by decide +kernel
theorem dX7_choose_5 : decode cX7_choose 5 = .ok (.iload_n 3, 1) := by decide +kernel
theorem dX7_choose_6 : decode cX7_choose 6 = .ok (.iconst 1, 1) := by decide +kernel
theorem dX7_choose_7 : decode cX7_choose 7 = .ok (.iadd, 1) := by decide +kernel
theorem dX7_choose_8 : decode cX7_choose 8 = .ok (.istore 6, 2) := by decide +kernel
theorem dX7_choose_10 : decode cX7_choose 10 = .ok (.iload_n 3, 1) := by decide +kernel
theorem dX7_choose_11 : decode cX7_choose 11 = .ok (.iconst 1, 1) := by decide +kernel
theorem dX7_choose_12 : decode cX7_choose 12 = .ok (.iadd, 1) := by decide +kernel
theorem dX7_choose_13 : decode cX7_choose 13 = .ok (.istore 7, 2) := by decide +kernel
theorem dX7_choose_15 : decode cX7_choose 15 = .ok (.iload 7, 2) := by decide +kernel
theorem dX7_choose_17 : decode cX7_choose 17 = .ok (.iload_n 2, 1) := by decide +kernel
theorem dX7_choose_18 : decode cX7_choose 18 = .ok (.iadd, 1) := by decide +kernel
theorem dX7_choose_19 : decode cX7_choose 19 = .ok (.iconst 1, 1) := by decide +kernel
theorem dX7_choose_20 : decode cX7_choose 20 = .ok (.isub, 1) := by decide +kernel
theorem dX7_choose_21 : decode cX7_choose 21 = .ok (.aload_n 1, 1) := by decide +kernel
theorem dX7_choose_22 : decode cX7_choose 22 = .ok (.getfield 25, 3) := by decide +kernel
theorem dX7_choose_25 : decode cX7_choose 25 = .ok (.if_icmp .gt 56, 3) := by decide +kernel
theorem dX7_choose_28 : decode cX7_choose 28 = .ok (.aload_n 1, 1) := by decide +kernel
theorem dX7_choose_29 : decode cX7_choose 29 = .ok (.getfield 31, 3) := by decide +kernel
theorem dX7_choose_32 : decode cX7_choose 32 = .ok (.iload_n 3, 1) := by decide +kernel
theorem dX7_choose_33 : decode cX7_choose 33 = .ok (.aaload, 1) := by decide +kernel
theorem dX7_choose_34 : decode cX7_choose 34 = .ok (.iload 7, 2) := by decide +kernel
theorem dX7_choose_36 : decode cX7_choose 36 = .ok (.laload, 1) := by decide +kernel
theorem dX7_choose_37 : decode cX7_choose 37 = .ok (.aload_n 0, 1) := by decide +kernel
theorem dX7_choose_38 : decode cX7_choose 38 = .ok (.getfield 21, 3) := by decide +kernel
theorem dX7_choose_41 : decode cX7_choose 41 = .ok (.iload 7, 2) := by decide +kernel
theorem dX7_choose_43 : decode cX7_choose 43 = .ok (.laload, 1) := by decide +kernel
theorem dX7_choose_44 : decode cX7_choose 44 = .ok (.ladd, 1) := by decide +kernel
theorem dX7_choose_45 : decode cX7_choose 45 = .ok (.aload_n 0, 1) := by decide +kernel
theorem dX7_choose_46 : decode cX7_choose 46 = .ok (.getfield 11, 3) := by decide +kernel
theorem dX7_choose_49 : decode cX7_choose 49 = .ok (.iload_n 2, 1) := by decide +kernel
theorem dX7_choose_50 : decode cX7_choose 50 = .ok (.iconst 1, 1) := by decide +kernel
theorem dX7_choose_51 : decode cX7_choose 51 = .ok (.isub, 1) := by decide +kernel
theorem dX7_choose_52 : decode cX7_choose 52 = .ok (.aaload, 1) := by decide +kernel
theorem dX7_choose_53 : decode cX7_choose 53 = .ok (.iload 7, 2) := by decide +kernel
theorem dX7_choose_55 : decode cX7_choose 55 = .ok (.laload, 1) := by decide +kernel
theorem dX7_choose_56 : decode cX7_choose 56 = .ok (.ladd, 1) := by decide +kernel
theorem dX7_choose_57 : decode cX7_choose 57 = .ok (.lstore 8, 2) := by decide +kernel
theorem dX7_choose_59 : decode cX7_choose 59 = .ok (.lload 8, 2) := by decide +kernel
theorem dX7_choose_61 : decode cX7_choose 61 = .ok (.lload 4, 2) := by decide +kernel
theorem dX7_choose_63 : decode cX7_choose 63 = .ok (.lcmp, 1) := by decide +kernel
theorem dX7_choose_64 : decode cX7_choose 64 = .ok (.ifCond .ge 11, 3) := by decide +kernel
theorem dX7_choose_67 : decode cX7_choose 67 = .ok (.lload 8, 2) := by decide +kernel
theorem dX7_choose_69 : decode cX7_choose 69 = .ok (.lstore 4, 2) := by decide +kernel
theorem dX7_choose_71 : decode cX7_choose 71 = .ok (.iload 7, 2) := by decide +kernel
theorem dX7_choose_73 : decode cX7_choose 73 = .ok (.istore 6, 2) := by decide +kernel
theorem dX7_choose_75 : decode cX7_choose 75 = .ok (.iinc 7 1, 3) := by decide +kernel
theorem dX7_choose_78 : decode cX7_choose 78 = .ok (.goto (-63), 3) := by decide +kernel
theorem dX7_choose_81 : decode cX7_choose 81 = .ok (.aload_n 0, 1) := by decide +kernel
theorem dX7_choose_82 : decode cX7_choose 82 = .ok (.getfield 11, 3) := by decide +kernel
theorem dX7_choose_85 : decode cX7_choose 85 = .ok (.iload_n 2, 1) := by decide +kernel
theorem dX7_choose_86 : decode cX7_choose 86 = .ok (.aaload, 1) := by decide +kernel
theorem dX7_choose_87 : decode cX7_choose 87 = .ok (.iload_n 3, 1) := by decide +kernel
theorem dX7_choose_88 : decode cX7_choose 88 = .ok (.lload 4, 2) := by decide +kernel
theorem dX7_choose_90 : decode cX7_choose 90 = .ok (.lastore, 1) := by decide +kernel
theorem dX7_choose_91 : decode cX7_choose 91 = .ok (.aload_n 0, 1) := by decide +kernel
theorem dX7_choose_92 : decode cX7_choose 92 = .ok (.getfield 18, 3) := by decide +kernel
theorem dX7_choose_95 : decode cX7_choose 95 = .ok (.iload_n 2, 1) := by decide +kernel
theorem dX7_choose_96 : decode cX7_choose 96 = .ok (.aaload, 1) := by decide +kernel
theorem dX7_choose_97 : decode cX7_choose 97 = .ok (.iload_n 3, 1) := by decide +kernel
theorem dX7_choose_98 : decode cX7_choose 98 = .ok (.iload 6, 2) := by decide +kernel
theorem dX7_choose_100 : decode cX7_choose 100 = .ok (.iastore, 1) := by decide +kernel
theorem dX7_choose_101 : decode cX7_choose 101 = .ok (.return_, 1) := by decide +kernel
theorem dX7_follow_0 : decode cX7_follow 0 = .ok (.iload_n 2, 1) := by decide +kernel
theorem dX7_follow_1 : decode cX7_follow 1 = .ok (.aload_n 1, 1) := by decide +kernel
theorem dX7_follow_2 : decode cX7_follow 2 = .ok (.getfield 25, 3) := by decide +kernel
theorem dX7_follow_5 : decode cX7_follow 5 = .ok (.invokestatic 42, 3) := by decide +kernel
theorem dX7_follow_8 : decode cX7_follow 8 = .ok (.istore 4, 2) := by decide +kernel
theorem dX7_follow_10 : decode cX7_follow 10 = .ok (.aload_n 3, 1) := by decide +kernel
theorem dX7_follow_11 : decode cX7_follow 11 = .ok (.iload 4, 2) := by decide +kernel
theorem dX7_follow_13 : decode cX7_follow 13 = .ok (.putfield 48, 3) := by decide +kernel
theorem dX7_follow_16 : decode cX7_follow 16 = .ok (.aload_n 3, 1) := by decide +kernel
theorem dX7_follow_17 : decode cX7_follow 17 = .ok (.lconst 0, 1) := by decide +kernel
theorem dX7_follow_18 : decode cX7_follow 18 = .ok (.putfield 53, 3) := by decide +kernel
theorem dX7_follow_21 : decode cX7_follow 21 = .ok (.iconst 0, 1) := by decide +kernel
theorem dX7_follow_22 : decode cX7_follow 22 = .ok (.istore 5, 2) := by decide +kernel
theorem dX7_follow_24 : decode cX7_follow 24 = .ok (.iconst 0, 1) := by decide +kernel
theorem dX7_follow_25 : decode cX7_follow 25 = .ok (.istore 6, 2) := by decide +kernel
theorem dX7_follow_27 : decode cX7_follow 27 = .ok (.iload 6, 2) := by decide +kernel
theorem dX7_follow_29 : decode cX7_follow 29 = .ok (.iload 4, 2) := by decide +kernel
theorem dX7_follow_31 : decode cX7_follow 31 = .ok (.if_icmp .ge 72, 3) := by decide +kernel
theorem dX7_follow_34 : decode cX7_follow 34 = .ok (.iload 6, 2) := by decide +kernel
theorem dX7_follow_36 : decode cX7_follow 36 = .ok (.bipush 6, 2) := by decide +kernel
theorem dX7_follow_38 : decode cX7_follow 38 = .ok (.if_icmp .ge 65, 3) := by decide +kernel
theorem dX7_follow_41 : decode cX7_follow 41 = .ok (.iload 5, 2) := by decide +kernel
theorem dX7_follow_43 : decode cX7_follow 43 = .ok (.aload_n 1, 1) := by decide +kernel
theorem dX7_follow_44 : decode cX7_follow 44 = .ok (.getfield 25, 3) := by decide +kernel
theorem dX7_follow_47 : decode cX7_follow 47 = .ok (.if_icmp .ge 56, 3) := by decide +kernel
theorem dX7_follow_50 : decode cX7_follow 50 = .ok (.aload_n 0, 1) := by decide +kernel
theorem dX7_follow_51 : decode cX7_follow 51 = .ok (.getfield 18, 3) := by decide +kernel
theorem dX7_follow_54 : decode cX7_follow 54 = .ok (.iload 4, 2) := by decide +kernel
theorem dX7_follow_56 : decode cX7_follow 56 = .ok (.iload 6, 2) := by decide +kernel
theorem dX7_follow_58 : decode cX7_follow 58 = .ok (.isub, 1) := by decide +kernel
theorem dX7_follow_59 : decode cX7_follow 59 = .ok (.aaload, 1) := by decide +kernel
theorem dX7_follow_60 : decode cX7_follow 60 = .ok (.iload 5, 2) := by decide +kernel
theorem dX7_follow_62 : decode cX7_follow 62 = .ok (.iaload, 1) := by decide +kernel
theorem dX7_follow_63 : decode cX7_follow 63 = .ok (.istore 7, 2) := by decide +kernel
theorem dX7_follow_65 : decode cX7_follow 65 = .ok (.aload_n 3, 1) := by decide +kernel
theorem dX7_follow_66 : decode cX7_follow 66 = .ok (.getfield 57, 3) := by decide +kernel
theorem dX7_follow_69 : decode cX7_follow 69 = .ok (.iload 6, 2) := by decide +kernel
theorem dX7_follow_71 : decode cX7_follow 71 = .ok (.iload 5, 2) := by decide +kernel
theorem dX7_follow_73 : decode cX7_follow 73 = .ok (.iastore, 1) := by decide +kernel
theorem dX7_follow_74 : decode cX7_follow 74 = .ok (.aload_n 3, 1) := by decide +kernel
theorem dX7_follow_75 : decode cX7_follow 75 = .ok (.dup, 1) := by decide +kernel
theorem dX7_follow_76 : decode cX7_follow 76 = .ok (.getfield 53, 3) := by decide +kernel
theorem dX7_follow_79 : decode cX7_follow 79 = .ok (.aload_n 1, 1) := by decide +kernel
theorem dX7_follow_80 : decode cX7_follow 80 = .ok (.getfield 31, 3) := by decide +kernel
theorem dX7_follow_83 : decode cX7_follow 83 = .ok (.iload 5, 2) := by decide +kernel
theorem dX7_follow_85 : decode cX7_follow 85 = .ok (.aaload, 1) := by decide +kernel
theorem dX7_follow_86 : decode cX7_follow 86 = .ok (.iload 7, 2) := by decide +kernel
theorem dX7_follow_88 : decode cX7_follow 88 = .ok (.laload, 1) := by decide +kernel
theorem dX7_follow_89 : decode cX7_follow 89 = .ok (.ladd, 1) := by decide +kernel
theorem dX7_follow_90 : decode cX7_follow 90 = .ok (.putfield 53, 3) := by decide +kernel
theorem dX7_follow_93 : decode cX7_follow 93 = .ok (.iload 7, 2) := by decide +kernel
theorem dX7_follow_95 : decode cX7_follow 95 = .ok (.istore 5, 2) := by decide +kernel
theorem dX7_follow_97 : decode cX7_follow 97 = .ok (.iinc 6 1, 3) := by decide +kernel
theorem dX7_follow_100 : decode cX7_follow 100 = .ok (.goto (-73), 3) := by decide +kernel
theorem dX7_follow_103 : decode cX7_follow 103 = .ok (.return_, 1) := by decide +kernel
theorem dX8_init_0 : decode cX8_init 0 = .ok (.aload_n 0, 1) := by decide +kernel
theorem dX8_init_1 : decode cX8_init 1 = .ok (.invokespecial 1, 3) := by decide +kernel
theorem dX8_init_4 : decode cX8_init 4 = .ok (.aload_n 0, 1) := by decide +kernel
theorem dX8_init_5 : decode cX8_init 5 = .ok (.new 7, 3) := by decide +kernel
theorem dX8_init_8 : decode cX8_init 8 = .ok (.dup, 1) := by decide +kernel
theorem dX8_init_9 : decode cX8_init 9 = .ok (.invokespecial 9, 3) := by decide +kernel
theorem dX8_init_12 : decode cX8_init 12 = .ok (.putfield 10, 3) := by decide +kernel
theorem dX8_init_15 : decode cX8_init 15 = .ok (.aload_n 0, 1) := by decide +kernel
theorem dX8_init_16 : decode cX8_init 16 = .ok (.new 16, 3) := by decide +kernel
theorem dX8_init_19 : decode cX8_init 19 = .ok (.dup, 1) := by decide +kernel
theorem dX8_init_20 : decode cX8_init 20 = .ok (.invokespecial 18, 3) := by decide +kernel
theorem dX8_init_23 : decode cX8_init 23 = .ok (.putfield 19, 3) := by decide +kernel
theorem dX8_init_26 : decode cX8_init 26 = .ok (.aload_n 0, 1) := by decide +kernel
theorem dX8_init_27 : decode cX8_init 27 = .ok (.iconst 2, 1) := by decide +kernel
theorem dX8_init_28 : decode cX8_init 28 = .ok (.anewarray 7, 3) := by decide +kernel
theorem dX8_init_31 : decode cX8_init 31 = .ok (.putfield 23, 3) := by decide +kernel
theorem dX8_init_34 : decode cX8_init 34 = .ok (.iconst 0, 1) := by decide +kernel
theorem dX8_init_35 : decode cX8_init 35 = .ok (.istore_n 1, 1) := by decide +kernel
theorem dX8_init_36 : decode cX8_init 36 = .ok (.iload_n 1, 1) := by decide +kernel
theorem dX8_init_37 : decode cX8_init 37 = .ok (.iconst 2, 1) := by decide +kernel
theorem dX8_init_38 : decode cX8_init 38 = .ok (.if_icmp .ge 22, 3) := by decide +kernel
theorem dX8_init_41 : decode cX8_init 41 = .ok (.aload_n 0, 1) := by decide +kernel
theorem dX8_init_42 : decode cX8_init 42 = .ok (.getfield 23, 3) := by decide +kernel
theorem dX8_init_45 : decode cX8_init 45 = .ok (.iload_n 1, 1) := by decide +kernel
theorem dX8_init_46 : decode cX8_init 46 = .ok (.new 7, 3) := by decide +kernel
theorem dX8_init_49 : decode cX8_init 49 = .ok (.dup, 1) := by decide +kernel
theorem dX8_init_50 : decode cX8_init 50 = .ok (.invokespecial 9, 3) := by decide +kernel
theorem dX8_init_53 : decode cX8_init 53 = .ok (.aastore, 1) := by decide +kernel
theorem dX8_init_54 : decode cX8_init 54 = .ok (.iinc 1 1, 3) := by decide +kernel
theorem dX8_init_57 : decode cX8_init 57 = .ok (.goto (-21), 3) := by decide +kernel
theorem dX8_init_60 : decode cX8_init 60 = .ok (.aload_n 0, 1) := by decide +kernel
theorem dX8_init_61 : decode cX8_init 61 = .ok (.iconst 2, 1) := by decide +kernel
theorem dX8_init_62 : decode cX8_init 62 = .ok (.newarray .boolean, 2) := by decide +kernel
theorem dX8_init_64 : decode cX8_init 64 = .ok (.putfield 27, 3) := by decide +kernel
theorem dX8_init_67 : decode cX8_init 67 = .ok (.aload_n 0, 1) := by decide +kernel
theorem dX8_init_68 : decode cX8_init 68 = .ok (.new 31, 3) := by decide +kernel
theorem dX8_init_71 : decode cX8_init 71 = .ok (.dup, 1) := by decide +kernel
theorem dX8_init_72 : decode cX8_init 72 = .ok (.invokespecial 33, 3) := by decide +kernel
theorem dX8_init_75 : decode cX8_init 75 = .ok (.putfield 34, 3) := by decide +kernel
theorem dX8_init_78 : decode cX8_init 78 = .ok (.aload_n 0, 1) := by decide +kernel
theorem dX8_init_79 : decode cX8_init 79 = .ok (.new 38, 3) := by decide +kernel
theorem dX8_init_82 : decode cX8_init 82 = .ok (.dup, 1) := by decide +kernel
theorem dX8_init_83 : decode cX8_init 83 = .ok (.aload_n 0, 1) := by decide +kernel
theorem dX8_init_84 : decode cX8_init 84 = .ok (.getfield 10, 3) := by decide +kernel
theorem dX8_init_87 : decode cX8_init 87 = .ok (.invokespecial 40, 3) := by decide +kernel
theorem dX8_init_90 : decode cX8_init 90 = .ok (.putfield 43, 3) := by decide +kernel
theorem dX8_init_93 : decode cX8_init 93 = .ok (.return_, 1) := by decide +kernel
theorem dX8_type_0 : decode cX8_type 0 = .ok (.iload_n 1, 1) := by decide +kernel
theorem dX8_type_1 : decode cX8_type 1 = .ok (.ifCond .lt 10, 3) := by decide +kernel
theorem dX8_type_4 : decode cX8_type 4 = .ok (.iload_n 1, 1) := by decide +kernel
theorem dX8_type_5 : decode cX8_type 5 = .ok (.sipush 255, 3) := by decide +kernel
theorem dX8_type_8 : decode cX8_type 8 = .ok (.if_icmp .le 5, 3) := by decide +kernel
theorem dX8_type_11 : decode cX8_type 11 = .ok (.iconst (-1), 1) := by decide +kernel
theorem dX8_type_12 : decode cX8_type 12 = .ok (.ireturn, 1) := by decide +kernel
theorem dX8_type_13 : decode cX8_type 13 = .ok (.aload_n 0, 1) := by decide +kernel
theorem dX8_type_14 : decode cX8_type 14 = .ok (.getfield 34, 3) := by decide +kernel
theorem dX8_type_17 : decode cX8_type 17 = .ok (.iload_n 1, 1) := by decide +kernel
theorem dX8_type_18 : decode cX8_type 18 = .ok (.invokevirtual 47, 3) := by decide +kernel
theorem dX8_type_21 : decode cX8_type 21 = .ok (.ifCond .eq 13, 3) := by decide +kernel
theorem dX8_type_24 : decode cX8_type 24 = .ok (.aload_n 0, 1) := by decide +kernel
theorem dX8_type_25 : decode cX8_type 25 = .ok (.getfield 34, 3) := by decide +kernel
theorem dX8_type_28 : decode cX8_type 28 = .ok (.getfield 51, 3) := by decide +kernel
theorem dX8_type_31 : decode cX8_type 31 = .ok (.goto 5, 3) := by decide +kernel
theorem dX8_type_34 : decode cX8_type 34 = .ok (.bipush (-3), 2) := by decide +kernel
theorem dX8_type_36 : decode cX8_type 36 = .ok (.ireturn, 1) := by decide +kernel
theorem dX8_clear_0 : decode cX8_clear 0 = .ok (.aload_n 0, 1) := by decide +kernel
theorem dX8_clear_1 : decode cX8_clear 1 = .ok (.getfield 34, 3) := by decide +kernel
theorem dX8_clear_4 : decode cX8_clear 4 = .ok (.getfield 51, 3) := by decide +kernel
theorem dX8_clear_7 : decode cX8_clear 7 = .ok (.istore_n 1, 1) := by decide +kernel
theorem dX8_clear_8 : decode cX8_clear 8 = .ok (.aload_n 0, 1) := by decide +kernel
theorem dX8_clear_9 : decode cX8_clear 9 = .ok (.getfield 34, 3) := by decide +kernel
theorem dX8_clear_12 : decode cX8_clear 12 = .ok (.iconst 0, 1) := by decide +kernel
theorem dX8_clear_13 : decode cX8_clear 13 = .ok (.putfield 51, 3) := by decide +kernel
theorem dX8_clear_16 : decode cX8_clear 16 = .ok (.iload_n 1, 1) := by decide +kernel
theorem dX8_clear_17 : decode cX8_clear 17 = .ok (.ireturn, 1) := by decide +kernel
theorem dX8_map_0 : decode cX8_map 0 = .ok (.aload_n 0, 1) := by decide +kernel
theorem dX8_map_1 : decode cX8_map 1 = .ok (.getfield 34, 3) := by decide +kernel
theorem dX8_map_4 : decode cX8_map 4 = .ok (.invokevirtual 55, 3) := by decide +kernel
theorem dX8_map_7 : decode cX8_map 7 = .ok (.istore_n 1, 1) := by decide +kernel
theorem dX8_map_8 : decode cX8_map 8 = .ok (.iload_n 1, 1) := by decide +kernel
theorem dX8_map_9 : decode cX8_map 9 = .ok (.ifCond .ge 5, 3) := by decide +kernel
theorem dX8_map_12 : decode cX8_map 12 = .ok (.iload_n 1, 1) := by decide +kernel
theorem dX8_map_13 : decode cX8_map 13 = .ok (.ireturn, 1) := by decide +kernel
theorem dX8_map_14 : decode cX8_map 14 = .ok (.aload_n 0, 1) := by decide +kernel
theorem dX8_map_15 : decode cX8_map 15 = .ok (.getfield 10, 3) := by decide +kernel
theorem dX8_map_18 : decode cX8_map 18 = .ok (.aload_n 0, 1) := by decide +kernel
theorem dX8_map_19 : decode cX8_map 19 = .ok (.getfield 34, 3) := by decide +kernel
theorem dX8_map_22 : decode cX8_map 22 = .ok (.getfield 59, 3) := by decide +kernel
theorem dX8_map_25 : decode cX8_map 25 = .ok (.invokevirtual 60, 3) := by decide +kernel
theorem dX8_map_28 : decode cX8_map 28 = .ok (.aload_n 0, 1) := by decide +kernel
theorem dX8_map_29 : decode cX8_map 29 = .ok (.getfield 34, 3) := by decide +kernel
theorem dX8_map_32 : decode cX8_map 32 = .ok (.iconst 0, 1) := by decide +kernel
theorem dX8_map_33 : decode cX8_map 33 = .ok (.putfield 51, 3) := by decide +kernel
theorem dX8_map_36 : decode cX8_map 36 = .ok (.aload_n 0, 1) := by decide +kernel
theorem dX8_map_37 : decode cX8_map 37 = .ok (.getfield 19, 3) := by decide +kernel
theorem dX8_map_40 : decode cX8_map 40 = .ok (.invokevirtual 63, 3) := by decide +kernel
theorem dX8_map_43 : decode cX8_map 43 = .ok (.iconst 0, 1) := by decide +kernel
theorem dX8_map_44 : decode cX8_map 44 = .ok (.istore_n 2, 1) := by decide +kernel
theorem dX8_map_45 : decode cX8_map 45 = .ok (.iload_n 2, 1) := by decide +kernel
theorem dX8_map_46 : decode cX8_map 46 = .ok (.iconst 2, 1) := by decide +kernel
theorem dX8_map_47 : decode cX8_map 47 = .ok (.if_icmp .ge 16, 3) := by decide +kernel
theorem dX8_map_50 : decode cX8_map 50 = .ok (.aload_n 0, 1) := by decide +kernel
theorem dX8_map_51 : decode cX8_map 51 = .ok (.getfield 27, 3) := by decide +kernel
theorem dX8_map_54 : decode cX8_map 54 = .ok (.iload_n 2, 1) := by decide +kernel
theorem dX8_map_55 : decode cX8_map 55 = .ok (.iconst 0, 1) := by decide +kernel
theorem dX8_map_56 : decode cX8_map 56 = .ok (.bastore, 1) := by decide +kernel
theorem dX8_map_57 : decode cX8_map 57 = .ok (.iinc 2 1, 3) := by decide +kernel
theorem dX8_map_60 : decode cX8_map 60 = .ok (.goto (-15), 3) := by decide +kernel
theorem dX8_map_63 : decode cX8_map 63 = .ok (.aload_n 0, 1) := by decide +kernel
theorem dX8_map_64 : decode cX8_map 64 = .ok (.getfield 43, 3) := by decide +kernel
theorem dX8_map_67 : decode cX8_map 67 = .ok (.invokevirtual 66, 3) := by decide +kernel
theorem dX8_map_70 : decode cX8_map 70 = .ok (.iload_n 1, 1) := by decide +kernel
theorem dX8_map_71 : decode cX8_map 71 = .ok (.ireturn, 1) := by decide +kernel
theorem dX8_puts_0 : decode cX8_puts 0 = .ok (.iload_n 1, 1) := by decide +kernel
theorem dX8_puts_1 : decode cX8_puts 1 = .ok (.iload_n 2, 1) := by decide +kernel
theorem dX8_puts_2 : decode cX8_puts 2 = .ok (.invokestatic 67, 3) := by decide +kernel
theorem dX8_puts_5 : decode cX8_puts 5 = .ok (.istore 4, 2) := by decide +kernel
theorem dX8_puts_7 : decode cX8_puts 7 = .ok (.iload 4, 2) := by decide +kernel
theorem dX8_puts_9 : decode cX8_puts 9 = .ok (.ifCond .lt 14, 3) := by decide +kernel
theorem dX8_puts_12 : decode cX8_puts 12 = .ok (.iload_n 3, 1) := by decide +kernel
theorem dX8_puts_13 : decode cX8_puts 13 = .ok (.ifCond .lt 10, 3) := by decide +kernel
theorem dX8_puts_16 : decode cX8_puts 16 = .ok (.iload_n 3, 1) := by decide +kernel
theorem dX8_puts_17 : decode cX8_puts 17 = .ok (.sipush 999, 3) := by decide +kernel
theorem dX8_puts_20 : decode cX8_puts 20 = .ok (.if_icmp .le 5, 3) := by decide +kernel
theorem dX8_puts_23 : decode cX8_puts 23 = .ok (.iconst (-1), 1) := by decide +kernel
theorem dX8_puts_24 : decode cX8_puts 24 = .ok (.ireturn, 1) := by decide +kernel
theorem dX8_puts_25 : decode cX8_puts 25 = .ok (.aload_n 0, 1) := by decide +kernel
theorem dX8_puts_26 : decode cX8_puts 26 = .ok (.getfield 10, 3) := by decide +kernel
theorem dX8_puts_29 : decode cX8_puts 29 = .ok (.getfield 71, 3) := by decide +kernel
theorem dX8_puts_32 : decode cX8_puts 32 = .ok (.iload 4, 2) := by decide +kernel
theorem dX8_puts_34 : decode cX8_puts 34 = .ok (.iaload, 1) := by decide +kernel
theorem dX8_puts_35 : decode cX8_puts 35 = .ok (.istore 5, 2) := by decide +kernel
theorem dX8_puts_37 : decode cX8_puts 37 = .ok (.iload 5, 2) := by decide +kernel
theorem dX8_puts_39 : decode cX8_puts 39 = .ok (.iconst (-1), 1) := by decide +kernel
theorem dX8_puts_40 : decode cX8_puts 40 = .ok (.if_icmp .ne 18, 3) := by decide +kernel
theorem dX8_puts_43 : decode cX8_puts 43 = .ok (.aload_n 0, 1) := by decide +kernel
theorem dX8_puts_44 : decode cX8_puts 44 = .ok (.getfield 10, 3) := by decide +kernel
theorem dX8_puts_47 : decode cX8_puts 47 = .ok (.invokevirtual 75, 3) := by decide +kernel
theorem dX8_puts_50 : decode cX8_puts 50 = .ok (.bipush 24, 2) := by decide +kernel
theorem dX8_puts_52 : decode cX8_puts 52 = .ok (.if_icmp .lt 6, 3) := by decide +kernel
theorem dX8_puts_55 : decode cX8_puts 55 = .ok (.bipush (-3), 2) := by decide +kernel
theorem dX8_puts_57 : decode cX8_puts 57 = .ok (.ireturn, 1) := by decide +kernel
theorem dX8_puts_58 : decode cX8_puts 58 = .ok (.aload_n 0, 1) := by decide +kernel
theorem dX8_puts_59 : decode cX8_puts 59 = .ok (.invokevirtual 78, 3) := by decide +kernel
theorem dX8_puts_62 : decode cX8_puts 62 = .ok (.aload_n 0, 1) := by decide +kernel
theorem dX8_puts_63 : decode cX8_puts 63 = .ok (.getfield 10, 3) := by decide +kernel
theorem dX8_puts_66 : decode cX8_puts 66 = .ok (.getfield 71, 3) := by decide +kernel
theorem dX8_puts_69 : decode cX8_puts 69 = .ok (.iload 4, 2) := by decide +kernel
theorem dX8_puts_71 : decode cX8_puts 71 = .ok (.iload_n 3, 1) := by decide +kernel
theorem dX8_puts_72 : decode cX8_puts 72 = .ok (.iastore, 1) := by decide +kernel
theorem dX8_puts_73 : decode cX8_puts 73 = .ok (.iload 5, 2) := by decide +kernel
theorem dX8_puts_75 : decode cX8_puts 75 = .ok (.iconst (-1), 1) := by decide +kernel
theorem dX8_puts_76 : decode cX8_puts 76 = .ok (.if_icmp .ne 8, 3) := by decide +kernel
theorem dX8_puts_79 : decode cX8_puts 79 = .ok (.bipush (-9), 2) := by decide +kernel
theorem dX8_puts_81 : decode cX8_puts 81 = .ok (.goto 5, 3) := by decide +kernel
theorem dX8_puts_84 : decode cX8_puts 84 = .ok (.iload 5, 2) := by decide +kernel
theorem dX8_puts_86 : decode cX8_puts 86 = .ok (.ireturn, 1) := by decide +kernel
theorem dX8_drops_0 : decode cX8_drops 0 = .ok (.iload_n 1, 1) := by decide +kernel
theorem dX8_drops_1 : decode cX8_drops 1 = .ok (.iload_n 2, 1) := by decide +kernel
theorem dX8_drops_2 : decode cX8_drops 2 = .ok (.invokestatic 67, 3) := by decide +kernel
theorem dX8_drops_5 : decode cX8_drops 5 = .ok (.istore_n 3, 1) := by decide +kernel
theorem dX8_drops_6 : decode cX8_drops 6 = .ok (.iload_n 3, 1) := by decide +kernel
theorem dX8_drops_7 : decode cX8_drops 7 = .ok (.ifCond .ge 5, 3) := by decide +kernel
theorem dX8_drops_10 : decode cX8_drops 10 = .ok (.iconst (-1), 1) := by decide +kernel
theorem dX8_drops_11 : decode cX8_drops 11 = .ok (.ireturn, 1) := by decide +kernel
theorem dX8_drops_12 : decode cX8_drops 12 = .ok (.aload_n 0, 1) := by decide +kernel
theorem dX8_drops_13 : decode cX8_drops 13 = .ok (.getfield 10, 3) := by decide +kernel
theorem dX8_drops_16 : decode cX8_drops 16 = .ok (.getfield 71, 3) := by decide +kernel
theorem dX8_drops_19 : decode cX8_drops 19 = .ok (.iload_n 3, 1) := by decide +kernel
theorem dX8_drops_20 : decode cX8_drops 20 = .ok (.iaload, 1) := by decide +kernel
theorem dX8_drops_21 : decode cX8_drops 21 = .ok (.istore 4, 2) := by decide +kernel
theorem dX8_drops_23 : decode cX8_drops 23 = .ok (.iload 4, 2) := by decide +kernel
theorem dX8_drops_25 : decode cX8_drops 25 = .ok (.iconst (-1), 1) := by decide +kernel
theorem dX8_drops_26 : decode cX8_drops 26 = .ok (.if_icmp .ne 6, 3) := by decide +kernel
theorem dX8_drops_29 : decode cX8_drops 29 = .ok (.bipush (-2), 2) := by decide +kernel
theorem dX8_drops_31 : decode cX8_drops 31 = .ok (.ireturn, 1) := by decide +kernel
theorem dX8_drops_32 : decode cX8_drops 32 = .ok (.aload_n 0, 1) := by decide +kernel
theorem dX8_drops_33 : decode cX8_drops 33 = .ok (.invokevirtual 78, 3) := by decide +kernel
theorem dX8_drops_36 : decode cX8_drops 36 = .ok (.aload_n 0, 1) := by decide +kernel
theorem dX8_drops_37 : decode cX8_drops 37 = .ok (.getfield 10, 3) := by decide +kernel
theorem dX8_drops_40 : decode cX8_drops 40 = .ok (.getfield 71, 3) := by decide +kernel
theorem dX8_drops_43 : decode cX8_drops 43 = .ok (.iload_n 3, 1) := by decide +kernel
theorem dX8_drops_44 : decode cX8_drops 44 = .ok (.iconst (-1), 1) := by decide +kernel
theorem dX8_drops_45 : decode cX8_drops 45 = .ok (.iastore, 1) := by decide +kernel
theorem dX8_drops_46 : decode cX8_drops 46 = .ok (.iload 4, 2) := by decide +kernel
theorem dX8_drops_48 : decode cX8_drops 48 = .ok (.ireturn, 1) := by decide +kernel
theorem dX8_asks_0 : decode cX8_asks 0 = .ok (.iload_n 1, 1) := by decide +kernel
theorem dX8_asks_1 : decode cX8_asks 1 = .ok (.invokestatic 81, 3) := by decide +kernel
theorem dX8_asks_4 : decode cX8_asks 4 = .ok (.ifCond .ne 5, 3) := by decide +kernel
theorem dX8_asks_7 : decode cX8_asks 7 = .ok (.iconst (-1), 1) := by decide +kernel
theorem dX8_asks_8 : decode cX8_asks 8 = .ok (.ireturn, 1) := by decide +kernel
theorem dX8_asks_9 : decode cX8_asks 9 = .ok (.aload_n 0, 1) := by decide +kernel
theorem dX8_asks_10 : decode cX8_asks 10 = .ok (.getfield 10, 3) := by decide +kernel
theorem dX8_asks_13 : decode cX8_asks 13 = .ok (.getfield 84, 3) := by decide +kernel
theorem dX8_asks_16 : decode cX8_asks 16 = .ok (.istore_n 2, 1) := by decide +kernel
theorem dX8_asks_17 : decode cX8_asks 17 = .ok (.iload_n 2, 1) := by decide +kernel
theorem dX8_asks_18 : decode cX8_asks 18 = .ok (.iload_n 1, 1) := by decide +kernel
theorem dX8_asks_19 : decode cX8_asks 19 = .ok (.if_icmp .ne 6, 3) := by decide +kernel
theorem dX8_asks_22 : decode cX8_asks 22 = .ok (.bipush (-2), 2) := by decide +kernel
theorem dX8_asks_24 : decode cX8_asks 24 = .ok (.ireturn, 1) := by decide +kernel
theorem dX8_asks_25 : decode cX8_asks 25 = .ok (.aload_n 0, 1) := by decide +kernel
theorem dX8_asks_26 : decode cX8_asks 26 = .ok (.invokevirtual 78, 3) := by decide +kernel
theorem dX8_asks_29 : decode cX8_asks 29 = .ok (.aload_n 0, 1) := by decide +kernel
theorem dX8_asks_30 : decode cX8_asks 30 = .ok (.getfield 10, 3) := by decide +kernel
theorem dX8_asks_33 : decode cX8_asks 33 = .ok (.iload_n 1, 1) := by decide +kernel
theorem dX8_asks_34 : decode cX8_asks 34 = .ok (.putfield 84, 3) := by decide +kernel
theorem dX8_asks_37 : decode cX8_asks 37 = .ok (.iload_n 2, 1) := by decide +kernel
theorem dX8_asks_38 : decode cX8_asks 38 = .ok (.ireturn, 1) := by decide +kernel
theorem dX8_costs_0 : decode cX8_costs 0 = .ok (.iload_n 1, 1) := by decide +kernel
theorem dX8_costs_1 : decode cX8_costs 1 = .ok (.ifCond .lt 10, 3) := by decide +kernel
theorem dX8_costs_4 : decode cX8_costs 4 = .ok (.iload_n 1, 1) := by decide +kernel
theorem dX8_costs_5 : decode cX8_costs 5 = .ok (.sipush 999, 3) := by decide +kernel
theorem dX8_costs_8 : decode cX8_costs 8 = .ok (.if_icmp .le 5, 3) := by decide +kernel
theorem dX8_costs_11 : decode cX8_costs 11 = .ok (.iconst (-1), 1) := by decide +kernel
theorem dX8_costs_12 : decode cX8_costs 12 = .ok (.ireturn, 1) := by decide +kernel
theorem dX8_costs_13 : decode cX8_costs 13 = .ok (.aload_n 0, 1) := by decide +kernel
theorem dX8_costs_14 : decode cX8_costs 14 = .ok (.getfield 10, 3) := by decide +kernel
theorem dX8_costs_17 : decode cX8_costs 17 = .ok (.getfield 87, 3) := by decide +kernel
theorem dX8_costs_20 : decode cX8_costs 20 = .ok (.istore_n 2, 1) := by decide +kernel
theorem dX8_costs_21 : decode cX8_costs 21 = .ok (.iload_n 2, 1) := by decide +kernel
theorem dX8_costs_22 : decode cX8_costs 22 = .ok (.iload_n 1, 1) := by decide +kernel
theorem dX8_costs_23 : decode cX8_costs 23 = .ok (.if_icmp .ne 6, 3) := by decide +kernel
theorem dX8_costs_26 : decode cX8_costs 26 = .ok (.bipush (-2), 2) := by decide +kernel
theorem dX8_costs_28 : decode cX8_costs 28 = .ok (.ireturn, 1) := by decide +kernel
theorem dX8_costs_29 : decode cX8_costs 29 = .ok (.aload_n 0, 1) := by decide +kernel
theorem dX8_costs_30 : decode cX8_costs 30 = .ok (.invokevirtual 78, 3) := by decide +kernel
theorem dX8_costs_33 : decode cX8_costs 33 = .ok (.aload_n 0, 1) := by decide +kernel
theorem dX8_costs_34 : decode cX8_costs 34 = .ok (.getfield 10, 3) := by decide +kernel
theorem dX8_costs_37 : decode cX8_costs 37 = .ok (.iload_n 1, 1) := by decide +kernel
theorem dX8_costs_38 : decode cX8_costs 38 = .ok (.putfield 87, 3) := by decide +kernel
theorem dX8_costs_41 : decode cX8_costs 41 = .ok (.iload_n 2, 1) := by decide +kernel
theorem dX8_costs_42 : decode cX8_costs 42 = .ok (.ireturn, 1) := by decide +kernel
theorem dX8_closes_0 : decode cX8_closes 0 = .ok (.aload_n 0, 1) := by decide +kernel
theorem dX8_closes_1 : decode cX8_closes 1 = .ok (.getfield 43, 3) := by decide +kernel
theorem dX8_closes_4 : decode cX8_closes 4 = .ok (.invokevirtual 90, 3) := by decide +kernel
theorem dX8_closes_7 : decode cX8_closes 7 = .ok (.astore_n 1, 1) := by decide +kernel
theorem dX8_closes_8 : decode cX8_closes 8 = .ok (.aload_n 0, 1) := by decide +kernel
theorem dX8_closes_9 : decode cX8_closes 9 = .ok (.getfield 43, 3) := by decide +kernel
theorem dX8_closes_12 : decode cX8_closes 12 = .ok (.invokevirtual 94, 3) := by decide +kernel
theorem dX8_closes_15 : decode cX8_closes 15 = .ok (.astore_n 2, 1) := by decide +kernel
theorem dX8_closes_16 : decode cX8_closes 16 = .ok (.aload_n 0, 1) := by decide +kernel
theorem dX8_closes_17 : decode cX8_closes 17 = .ok (.aload_n 1, 1) := by decide +kernel
theorem dX8_closes_18 : decode cX8_closes 18 = .ok (.aload_n 2, 1) := by decide +kernel
theorem dX8_closes_19 : decode cX8_closes 19 = .ok (.invokevirtual 98, 3) := by decide +kernel
theorem dX8_closes_22 : decode cX8_closes 22 = .ok (.istore_n 3, 1) := by decide +kernel
theorem dX8_closes_23 : decode cX8_closes 23 = .ok (.aload_n 0, 1) := by decide +kernel
theorem dX8_closes_24 : decode cX8_closes 24 = .ok (.invokevirtual 78, 3) := by decide +kernel
theorem dX8_closes_27 : decode cX8_closes 27 = .ok (.aload_n 0, 1) := by decide +kernel
theorem dX8_closes_28 : decode cX8_closes 28 = .ok (.getfield 10, 3) := by decide +kernel
theorem dX8_closes_31 : decode cX8_closes 31 = .ok (.aload_n 1, 1) := by decide +kernel
theorem dX8_closes_32 : decode cX8_closes 32 = .ok (.getfield 102, 3) := by decide +kernel
theorem dX8_closes_35 : decode cX8_closes 35 = .ok (.iconst 1, 1) := by decide +kernel
theorem dX8_closes_36 : decode cX8_closes 36 = .ok (.isub, 1) := by decide +kernel
theorem dX8_closes_37 : decode cX8_closes 37 = .ok (.iconst 0, 1) := by decide +kernel
theorem dX8_closes_38 : decode cX8_closes 38 = .ok (.invokestatic 107, 3) := by decide +kernel
theorem dX8_closes_41 : decode cX8_closes 41 = .ok (.putfield 112, 3) := by decide +kernel
theorem dX8_closes_44 : decode cX8_closes 44 = .ok (.iconst 0, 1) := by decide +kernel
theorem dX8_closes_45 : decode cX8_closes 45 = .ok (.istore 4, 2) := by decide +kernel
theorem dX8_closes_47 : decode cX8_closes 47 = .ok (.iload 4, 2) := by decide +kernel
theorem dX8_closes_49 : decode cX8_closes 49 = .ok (.aload_n 0, 1) := by decide +kernel
theorem dX8_closes_50 : decode cX8_closes 50 = .ok (.getfield 10, 3) := by decide +kernel
theorem dX8_closes_53 : decode cX8_closes 53 = .ok (.getfield 112, 3) := by decide +kernel
theorem dX8_closes_56 : decode cX8_closes 56 = .ok (.if_icmp .ge 44, 3) := by decide +kernel
theorem dX8_closes_59 : decode cX8_closes 59 = .ok (.iload 4, 2) := by decide +kernel
theorem dX8_closes_61 : decode cX8_closes 61 = .ok (.aload_n 0, 1) := by decide +kernel
theorem dX8_closes_62 : decode cX8_closes 62 = .ok (.getfield 10, 3) := by decide +kernel
theorem dX8_closes_65 : decode cX8_closes 65 = .ok (.getfield 115, 3) := by decide +kernel
theorem dX8_closes_68 : decode cX8_closes 68 = .ok (.arraylength, 1) := by decide +kernel
theorem dX8_closes_69 : decode cX8_closes 69 = .ok (.if_icmp .ge 31, 3) := by decide +kernel
theorem dX8_closes_72 : decode cX8_closes 72 = .ok (.aload_n 0, 1) := by decide +kernel
theorem dX8_closes_73 : decode cX8_closes 73 = .ok (.getfield 10, 3) := by decide +kernel
theorem dX8_closes_76 : decode cX8_closes 76 = .ok (.getfield 115, 3) := by decide +kernel
theorem dX8_closes_79 : decode cX8_closes 79 = .ok (.iload 4, 2) := by decide +kernel
theorem dX8_closes_81 : decode cX8_closes 81 = .ok (.aload_n 2, 1) := by decide +kernel
theorem dX8_closes_82 : decode cX8_closes 82 = .ok (.aload_n 1, 1) := by decide +kernel
theorem dX8_closes_83 : decode cX8_closes 83 = .ok (.iload 4, 2) := by decide +kernel
theorem dX8_closes_85 : decode cX8_closes 85 = .ok (.iconst 1, 1) := by decide +kernel
theorem dX8_closes_86 : decode cX8_closes 86 = .ok (.iadd, 1) := by decide +kernel
theorem dX8_closes_87 : decode cX8_closes 87 = .ok (.invokevirtual 118, 3) := by decide +kernel
theorem dX8_closes_90 : decode cX8_closes 90 = .ok (.invokevirtual 122, 3) := by decide +kernel
theorem dX8_closes_93 : decode cX8_closes 93 = .ok (.iastore, 1) := by decide +kernel
theorem dX8_closes_94 : decode cX8_closes 94 = .ok (.iinc 4 1, 3) := by decide +kernel
theorem dX8_closes_97 : decode cX8_closes 97 = .ok (.goto (-50), 3) := by decide +kernel
theorem dX8_closes_100 : decode cX8_closes 100 = .ok (.iload_n 3, 1) := by decide +kernel
theorem dX8_closes_101 : decode cX8_closes 101 = .ok (.ireturn, 1) := by decide +kernel
theorem dX8_undo_0 : decode cX8_undo 0 = .ok (.aload_n 0, 1) := by decide +kernel
theorem dX8_undo_1 : decode cX8_undo 1 = .ok (.getfield 19, 3) := by decide +kernel
theorem dX8_undo_4 : decode cX8_undo 4 = .ok (.getfield 127, 3) := by decide +kernel
theorem dX8_undo_7 : decode cX8_undo 7 = .ok (.ifCond .ne 6, 3) := by decide +kernel
theorem dX8_undo_10 : decode cX8_undo 10 = .ok (.bipush (-2), 2) := by decide +kernel
theorem dX8_undo_12 : decode cX8_undo 12 = .ok (.ireturn, 1) := by decide +kernel
theorem dX8_undo_13 : decode cX8_undo 13 = .ok (.aload_n 0, 1) := by decide +kernel
theorem dX8_undo_14 : decode cX8_undo 14 = .ok (.getfield 19, 3) := by decide +kernel
theorem dX8_undo_17 : decode cX8_undo 17 = .ok (.aload_n 0, 1) := by decide +kernel
theorem dX8_undo_18 : decode cX8_undo 18 = .ok (.getfield 10, 3) := by decide +kernel
theorem dX8_undo_21 : decode cX8_undo 21 = .ok (.invokevirtual 130, 3) := by decide +kernel
theorem dX8_undo_24 : decode cX8_undo 24 = .ok (.aload_n 0, 1) := by decide +kernel
theorem dX8_undo_25 : decode cX8_undo 25 = .ok (.getfield 43, 3) := by decide +kernel
theorem dX8_undo_28 : decode cX8_undo 28 = .ok (.invokevirtual 66, 3) := by decide +kernel
theorem dX8_undo_31 : decode cX8_undo 31 = .ok (.aload_n 0, 1) := by decide +kernel
theorem dX8_undo_32 : decode cX8_undo 32 = .ok (.getfield 19, 3) := by decide +kernel
theorem dX8_undo_35 : decode cX8_undo 35 = .ok (.getfield 127, 3) := by decide +kernel
theorem dX8_undo_38 : decode cX8_undo 38 = .ok (.ireturn, 1) := by decide +kernel
theorem dX8_place_0 : decode cX8_place 0 = .ok (.iload_n 1, 1) := by decide +kernel
theorem dX8_place_1 : decode cX8_place 1 = .ok (.iload_n 2, 1) := by decide +kernel
theorem dX8_place_2 : decode cX8_place 2 = .ok (.invokestatic 67, 3) := by decide +kernel
theorem dX8_place_5 : decode cX8_place 5 = .ok (.istore 4, 2) := by decide +kernel
theorem dX8_place_7 : decode cX8_place 7 = .ok (.iload 4, 2) := by decide +kernel
theorem dX8_place_9 : decode cX8_place 9 = .ok (.ifCond .lt 12, 3) := by decide +kernel
theorem dX8_place_12 : decode cX8_place 12 = .ok (.iload_n 3, 1) := by decide +kernel
theorem dX8_place_13 : decode cX8_place 13 = .ok (.ifCond .lt 8, 3) := by decide +kernel
theorem dX8_place_16 : decode cX8_place 16 = .ok (.iload_n 3, 1) := by decide +kernel
theorem dX8_place_17 : decode cX8_place 17 = .ok (.iconst 2, 1) := by decide +kernel
theorem dX8_place_18 : decode cX8_place 18 = .ok (.if_icmp .le 5, 3) := by decide +kernel
theorem dX8_place_21 : decode cX8_place 21 = .ok (.iconst (-1), 1) := by decide +kernel
theorem dX8_place_22 : decode cX8_place 22 = .ok (.ireturn, 1) := by decide +kernel
theorem dX8_place_23 : decode cX8_place 23 = .ok (.aload_n 0, 1) := by decide +kernel
theorem dX8_place_24 : decode cX8_place 24 = .ok (.getfield 10, 3) := by decide +kernel
theorem dX8_place_27 : decode cX8_place 27 = .ok (.getfield 71, 3) := by decide +kernel
theorem dX8_place_30 : decode cX8_place 30 = .ok (.iload 4, 2) := by decide +kernel
theorem dX8_place_32 : decode cX8_place 32 = .ok (.iaload, 1) := by decide +kernel
theorem dX8_place_33 : decode cX8_place 33 = .ok (.istore 5, 2) := by decide +kernel
theorem dX8_place_35 : decode cX8_place 35 = .ok (.iload 5, 2) := by decide +kernel
theorem dX8_place_37 : decode cX8_place 37 = .ok (.iconst (-1), 1) := by decide +kernel
theorem dX8_place_38 : decode cX8_place 38 = .ok (.if_icmp .ne 6, 3) := by decide +kernel
theorem dX8_place_41 : decode cX8_place 41 = .ok (.bipush (-9), 2) := by decide +kernel
theorem dX8_place_43 : decode cX8_place 43 = .ok (.ireturn, 1) := by decide +kernel
theorem dX8_place_44 : decode cX8_place 44 = .ok (.iload_n 3, 1) := by decide +kernel
theorem dX8_place_45 : decode cX8_place 45 = .ok (.ifCond .ne 6, 3) := by decide +kernel
theorem dX8_place_48 : decode cX8_place 48 = .ok (.iload 5, 2) := by decide +kernel
theorem dX8_place_50 : decode cX8_place 50 = .ok (.ireturn, 1) := by decide +kernel
theorem dX8_place_51 : decode cX8_place 51 = .ok (.aload_n 0, 1) := by decide +kernel
theorem dX8_place_52 : decode cX8_place 52 = .ok (.getfield 43, 3) := by decide +kernel
theorem dX8_place_55 : decode cX8_place 55 = .ok (.invokevirtual 90, 3) := by decide +kernel
theorem dX8_place_58 : decode cX8_place 58 = .ok (.astore 6, 2) := by decide +kernel
theorem dX8_place_60 : decode cX8_place 60 = .ok (.aload 6, 2) := by decide +kernel
theorem dX8_place_62 : decode cX8_place 62 = .ok (.aload_n 0, 1) := by decide +kernel
theorem dX8_place_63 : decode cX8_place 63 = .ok (.getfield 43, 3) := by decide +kernel
theorem dX8_place_66 : decode cX8_place 66 = .ok (.invokevirtual 94, 3) := by decide +kernel
theorem dX8_place_69 : decode cX8_place 69 = .ok (.iload 5, 2) := by decide +kernel
theorem dX8_place_71 : decode cX8_place 71 = .ok (.invokevirtual 133, 3) := by decide +kernel
theorem dX8_place_74 : decode cX8_place 74 = .ok (.invokevirtual 136, 3) := by decide +kernel
theorem dX8_place_77 : decode cX8_place 77 = .ok (.istore 7, 2) := by decide +kernel
theorem dX8_place_79 : decode cX8_place 79 = .ok (.iload_n 3, 1) := by decide +kernel
theorem dX8_place_80 : decode cX8_place 80 = .ok (.iconst 1, 1) := by decide +kernel
theorem dX8_place_81 : decode cX8_place 81 = .ok (.if_icmp .ne 8, 3) := by decide +kernel
theorem dX8_place_84 : decode cX8_place 84 = .ok (.iload 7, 2) := by decide +kernel
theorem dX8_place_86 : decode cX8_place 86 = .ok (.goto 13, 3) := by decide +kernel
theorem dX8_place_89 : decode cX8_place 89 = .ok (.iload 7, 2) := by decide +kernel
theorem dX8_place_91 : decode cX8_place 91 = .ok (.aload 6, 2) := by decide +kernel
theorem dX8_place_93 : decode cX8_place 93 = .ok (.getfield 102, 3) := by decide +kernel
theorem dX8_place_96 : decode cX8_place 96 = .ok (.invokestatic 139, 3) := by decide +kernel
theorem dX8_place_99 : decode cX8_place 99 = .ok (.ireturn, 1) := by decide +kernel
theorem dX8_sorted_0 : decode cX8_sorted 0 = .ok (.aload_n 0, 1) := by decide +kernel
theorem dX8_sorted_1 : decode cX8_sorted 1 = .ok (.getfield 43, 3) := by decide +kernel
theorem dX8_sorted_4 : decode cX8_sorted 4 = .ok (.invokevirtual 94, 3) := by decide +kernel
theorem dX8_sorted_7 : decode cX8_sorted 7 = .ok (.astore_n 3, 1) := by decide +kernel
theorem dX8_sorted_8 : decode cX8_sorted 8 = .ok (.iload_n 1, 1) := by decide +kernel
theorem dX8_sorted_9 : decode cX8_sorted 9 = .ok (.ifCond .lt 20, 3) := by decide +kernel
theorem dX8_sorted_12 : decode cX8_sorted 12 = .ok (.iload_n 1, 1) := by decide +kernel
theorem dX8_sorted_13 : decode cX8_sorted 13 = .ok (.aload_n 3, 1) := by decide +kernel
theorem dX8_sorted_14 : decode cX8_sorted 14 = .ok (.getfield 142, 3) := by decide +kernel
theorem dX8_sorted_17 : decode cX8_sorted 17 = .ok (.if_icmp .ge 12, 3) := by decide +kernel
theorem dX8_sorted_20 : decode cX8_sorted 20 = .ok (.iload_n 2, 1) := by decide +kernel
theorem dX8_sorted_21 : decode cX8_sorted 21 = .ok (.ifCond .lt 8, 3) := by decide +kernel
theorem dX8_sorted_24 : decode cX8_sorted 24 = .ok (.iload_n 2, 1) := by decide +kernel
theorem dX8_sorted_25 : decode cX8_sorted 25 = .ok (.iconst 2, 1) := by decide +kernel
theorem dX8_sorted_26 : decode cX8_sorted 26 = .ok (.if_icmp .le 5, 3) := by decide +kernel
theorem dX8_sorted_29 : decode cX8_sorted 29 = .ok (.iconst (-1), 1) := by decide +kernel
theorem dX8_sorted_30 : decode cX8_sorted 30 = .ok (.ireturn, 1) := by decide +kernel
theorem dX8_sorted_31 : decode cX8_sorted 31 = .ok (.iload_n 2, 1) := by decide +kernel
theorem dX8_sorted_32 : decode cX8_sorted 32 = .ok (.ifCond .ne 9, 3) := by decide +kernel
theorem dX8_sorted_35 : decode cX8_sorted 35 = .ok (.aload_n 3, 1) := by decide +kernel
theorem dX8_sorted_36 : decode cX8_sorted 36 = .ok (.iload_n 1, 1) := by decide +kernel
theorem dX8_sorted_37 : decode cX8_sorted 37 = .ok (.invokevirtual 122, 3) := by decide +kernel
theorem dX8_sorted_40 : decode cX8_sorted 40 = .ok (.ireturn, 1) := by decide +kernel
theorem dX8_sorted_41 : decode cX8_sorted 41 = .ok (.iload_n 2, 1) := by decide +kernel
theorem dX8_sorted_42 : decode cX8_sorted 42 = .ok (.iconst 1, 1) := by decide +kernel
theorem dX8_sorted_43 : decode cX8_sorted 43 = .ok (.if_icmp .ne 11, 3) := by decide +kernel
theorem dX8_sorted_46 : decode cX8_sorted 46 = .ok (.aload_n 3, 1) := by decide +kernel
theorem dX8_sorted_47 : decode cX8_sorted 47 = .ok (.iload_n 1, 1) := by decide +kernel
theorem dX8_sorted_48 : decode cX8_sorted 48 = .ok (.invokevirtual 145, 3) := by decide +kernel
theorem dX8_sorted_51 : decode cX8_sorted 51 = .ok (.goto 14, 3) := by decide +kernel
theorem dX8_sorted_54 : decode cX8_sorted 54 = .ok (.aload_n 0, 1) := by decide +kernel
theorem dX8_sorted_55 : decode cX8_sorted 55 = .ok (.getfield 43, 3) := by decide +kernel
theorem dX8_sorted_58 : decode cX8_sorted 58 = .ok (.invokevirtual 90, 3) := by decide +kernel
theorem dX8_sorted_61 : decode cX8_sorted 61 = .ok (.iload_n 1, 1) := by decide +kernel
theorem dX8_sorted_62 : decode cX8_sorted 62 = .ok (.invokevirtual 136, 3) := by decide +kernel
theorem dX8_sorted_65 : decode cX8_sorted 65 = .ok (.ireturn, 1) := by decide +kernel
theorem dX8_now_0 : decode cX8_now 0 = .ok (.aload_n 0, 1) := by decide +kernel
theorem dX8_now_1 : decode cX8_now 1 = .ok (.aload_n 0, 1) := by decide +kernel
theorem dX8_now_2 : decode cX8_now 2 = .ok (.getfield 43, 3) := by decide +kernel
theorem dX8_now_5 : decode cX8_now 5 = .ok (.invokevirtual 90, 3) := by decide +kernel
theorem dX8_now_8 : decode cX8_now 8 = .ok (.iload_n 1, 1) := by decide +kernel
theorem dX8_now_9 : decode cX8_now 9 = .ok (.invokevirtual 148, 3) := by decide +kernel
theorem dX8_now_12 : decode cX8_now 12 = .ok (.ireturn, 1) := by decide +kernel
theorem dX8_spread_0 : decode cX8_spread 0 = .ok (.iload_n 1, 1) := by decide +kernel
theorem dX8_spread_1 : decode cX8_spread 1 = .ok (.ifCond .lt 8, 3) := by decide +kernel
theorem dX8_spread_4 : decode cX8_spread 4 = .ok (.iload_n 1, 1) := by decide +kernel
theorem dX8_spread_5 : decode cX8_spread 5 = .ok (.iconst 1, 1) := by decide +kernel
theorem dX8_spread_6 : decode cX8_spread 6 = .ok (.if_icmp .le 7, 3) := by decide +kernel
theorem dX8_spread_9 : decode cX8_spread 9 = .ok (.ldc2_w 152, 3) := by decide +kernel
theorem dX8_spread_12 : decode cX8_spread 12 = .ok (.lreturn, 1) := by decide +kernel
theorem dX8_spread_13 : decode cX8_spread 13 = .ok (.aload_n 0, 1) := by decide +kernel
theorem dX8_spread_14 : decode cX8_spread 14 = .ok (.getfield 43, 3) := by decide +kernel
theorem dX8_spread_17 : decode cX8_spread 17 = .ok (.invokevirtual 90, 3) := by decide +kernel
theorem dX8_spread_20 : decode cX8_spread 20 = .ok (.getfield 154, 3) := by decide +kernel
theorem dX8_spread_23 : decode cX8_spread 23 = .ok (.iload_n 1, 1) := by decide +kernel
theorem dX8_spread_24 : decode cX8_spread 24 = .ok (.ifCond .ne 7, 3) := by decide +kernel
theorem dX8_spread_27 : decode cX8_spread 27 = .ok (.iconst 1, 1) := by decide +kernel
theorem dX8_spread_28 : decode cX8_spread 28 = .ok (.goto 4, 3) := by decide +kernel
theorem dX8_spread_31 : decode cX8_spread 31 = .ok (.iconst 0, 1) := by decide +kernel
theorem dX8_spread_32 : decode cX8_spread 32 = .ok (.invokestatic 158, 3) := by decide +kernel
theorem dX8_spread_35 : decode cX8_spread 35 = .ok (.lreturn, 1) := by decide +kernel
theorem dX8_moved_0 : decode cX8_moved 0 = .ok (.aload_n 0, 1) := by decide +kernel
theorem dX8_moved_1 : decode cX8_moved 1 = .ok (.aload_n 0, 1) := by decide +kernel
theorem dX8_moved_2 : decode cX8_moved 2 = .ok (.getfield 43, 3) := by decide +kernel
theorem dX8_moved_5 : decode cX8_moved 5 = .ok (.invokevirtual 90, 3) := by decide +kernel
theorem dX8_moved_8 : decode cX8_moved 8 = .ok (.aload_n 0, 1) := by decide +kernel
theorem dX8_moved_9 : decode cX8_moved 9 = .ok (.getfield 43, 3) := by decide +kernel
theorem dX8_moved_12 : decode cX8_moved 12 = .ok (.invokevirtual 94, 3) := by decide +kernel
theorem dX8_moved_15 : decode cX8_moved 15 = .ok (.invokevirtual 98, 3) := by decide +kernel
theorem dX8_moved_18 : decode cX8_moved 18 = .ok (.ireturn, 1) := by decide +kernel
theorem dX8_least_0 : decode cX8_least 0 = .ok (.iload_n 1, 1) := by decide +kernel
theorem dX8_least_1 : decode cX8_least 1 = .ok (.invokestatic 81, 3) := by decide +kernel
theorem dX8_least_4 : decode cX8_least 4 = .ok (.ifCond .eq 19, 3) := by decide +kernel
theorem dX8_least_7 : decode cX8_least 7 = .ok (.aload_n 0, 1) := by decide +kernel
theorem dX8_least_8 : decode cX8_least 8 = .ok (.aload_n 0, 1) := by decide +kernel
theorem dX8_least_9 : decode cX8_least 9 = .ok (.getfield 43, 3) := by decide +kernel
theorem dX8_least_12 : decode cX8_least 12 = .ok (.iload_n 1, 1) := by decide +kernel
theorem dX8_least_13 : decode cX8_least 13 = .ok (.invokevirtual 162, 3) := by decide +kernel
theorem dX8_least_16 : decode cX8_least 16 = .ok (.iload_n 2, 1) := by decide +kernel
theorem dX8_least_17 : decode cX8_least 17 = .ok (.invokevirtual 148, 3) := by decide +kernel
theorem dX8_least_20 : decode cX8_least 20 = .ok (.goto 4, 3) := by decide +kernel
theorem dX8_least_23 : decode cX8_least 23 = .ok (.iconst (-1), 1) := by decide +kernel
theorem dX8_least_24 : decode cX8_least 24 = .ok (.ireturn, 1) := by decide +kernel
theorem dX8_gain_0 : decode cX8_gain 0 = .ok (.iload_n 1, 1) := by decide +kernel
theorem dX8_gain_1 : decode cX8_gain 1 = .ok (.invokestatic 81, 3) := by decide +kernel
theorem dX8_gain_4 : decode cX8_gain 4 = .ok (.ifCond .eq 22, 3) := by decide +kernel
theorem dX8_gain_7 : decode cX8_gain 7 = .ok (.iload_n 2, 1) := by decide +kernel
theorem dX8_gain_8 : decode cX8_gain 8 = .ok (.ifCond .lt 18, 3) := by decide +kernel
theorem dX8_gain_11 : decode cX8_gain 11 = .ok (.iload_n 2, 1) := by decide +kernel
theorem dX8_gain_12 : decode cX8_gain 12 = .ok (.iconst 3, 1) := by decide +kernel
theorem dX8_gain_13 : decode cX8_gain 13 = .ok (.if_icmp .gt 13, 3) := by decide +kernel
theorem dX8_gain_16 : decode cX8_gain 16 = .ok (.iload_n 2, 1) := by decide +kernel
theorem dX8_gain_17 : decode cX8_gain 17 = .ok (.iconst 1, 1) := by decide +kernel
theorem dX8_gain_18 : decode cX8_gain 18 = .ok (.if_icmp .le 12, 3) := by decide +kernel
theorem dX8_gain_21 : decode cX8_gain 21 = .ok (.iload_n 1, 1) := by decide +kernel
theorem dX8_gain_22 : decode cX8_gain 22 = .ok (.iconst 2, 1) := by decide +kernel
theorem dX8_gain_23 : decode cX8_gain 23 = .ok (.if_icmp .ge 7, 3) := by decide +kernel
theorem dX8_gain_26 : decode cX8_gain 26 = .ok (.ldc2_w 152, 3) := by decide +kernel
theorem dX8_gain_29 : decode cX8_gain 29 = .ok (.lreturn, 1) := by decide +kernel
theorem dX8_gain_30 : decode cX8_gain 30 = .ok (.aload_n 0, 1) := by decide +kernel
theorem dX8_gain_31 : decode cX8_gain 31 = .ok (.getfield 43, 3) := by decide +kernel
theorem dX8_gain_34 : decode cX8_gain 34 = .ok (.iload_n 1, 1) := by decide +kernel
theorem dX8_gain_35 : decode cX8_gain 35 = .ok (.invokevirtual 162, 3) := by decide +kernel
theorem dX8_gain_38 : decode cX8_gain 38 = .ok (.getfield 154, 3) := by decide +kernel
theorem dX8_gain_41 : decode cX8_gain 41 = .ok (.lstore_n 3, 1) := by decide +kernel
theorem dX8_gain_42 : decode cX8_gain 42 = .ok (.iload_n 2, 1) := by decide +kernel
theorem dX8_gain_43 : decode cX8_gain 43 = .ok (.iconst 2, 1) := by decide +kernel
theorem dX8_gain_44 : decode cX8_gain 44 = .ok (.if_icmp .ge 7, 3) := by decide +kernel
theorem dX8_gain_47 : decode cX8_gain 47 = .ok (.lload_n 3, 1) := by decide +kernel
theorem dX8_gain_48 : decode cX8_gain 48 = .ok (.goto 18, 3) := by decide +kernel
theorem dX8_gain_51 : decode cX8_gain 51 = .ok (.aload_n 0, 1) := by decide +kernel
theorem dX8_gain_52 : decode cX8_gain 52 = .ok (.getfield 43, 3) := by decide +kernel
theorem dX8_gain_55 : decode cX8_gain 55 = .ok (.iload_n 1, 1) := by decide +kernel
theorem dX8_gain_56 : decode cX8_gain 56 = .ok (.iconst 1, 1) := by decide +kernel
theorem dX8_gain_57 : decode cX8_gain 57 = .ok (.isub, 1) := by decide +kernel
theorem dX8_gain_58 : decode cX8_gain 58 = .ok (.invokevirtual 162, 3) := by decide +kernel
theorem dX8_gain_61 : decode cX8_gain 61 = .ok (.getfield 154, 3) := by decide +kernel
theorem dX8_gain_64 : decode cX8_gain 64 = .ok (.lload_n 3, 1) := by decide +kernel
theorem dX8_gain_65 : decode cX8_gain 65 = .ok (.lsub, 1) := by decide +kernel
theorem dX8_gain_66 : decode cX8_gain 66 = .ok (.lstore 5, 2) := by decide +kernel
theorem dX8_gain_68 : decode cX8_gain 68 = .ok (.lload 5, 2) := by decide +kernel
theorem dX8_gain_70 : decode cX8_gain 70 = .ok (.iload_n 2, 1) := by decide +kernel
theorem dX8_gain_71 : decode cX8_gain 71 = .ok (.iconst 2, 1) := by decide +kernel
theorem dX8_gain_72 : decode cX8_gain 72 = .ok (.irem, 1) := by decide +kernel
theorem dX8_gain_73 : decode cX8_gain 73 = .ok (.ifCond .ne 7, 3) := by decide +kernel
theorem dX8_gain_76 : decode cX8_gain 76 = .ok (.iconst 1, 1) := by decide +kernel
theorem dX8_gain_77 : decode cX8_gain 77 = .ok (.goto 4, 3) := by decide +kernel
theorem dX8_gain_80 : decode cX8_gain 80 = .ok (.iconst 0, 1) := by decide +kernel
theorem dX8_gain_81 : decode cX8_gain 81 = .ok (.invokestatic 158, 3) := by decide +kernel
theorem dX8_gain_84 : decode cX8_gain 84 = .ok (.lreturn, 1) := by decide +kernel
theorem dX8_last_0 : decode cX8_last 0 = .ok (.iload_n 1, 1) := by decide +kernel
theorem dX8_last_1 : decode cX8_last 1 = .ok (.invokestatic 81, 3) := by decide +kernel
theorem dX8_last_4 : decode cX8_last 4 = .ok (.ifCond .eq 22, 3) := by decide +kernel
theorem dX8_last_7 : decode cX8_last 7 = .ok (.iload_n 2, 1) := by decide +kernel
theorem dX8_last_8 : decode cX8_last 8 = .ok (.iconst 1, 1) := by decide +kernel
theorem dX8_last_9 : decode cX8_last 9 = .ok (.if_icmp .lt 17, 3) := by decide +kernel
theorem dX8_last_12 : decode cX8_last 12 = .ok (.iload_n 2, 1) := by decide +kernel
theorem dX8_last_13 : decode cX8_last 13 = .ok (.aload_n 0, 1) := by decide +kernel
theorem dX8_last_14 : decode cX8_last 14 = .ok (.getfield 43, 3) := by decide +kernel
theorem dX8_last_17 : decode cX8_last 17 = .ok (.invokevirtual 94, 3) := by decide +kernel
theorem dX8_last_20 : decode cX8_last 20 = .ok (.getfield 142, 3) := by decide +kernel
theorem dX8_last_23 : decode cX8_last 23 = .ok (.if_icmp .le 5, 3) := by decide +kernel
theorem dX8_last_26 : decode cX8_last 26 = .ok (.iconst (-1), 1) := by decide +kernel
theorem dX8_last_27 : decode cX8_last 27 = .ok (.ireturn, 1) := by decide +kernel
theorem dX8_last_28 : decode cX8_last 28 = .ok (.aload_n 0, 1) := by decide +kernel
theorem dX8_last_29 : decode cX8_last 29 = .ok (.getfield 43, 3) := by decide +kernel
theorem dX8_last_32 : decode cX8_last 32 = .ok (.iload_n 1, 1) := by decide +kernel
theorem dX8_last_33 : decode cX8_last 33 = .ok (.iload_n 2, 1) := by decide +kernel
theorem dX8_last_34 : decode cX8_last 34 = .ok (.invokevirtual 166, 3) := by decide +kernel
theorem dX8_last_37 : decode cX8_last 37 = .ok (.ireturn, 1) := by decide +kernel
theorem dX8_enough_0 : decode cX8_enough 0 = .ok (.iload_n 1, 1) := by decide +kernel
theorem dX8_enough_1 : decode cX8_enough 1 = .ok (.ifCond .lt 9, 3) := by decide +kernel
theorem dX8_enough_4 : decode cX8_enough 4 = .ok (.iload_n 1, 1) := by decide +kernel
theorem dX8_enough_5 : decode cX8_enough 5 = .ok (.bipush 100, 2) := by decide +kernel
theorem dX8_enough_7 : decode cX8_enough 7 = .ok (.if_icmp .le 5, 3) := by decide +kernel
theorem dX8_enough_10 : decode cX8_enough 10 = .ok (.iconst (-1), 1) := by decide +kernel
theorem dX8_enough_11 : decode cX8_enough 11 = .ok (.ireturn, 1) := by decide +kernel
theorem dX8_enough_12 : decode cX8_enough 12 = .ok (.iload_n 1, 1) := by decide +kernel
theorem dX8_enough_13 : decode cX8_enough 13 = .ok (.i2l, 1) := by decide +kernel
theorem dX8_enough_14 : decode cX8_enough 14 = .ok (.aload_n 0, 1) := by decide +kernel
theorem dX8_enough_15 : decode cX8_enough 15 = .ok (.getfield 43, 3) := by decide +kernel
theorem dX8_enough_18 : decode cX8_enough 18 = .ok (.iconst 1, 1) := by decide +kernel
theorem dX8_enough_19 : decode cX8_enough 19 = .ok (.invokevirtual 162, 3) := by decide +kernel
theorem dX8_enough_22 : decode cX8_enough 22 = .ok (.getfield 154, 3) := by decide +kernel
theorem dX8_enough_25 : decode cX8_enough 25 = .ok (.lmul, 1) := by decide +kernel
theorem dX8_enough_26 : decode cX8_enough 26 = .ok (.lstore_n 2, 1) := by decide +kernel
theorem dX8_enough_27 : decode cX8_enough 27 = .ok (.iconst 1, 1) := by decide +kernel
theorem dX8_enough_28 : decode cX8_enough 28 = .ok (.istore 4, 2) := by decide +kernel
theorem dX8_enough_30 : decode cX8_enough 30 = .ok (.iload 4, 2) := by decide +kernel
theorem dX8_enough_32 : decode cX8_enough 32 = .ok (.bipush 6, 2) := by decide +kernel
theorem dX8_enough_34 : decode cX8_enough 34 = .ok (.if_icmp .gt 33, 3) := by decide +kernel
theorem dX8_enough_37 : decode cX8_enough 37 = .ok (.ldc2_w 169, 3) := by decide +kernel
theorem dX8_enough_40 : decode cX8_enough 40 = .ok (.aload_n 0, 1) := by decide +kernel
theorem dX8_enough_41 : decode cX8_enough 41 = .ok (.getfield 43, 3) := by decide +kernel
theorem dX8_enough_44 : decode cX8_enough 44 = .ok (.iload 4, 2) := by decide +kernel
theorem dX8_enough_46 : decode cX8_enough 46 = .ok (.invokevirtual 162, 3) := by decide +kernel
theorem dX8_enough_49 : decode cX8_enough 49 = .ok (.getfield 154, 3) := by decide +kernel
theorem dX8_enough_52 : decode cX8_enough 52 = .ok (.lmul, 1) := by decide +kernel
theorem dX8_enough_53 : decode cX8_enough 53 = .ok (.lload_n 2, 1) := by decide +kernel
theorem dX8_enough_54 : decode cX8_enough 54 = .ok (.lcmp, 1) := by decide +kernel
theorem dX8_enough_55 : decode cX8_enough 55 = .ok (.ifCond .gt 6, 3) := by decide +kernel
theorem dX8_enough_58 : decode cX8_enough 58 = .ok (.iload 4, 2) := by decide +kernel
theorem dX8_enough_60 : decode cX8_enough 60 = .ok (.ireturn, 1) := by decide +kernel
theorem dX8_enough_61 : decode cX8_enough 61 = .ok (.iinc 4 1, 3) := by decide +kernel
theorem dX8_enough_64 : decode cX8_enough 64 = .ok (.goto (-34), 3) := by decide +kernel
theorem dX8_enough_67 : decode cX8_enough 67 = .ok (.bipush (-9), 2) := by decide +kernel
theorem dX8_enough_69 : decode cX8_enough 69 = .ok (.ireturn, 1) := by decide +kernel
theorem dX8_keep_0 : decode cX8_keep 0 = .ok (.iload_n 1, 1) := by decide +kernel
theorem dX8_keep_1 : decode cX8_keep 1 = .ok (.ifCond .lt 8, 3) := by decide +kernel
theorem dX8_keep_4 : decode cX8_keep 4 = .ok (.iload_n 1, 1) := by decide +kernel
theorem dX8_keep_5 : decode cX8_keep 5 = .ok (.iconst 2, 1) := by decide +kernel
theorem dX8_keep_6 : decode cX8_keep 6 = .ok (.if_icmp .lt 5, 3) := by decide +kernel
theorem dX8_keep_9 : decode cX8_keep 9 = .ok (.iconst (-1), 1) := by decide +kernel
theorem dX8_keep_10 : decode cX8_keep 10 = .ok (.ireturn, 1) := by decide +kernel
theorem dX8_keep_11 : decode cX8_keep 11 = .ok (.aload_n 0, 1) := by decide +kernel
theorem dX8_keep_12 : decode cX8_keep 12 = .ok (.getfield 23, 3) := by decide +kernel
theorem dX8_keep_15 : decode cX8_keep 15 = .ok (.iload_n 1, 1) := by decide +kernel
theorem dX8_keep_16 : decode cX8_keep 16 = .ok (.aaload, 1) := by decide +kernel
theorem dX8_keep_17 : decode cX8_keep 17 = .ok (.aload_n 0, 1) := by decide +kernel
theorem dX8_keep_18 : decode cX8_keep 18 = .ok (.getfield 10, 3) := by decide +kernel
theorem dX8_keep_21 : decode cX8_keep 21 = .ok (.invokevirtual 60, 3) := by decide +kernel
theorem dX8_keep_24 : decode cX8_keep 24 = .ok (.aload_n 0, 1) := by decide +kernel
theorem dX8_keep_25 : decode cX8_keep 25 = .ok (.getfield 27, 3) := by decide +kernel
theorem dX8_keep_28 : decode cX8_keep 28 = .ok (.iload_n 1, 1) := by decide +kernel
theorem dX8_keep_29 : decode cX8_keep 29 = .ok (.iconst 1, 1) := by decide +kernel
theorem dX8_keep_30 : decode cX8_keep 30 = .ok (.bastore, 1) := by decide +kernel
theorem dX8_keep_31 : decode cX8_keep 31 = .ok (.aload_n 0, 1) := by decide +kernel
theorem dX8_keep_32 : decode cX8_keep 32 = .ok (.getfield 10, 3) := by decide +kernel
theorem dX8_keep_35 : decode cX8_keep 35 = .ok (.invokevirtual 75, 3) := by decide +kernel
theorem dX8_keep_38 : decode cX8_keep 38 = .ok (.ireturn, 1) := by decide +kernel
theorem dX8_back_0 : decode cX8_back 0 = .ok (.iload_n 1, 1) := by decide +kernel
theorem dX8_back_1 : decode cX8_back 1 = .ok (.ifCond .lt 8, 3) := by decide +kernel
theorem dX8_back_4 : decode cX8_back 4 = .ok (.iload_n 1, 1) := by decide +kernel
theorem dX8_back_5 : decode cX8_back 5 = .ok (.iconst 2, 1) := by decide +kernel
theorem dX8_back_6 : decode cX8_back 6 = .ok (.if_icmp .lt 5, 3) := by decide +kernel
theorem dX8_back_9 : decode cX8_back 9 = .ok (.iconst (-1), 1) := by decide +kernel
theorem dX8_back_10 : decode cX8_back 10 = .ok (.ireturn, 1) := by decide +kernel
theorem dX8_back_11 : decode cX8_back 11 = .ok (.aload_n 0, 1) := by decide +kernel
theorem dX8_back_12 : decode cX8_back 12 = .ok (.getfield 27, 3) := by decide +kernel
theorem dX8_back_15 : decode cX8_back 15 = .ok (.iload_n 1, 1) := by decide +kernel
theorem dX8_back_16 : decode cX8_back 16 = .ok (.baload, 1) := by decide +kernel
theorem dX8_back_17 : decode cX8_back 17 = .ok (.ifCond .ne 6, 3) := by decide +kernel
theorem dX8_back_20 : decode cX8_back 20 = .ok (.bipush (-2), 2) := by decide +kernel
theorem dX8_back_22 : decode cX8_back 22 = .ok (.ireturn, 1) := by decide +kernel
theorem dX8_back_23 : decode cX8_back 23 = .ok (.aload_n 0, 1) := by decide +kernel
theorem dX8_back_24 : decode cX8_back 24 = .ok (.getfield 10, 3) := by decide +kernel
theorem dX8_back_27 : decode cX8_back 27 = .ok (.aload_n 0, 1) := by decide +kernel
theorem dX8_back_28 : decode cX8_back 28 = .ok (.getfield 23, 3) := by decide +kernel
theorem dX8_back_31 : decode cX8_back 31 = .ok (.iload_n 1, 1) := by decide +kernel
theorem dX8_back_32 : decode cX8_back 32 = .ok (.aaload, 1) := by decide +kernel
theorem dX8_back_33 : decode cX8_back 33 = .ok (.invokevirtual 60, 3) := by decide +kernel
theorem dX8_back_36 : decode cX8_back 36 = .ok (.aload_n 0, 1) := by decide +kernel
theorem dX8_back_37 : decode cX8_back 37 = .ok (.getfield 19, 3) := by decide +kernel
theorem dX8_back_40 : decode cX8_back 40 = .ok (.invokevirtual 63, 3) := by decide +kernel
theorem dX8_back_43 : decode cX8_back 43 = .ok (.aload_n 0, 1) := by decide +kernel
theorem dX8_back_44 : decode cX8_back 44 = .ok (.getfield 43, 3) := by decide +kernel
theorem dX8_back_47 : decode cX8_back 47 = .ok (.invokevirtual 66, 3) := by decide +kernel
theorem dX8_back_50 : decode cX8_back 50 = .ok (.aload_n 0, 1) := by decide +kernel
theorem dX8_back_51 : decode cX8_back 51 = .ok (.getfield 10, 3) := by decide +kernel
theorem dX8_back_54 : decode cX8_back 54 = .ok (.invokevirtual 75, 3) := by decide +kernel
theorem dX8_back_57 : decode cX8_back 57 = .ok (.ireturn, 1) := by decide +kernel
theorem dX8_count_0 : decode cX8_count 0 = .ok (.iload_n 1, 1) := by decide +kernel
theorem dX8_count_1 : decode cX8_count 1 = .ok (.tableswitch 114 0 7 #[47, 55, 66, 74, 82, 90, 98, 106], 47) := by decide +kernel
theorem dX8_count_48 : decode cX8_count 48 = .ok (.aload_n 0, 1) := by decide +kernel
theorem dX8_count_49 : decode cX8_count 49 = .ok (.getfield 10, 3) := by decide +kernel
theorem dX8_count_52 : decode cX8_count 52 = .ok (.invokevirtual 75, 3) := by decide +kernel
theorem dX8_count_55 : decode cX8_count 55 = .ok (.ireturn, 1) := by decide +kernel
theorem dX8_count_56 : decode cX8_count 56 = .ok (.aload_n 0, 1) := by decide +kernel
theorem dX8_count_57 : decode cX8_count 57 = .ok (.getfield 43, 3) := by decide +kernel
theorem dX8_count_60 : decode cX8_count 60 = .ok (.invokevirtual 94, 3) := by decide +kernel
theorem dX8_count_63 : decode cX8_count 63 = .ok (.getfield 142, 3) := by decide +kernel
theorem dX8_count_66 : decode cX8_count 66 = .ok (.ireturn, 1) := by decide +kernel
theorem dX8_count_67 : decode cX8_count 67 = .ok (.aload_n 0, 1) := by decide +kernel
theorem dX8_count_68 : decode cX8_count 68 = .ok (.getfield 10, 3) := by decide +kernel
theorem dX8_count_71 : decode cX8_count 71 = .ok (.getfield 84, 3) := by decide +kernel
theorem dX8_count_74 : decode cX8_count 74 = .ok (.ireturn, 1) := by decide +kernel
theorem dX8_count_75 : decode cX8_count 75 = .ok (.aload_n 0, 1) := by decide +kernel
theorem dX8_count_76 : decode cX8_count 76 = .ok (.getfield 10, 3) := by decide +kernel
theorem dX8_count_79 : decode cX8_count 79 = .ok (.getfield 87, 3) := by decide +kernel
theorem dX8_count_82 : decode cX8_count 82 = .ok (.ireturn, 1) := by decide +kernel
theorem dX8_count_83 : decode cX8_count 83 = .ok (.aload_n 0, 1) := by decide +kernel
theorem dX8_count_84 : decode cX8_count 84 = .ok (.getfield 10, 3) := by decide +kernel
theorem dX8_count_87 : decode cX8_count 87 = .ok (.getfield 112, 3) := by decide +kernel
theorem dX8_count_90 : decode cX8_count 90 = .ok (.ireturn, 1) := by decide +kernel
theorem dX8_count_91 : decode cX8_count 91 = .ok (.aload_n 0, 1) := by decide +kernel
theorem dX8_count_92 : decode cX8_count 92 = .ok (.getfield 10, 3) := by decide +kernel
theorem dX8_count_95 : decode cX8_count 95 = .ok (.invokevirtual 171, 3) := by decide +kernel
theorem dX8_count_98 : decode cX8_count 98 = .ok (.ireturn, 1) := by decide +kernel
theorem dX8_count_99 : decode cX8_count 99 = .ok (.aload_n 0, 1) := by decide +kernel
theorem dX8_count_100 : decode cX8_count 100 = .ok (.getfield 19, 3) := by decide +kernel
theorem dX8_count_103 : decode cX8_count 103 = .ok (.getfield 127, 3) := by decide +kernel
theorem dX8_count_106 : decode cX8_count 106 = .ok (.ireturn, 1) := by decide +kernel
theorem dX8_count_107 : decode cX8_count 107 = .ok (.aload_n 0, 1) := by decide +kernel
theorem dX8_count_108 : decode cX8_count 108 = .ok (.getfield 34, 3) := by decide +kernel
theorem dX8_count_111 : decode cX8_count 111 = .ok (.getfield 51, 3) := by decide +kernel
theorem dX8_count_114 : decode cX8_count 114 = .ok (.ireturn, 1) := by decide +kernel
theorem dX8_count_115 : decode cX8_count 115 = .ok (.iconst (-1), 1) := by decide +kernel
theorem dX8_count_116 : decode cX8_count 116 = .ok (.ireturn, 1) := by decide +kernel
theorem dX8_aheadOfChange_0 : decode cX8_aheadOfChange 0 = .ok (.aload_n 0, 1) := by decide +kernel
theorem dX8_aheadOfChange_1 : decode cX8_aheadOfChange 1 = .ok (.getfield 19, 3) := by decide +kernel
theorem dX8_aheadOfChange_4 : decode cX8_aheadOfChange 4 = .ok (.aload_n 0, 1) := by decide +kernel
theorem dX8_aheadOfChange_5 : decode cX8_aheadOfChange 5 = .ok (.getfield 10, 3) := by decide +kernel
theorem dX8_aheadOfChange_8 : decode cX8_aheadOfChange 8 = .ok (.invokevirtual 174, 3) := by decide +kernel
theorem dX8_aheadOfChange_11 : decode cX8_aheadOfChange 11 = .ok (.aload_n 0, 1) := by decide +kernel
theorem dX8_aheadOfChange_12 : decode cX8_aheadOfChange 12 = .ok (.getfield 43, 3) := by decide +kernel
theorem dX8_aheadOfChange_15 : decode cX8_aheadOfChange 15 = .ok (.invokevirtual 66, 3) := by decide +kernel
theorem dX8_aheadOfChange_18 : decode cX8_aheadOfChange 18 = .ok (.return_, 1) := by decide +kernel
theorem dX8_beginning_0 : decode cX8_beginning 0 = .ok (.iload_n 2, 1) := by decide +kernel
theorem dX8_beginning_1 : decode cX8_beginning 1 = .ok (.iconst (-1), 1) := by decide +kernel
theorem dX8_beginning_2 : decode cX8_beginning 2 = .ok (.if_icmp .lt 11, 3) := by decide +kernel
theorem dX8_beginning_5 : decode cX8_beginning 5 = .ok (.iload_n 2, 1) := by decide +kernel
theorem dX8_beginning_6 : decode cX8_beginning 6 = .ok (.aload_n 1, 1) := by decide +kernel
theorem dX8_beginning_7 : decode cX8_beginning 7 = .ok (.getfield 102, 3) := by decide +kernel
theorem dX8_beginning_10 : decode cX8_beginning 10 = .ok (.if_icmp .lt 5, 3) := by decide +kernel
theorem dX8_beginning_13 : decode cX8_beginning 13 = .ok (.iconst (-1), 1) := by decide +kernel
theorem dX8_beginning_14 : decode cX8_beginning 14 = .ok (.ireturn, 1) := by decide +kernel
theorem dX8_beginning_15 : decode cX8_beginning 15 = .ok (.iload_n 2, 1) := by decide +kernel
theorem dX8_beginning_16 : decode cX8_beginning 16 = .ok (.iconst (-1), 1) := by decide +kernel
theorem dX8_beginning_17 : decode cX8_beginning 17 = .ok (.if_icmp .ne 10, 3) := by decide +kernel
theorem dX8_beginning_20 : decode cX8_beginning 20 = .ok (.aload_n 1, 1) := by decide +kernel
theorem dX8_beginning_21 : decode cX8_beginning 21 = .ok (.getfield 102, 3) := by decide +kernel
theorem dX8_beginning_24 : decode cX8_beginning 24 = .ok (.goto 18, 3) := by decide +kernel
theorem dX8_beginning_27 : decode cX8_beginning 27 = .ok (.aload_n 0, 1) := by decide +kernel
theorem dX8_beginning_28 : decode cX8_beginning 28 = .ok (.getfield 43, 3) := by decide +kernel
theorem dX8_beginning_31 : decode cX8_beginning 31 = .ok (.invokevirtual 94, 3) := by decide +kernel
theorem dX8_beginning_34 : decode cX8_beginning 34 = .ok (.aload_n 1, 1) := by decide +kernel
theorem dX8_beginning_35 : decode cX8_beginning 35 = .ok (.iload_n 2, 1) := by decide +kernel
theorem dX8_beginning_36 : decode cX8_beginning 36 = .ok (.invokevirtual 118, 3) := by decide +kernel
theorem dX8_beginning_39 : decode cX8_beginning 39 = .ok (.invokevirtual 122, 3) := by decide +kernel
theorem dX8_beginning_42 : decode cX8_beginning 42 = .ok (.ireturn, 1) := by decide +kernel
theorem dX8_strangeBorders_0 : decode cX8_strangeBorders 0 = .ok (.iconst 0, 1) := by decide +kernel
theorem dX8_strangeBorders_1 : decode cX8_strangeBorders 1 = .ok (.istore_n 3, 1) := by decide +kernel
theorem dX8_strangeBorders_2 : decode cX8_strangeBorders 2 = .ok (.iconst 1, 1) := by decide +kernel
theorem dX8_strangeBorders_3 : decode cX8_strangeBorders 3 = .ok (.istore 4, 2) := by decide +kernel
theorem dX8_strangeBorders_5 : decode cX8_strangeBorders 5 = .ok (.iload 4, 2) := by decide +kernel
theorem dX8_strangeBorders_7 : decode cX8_strangeBorders 7 = .ok (.aload_n 1, 1) := by decide +kernel
theorem dX8_strangeBorders_8 : decode cX8_strangeBorders 8 = .ok (.getfield 102, 3) := by decide +kernel
theorem dX8_strangeBorders_11 : decode cX8_strangeBorders 11 = .ok (.if_icmp .ge 32, 3) := by decide +kernel
theorem dX8_strangeBorders_14 : decode cX8_strangeBorders 14 = .ok (.aload_n 0, 1) := by decide +kernel
theorem dX8_strangeBorders_15 : decode cX8_strangeBorders 15 = .ok (.getfield 10, 3) := by decide +kernel
theorem dX8_strangeBorders_18 : decode cX8_strangeBorders 18 = .ok (.aload_n 2, 1) := by decide +kernel
theorem dX8_strangeBorders_19 : decode cX8_strangeBorders 19 = .ok (.aload_n 1, 1) := by decide +kernel
theorem dX8_strangeBorders_20 : decode cX8_strangeBorders 20 = .ok (.iload 4, 2) := by decide +kernel
theorem dX8_strangeBorders_22 : decode cX8_strangeBorders 22 = .ok (.invokevirtual 118, 3) := by decide +kernel
theorem dX8_strangeBorders_25 : decode cX8_strangeBorders 25 = .ok (.invokevirtual 122, 3) := by decide +kernel
theorem dX8_strangeBorders_28 : decode cX8_strangeBorders 28 = .ok (.invokevirtual 177, 3) := by decide +kernel
theorem dX8_strangeBorders_31 : decode cX8_strangeBorders 31 = .ok (.ifCond .ne 6, 3) := by decide +kernel
theorem dX8_strangeBorders_34 : decode cX8_strangeBorders 34 = .ok (.iinc 3 1, 3) := by decide +kernel
theorem dX8_strangeBorders_37 : decode cX8_strangeBorders 37 = .ok (.iinc 4 1, 3) := by decide +kernel
theorem dX8_strangeBorders_40 : decode cX8_strangeBorders 40 = .ok (.goto (-35), 3) := by decide +kernel
theorem dX8_strangeBorders_43 : decode cX8_strangeBorders 43 = .ok (.iload_n 3, 1) := by decide +kernel
theorem dX8_strangeBorders_44 : decode cX8_strangeBorders 44 = .ok (.ireturn, 1) := by decide +kernel
theorem dX8_isClasses_0 : decode cX8_isClasses 0 = .ok (.iload_n 0, 1) := by decide +kernel
theorem dX8_isClasses_1 : decode cX8_isClasses 1 = .ok (.iconst 1, 1) := by decide +kernel
theorem dX8_isClasses_2 : decode cX8_isClasses 2 = .ok (.if_icmp .lt 13, 3) := by decide +kernel
theorem dX8_isClasses_5 : decode cX8_isClasses 5 = .ok (.iload_n 0, 1) := by decide +kernel
theorem dX8_isClasses_6 : decode cX8_isClasses 6 = .ok (.bipush 6, 2) := by decide +kernel
theorem dX8_isClasses_8 : decode cX8_isClasses 8 = .ok (.if_icmp .gt 7, 3) := by decide +kernel
theorem dX8_isClasses_11 : decode cX8_isClasses 11 = .ok (.iconst 1, 1) := by decide +kernel
theorem dX8_isClasses_12 : decode cX8_isClasses 12 = .ok (.goto 4, 3) := by decide +kernel
theorem dX8_isClasses_15 : decode cX8_isClasses 15 = .ok (.iconst 0, 1) := by decide +kernel
theorem dX8_isClasses_16 : decode cX8_isClasses 16 = .ok (.ireturn, 1) := by decide +kernel
theorem dX8_isSide_0 : decode cX8_isSide 0 = .ok (.iload_n 0, 1) := by decide +kernel
theorem dX8_isSide_1 : decode cX8_isSide 1 = .ok (.ifCond .lt 13, 3) := by decide +kernel
theorem dX8_isSide_4 : decode cX8_isSide 4 = .ok (.iload_n 0, 1) := by decide +kernel
theorem dX8_isSide_5 : decode cX8_isSide 5 = .ok (.bipush 10, 2) := by decide +kernel
theorem dX8_isSide_7 : decode cX8_isSide 7 = .ok (.if_icmp .ge 7, 3) := by decide +kernel
theorem dX8_isSide_10 : decode cX8_isSide 10 = .ok (.iconst 1, 1) := by decide +kernel
theorem dX8_isSide_11 : decode cX8_isSide 11 = .ok (.goto 4, 3) := by decide +kernel
theorem dX8_isSide_14 : decode cX8_isSide 14 = .ok (.iconst 0, 1) := by decide +kernel
theorem dX8_isSide_15 : decode cX8_isSide 15 = .ok (.ireturn, 1) := by decide +kernel
theorem dX8_cellOf_0 : decode cX8_cellOf 0 = .ok (.iload_n 0, 1) := by decide +kernel
theorem dX8_cellOf_1 : decode cX8_cellOf 1 = .ok (.invokestatic 180, 3) := by decide +kernel
theorem dX8_cellOf_4 : decode cX8_cellOf 4 = .ok (.ifCond .eq 19, 3) := by decide +kernel
theorem dX8_cellOf_7 : decode cX8_cellOf 7 = .ok (.iload_n 1, 1) := by decide +kernel
theorem dX8_cellOf_8 : decode cX8_cellOf 8 = .ok (.invokestatic 180, 3) := by decide +kernel
theorem dX8_cellOf_11 : decode cX8_cellOf 11 = .ok (.ifCond .eq 12, 3) := by decide +kernel
theorem dX8_cellOf_14 : decode cX8_cellOf 14 = .ok (.iload_n 0, 1) := by decide +kernel
theorem dX8_cellOf_15 : decode cX8_cellOf 15 = .ok (.bipush 10, 2) := by decide +kernel
theorem dX8_cellOf_17 : decode cX8_cellOf 17 = .ok (.imul, 1) := by decide +kernel
theorem dX8_cellOf_18 : decode cX8_cellOf 18 = .ok (.iload_n 1, 1) := by decide +kernel
theorem dX8_cellOf_19 : decode cX8_cellOf 19 = .ok (.iadd, 1) := by decide +kernel
theorem dX8_cellOf_20 : decode cX8_cellOf 20 = .ok (.goto 4, 3) := by decide +kernel
theorem dX8_cellOf_23 : decode cX8_cellOf 23 = .ok (.iconst (-1), 1) := by decide +kernel
theorem dX8_cellOf_24 : decode cX8_cellOf 24 = .ok (.ireturn, 1) := by decide +kernel
theorem dX8_tintOf_0 : decode cX8_tintOf 0 = .ok (.iload_n 1, 1) := by decide +kernel
theorem dX8_tintOf_1 : decode cX8_tintOf 1 = .ok (.iconst 2, 1) := by decide +kernel
theorem dX8_tintOf_2 : decode cX8_tintOf 2 = .ok (.if_icmp .ge 7, 3) := by decide +kernel
theorem dX8_tintOf_5 : decode cX8_tintOf 5 = .ok (.sipush 255, 3) := by decide +kernel
theorem dX8_tintOf_8 : decode cX8_tintOf 8 = .ok (.ireturn, 1) := by decide +kernel
theorem dX8_tintOf_9 : decode cX8_tintOf 9 = .ok (.sipush 255, 3) := by decide +kernel
theorem dX8_tintOf_12 : decode cX8_tintOf 12 = .ok (.ldc 183, 2) := by decide +kernel
theorem dX8_tintOf_14 : decode cX8_tintOf 14 = .ok (.iload_n 0, 1) := by decide +kernel
theorem dX8_tintOf_15 : decode cX8_tintOf 15 = .ok (.i2f, 1) := by decide +kernel
theorem dX8_tintOf_16 : decode cX8_tintOf 16 = .ok (.fmul, 1) := by decide +kernel
theorem dX8_tintOf_17 : decode cX8_tintOf 17 = .ok (.iload_n 1, 1) := by decide +kernel
theorem dX8_tintOf_18 : decode cX8_tintOf 18 = .ok (.iconst 1, 1) := by decide +kernel
theorem dX8_tintOf_19 : decode cX8_tintOf 19 = .ok (.isub, 1) := by decide +kernel
theorem dX8_tintOf_20 : decode cX8_tintOf 20 = .ok (.i2f, 1) := by decide +kernel
theorem dX8_tintOf_21 : decode cX8_tintOf 21 = .ok (.fdiv, 1) := by decide +kernel
theorem dX8_tintOf_22 : decode cX8_tintOf 22 = .ok (.f2i, 1) := by decide +kernel
theorem dX8_tintOf_23 : decode cX8_tintOf 23 = .ok (.isub, 1) := by decide +kernel
theorem dX8_tintOf_24 : decode cX8_tintOf 24 = .ok (.ireturn, 1) := by decide +kernel
theorem dX8_inLeastTerms_0 : decode cX8_inLeastTerms 0 = .ok (.lload_n 0, 1) := by decide +kernel
theorem dX8_inLeastTerms_1 : decode cX8_inLeastTerms 1 = .ok (.ldc2_w 184, 3) := by decide +kernel
theorem dX8_inLeastTerms_4 : decode cX8_inLeastTerms 4 = .ok (.invokestatic 186, 3) := by decide +kernel
theorem dX8_inLeastTerms_7 : decode cX8_inLeastTerms 7 = .ok (.lstore_n 3, 1) := by decide +kernel
theorem dX8_inLeastTerms_8 : decode cX8_inLeastTerms 8 = .ok (.lload_n 3, 1) := by decide +kernel
theorem dX8_inLeastTerms_9 : decode cX8_inLeastTerms 9 = .ok (.lconst 1, 1) := by decide +kernel
theorem dX8_inLeastTerms_10 : decode cX8_inLeastTerms 10 = .ok (.lcmp, 1) := by decide +kernel
theorem dX8_inLeastTerms_11 : decode cX8_inLeastTerms 11 = .ok (.ifCond .ge 7, 3) := by decide +kernel
theorem dX8_inLeastTerms_14 : decode cX8_inLeastTerms 14 = .ok (.ldc2_w 152, 3) := by decide +kernel
theorem dX8_inLeastTerms_17 : decode cX8_inLeastTerms 17 = .ok (.lreturn, 1) := by decide +kernel
theorem dX8_inLeastTerms_18 : decode cX8_inLeastTerms 18 = .ok (.iload_n 2, 1) := by decide +kernel
theorem dX8_inLeastTerms_19 : decode cX8_inLeastTerms 19 = .ok (.ifCond .eq 7, 3) := by decide +kernel
theorem dX8_inLeastTerms_22 : decode cX8_inLeastTerms 22 = .ok (.lload_n 0, 1) := by decide +kernel
theorem dX8_inLeastTerms_23 : decode cX8_inLeastTerms 23 = .ok (.goto 6, 3) := by decide +kernel
theorem dX8_inLeastTerms_26 : decode cX8_inLeastTerms 26 = .ok (.ldc2_w 184, 3) := by decide +kernel
theorem dX8_inLeastTerms_29 : decode cX8_inLeastTerms 29 = .ok (.lload_n 3, 1) := by decide +kernel
theorem dX8_inLeastTerms_30 : decode cX8_inLeastTerms 30 = .ok (.ldiv, 1) := by decide +kernel
theorem dX8_inLeastTerms_31 : decode cX8_inLeastTerms 31 = .ok (.lreturn, 1) := by decide +kernel
theorem dX8_commonDivisor_0 : decode cX8_commonDivisor 0 = .ok (.lload_n 0, 1) := by decide +kernel
theorem dX8_commonDivisor_1 : decode cX8_commonDivisor 1 = .ok (.lstore 4, 2) := by decide +kernel
theorem dX8_commonDivisor_3 : decode cX8_commonDivisor 3 = .ok (.lload_n 2, 1) := by decide +kernel
theorem dX8_commonDivisor_4 : decode cX8_commonDivisor 4 = .ok (.lstore 6, 2) := by decide +kernel
theorem dX8_commonDivisor_6 : decode cX8_commonDivisor 6 = .ok (.iconst 0, 1) := by decide +kernel
theorem dX8_commonDivisor_7 : decode cX8_commonDivisor 7 = .ok (.istore 8, 2) := by decide +kernel
theorem dX8_commonDivisor_9 : decode cX8_commonDivisor 9 = .ok (.iload 8, 2) := by decide +kernel
theorem dX8_commonDivisor_11 : decode cX8_commonDivisor 11 = .ok (.bipush 100, 2) := by decide +kernel
theorem dX8_commonDivisor_13 : decode cX8_commonDivisor 13 = .ok (.if_icmp .ge 31, 3) := by decide +kernel
theorem dX8_commonDivisor_16 : decode cX8_commonDivisor 16 = .ok (.lload 6, 2) := by decide +kernel
theorem dX8_commonDivisor_18 : decode cX8_commonDivisor 18 = .ok (.lconst 0, 1) := by decide +kernel
theorem dX8_commonDivisor_19 : decode cX8_commonDivisor 19 = .ok (.lcmp, 1) := by decide +kernel
theorem dX8_commonDivisor_20 : decode cX8_commonDivisor 20 = .ok (.ifCond .eq 24, 3) := by decide +kernel
theorem dX8_commonDivisor_23 : decode cX8_commonDivisor 23 = .ok (.lload 4, 2) := by decide +kernel
theorem dX8_commonDivisor_25 : decode cX8_commonDivisor 25 = .ok (.lload 6, 2) := by decide +kernel
theorem dX8_commonDivisor_27 : decode cX8_commonDivisor 27 = .ok (.lrem, 1) := by decide +kernel
theorem dX8_commonDivisor_28 : decode cX8_commonDivisor 28 = .ok (.lstore 9, 2) := by decide +kernel
theorem dX8_commonDivisor_30 : decode cX8_commonDivisor 30 = .ok (.lload 6, 2) := by decide +kernel
theorem dX8_commonDivisor_32 : decode cX8_commonDivisor 32 = .ok (.lstore 4, 2) := by decide +kernel
theorem dX8_commonDivisor_34 : decode cX8_commonDivisor 34 = .ok (.lload 9, 2) := by decide +kernel
theorem dX8_commonDivisor_36 : decode cX8_commonDivisor 36 = .ok (.lstore 6, 2) := by decide +kernel
theorem dX8_commonDivisor_38 : decode cX8_commonDivisor 38 = .ok (.iinc 8 1, 3) := by decide +kernel
theorem dX8_commonDivisor_41 : decode cX8_commonDivisor 41 = .ok (.goto (-32), 3) := by decide +kernel
theorem dX8_commonDivisor_44 : decode cX8_commonDivisor 44 = .ok (.lload 4, 2) := by decide +kernel
theorem dX8_commonDivisor_46 : decode cX8_commonDivisor 46 = .ok (.lreturn, 1) := by decide +kernel
theorem dJ9_max_7cf53_0 : decode cJ9_max_7cf53 0 = .ok (.iload_n 0, 1) := by decide +kernel
theorem dJ9_max_7cf53_1 : decode cJ9_max_7cf53 1 = .ok (.iload_n 1, 1) := by decide +kernel
theorem dJ9_max_7cf53_2 : decode cJ9_max_7cf53 2 = .ok (.if_icmp .lt 7, 3) := by decide +kernel
theorem dJ9_max_7cf53_5 : decode cJ9_max_7cf53 5 = .ok (.iload_n 0, 1) := by decide +kernel
theorem dJ9_max_7cf53_6 : decode cJ9_max_7cf53 6 = .ok (.goto 4, 3) := by decide +kernel
theorem dJ9_max_7cf53_9 : decode cJ9_max_7cf53 9 = .ok (.iload_n 1, 1) := by decide +kernel
theorem dJ9_max_7cf53_10 : decode cJ9_max_7cf53 10 = .ok (.ireturn, 1) := by decide +kernel
theorem dJ9_min_7cf53_0 : decode cJ9_min_7cf53 0 = .ok (.iload_n 0, 1) := by decide +kernel
theorem dJ9_min_7cf53_1 : decode cJ9_min_7cf53 1 = .ok (.iload_n 1, 1) := by decide +kernel
theorem dJ9_min_7cf53_2 : decode cJ9_min_7cf53 2 = .ok (.if_icmp .gt 7, 3) := by decide +kernel
theorem dJ9_min_7cf53_5 : decode cJ9_min_7cf53 5 = .ok (.iload_n 0, 1) := by decide +kernel
theorem dJ9_min_7cf53_6 : decode cJ9_min_7cf53 6 = .ok (.goto 4, 3) := by decide +kernel
theorem dJ9_min_7cf53_9 : decode cJ9_min_7cf53 9 = .ok (.iload_n 1, 1) := by decide +kernel
theorem dJ9_min_7cf53_10 : decode cJ9_min_7cf53 10 = .ok (.ireturn, 1) := by decide +kernel
theorem dJ7_fill_53178_0 : decode cJ7_fill_53178 0 = .ok (.iconst 0, 1) := by decide +kernel
theorem dJ7_fill_53178_1 : decode cJ7_fill_53178 1 = .ok (.istore_n 2, 1) := by decide +kernel
theorem dJ7_fill_53178_2 : decode cJ7_fill_53178 2 = .ok (.aload_n 0, 1) := by decide +kernel
theorem dJ7_fill_53178_3 : decode cJ7_fill_53178 3 = .ok (.arraylength, 1) := by decide +kernel
theorem dJ7_fill_53178_4 : decode cJ7_fill_53178 4 = .ok (.istore_n 3, 1) := by decide +kernel
theorem dJ7_fill_53178_5 : decode cJ7_fill_53178 5 = .ok (.iload_n 2, 1) := by decide +kernel
theorem dJ7_fill_53178_6 : decode cJ7_fill_53178 6 = .ok (.iload_n 3, 1) := by decide +kernel
theorem dJ7_fill_53178_7 : decode cJ7_fill_53178 7 = .ok (.if_icmp .ge 13, 3) := by decide +kernel
theorem dJ7_fill_53178_10 : decode cJ7_fill_53178 10 = .ok (.aload_n 0, 1) := by decide +kernel
theorem dJ7_fill_53178_11 : decode cJ7_fill_53178 11 = .ok (.iload_n 2, 1) := by decide +kernel
theorem dJ7_fill_53178_12 : decode cJ7_fill_53178 12 = .ok (.iload_n 1, 1) := by decide +kernel
theorem dJ7_fill_53178_13 : decode cJ7_fill_53178 13 = .ok (.iastore, 1) := by decide +kernel
theorem dJ7_fill_53178_14 : decode cJ7_fill_53178 14 = .ok (.iinc 2 1, 3) := by decide +kernel
theorem dJ7_fill_53178_17 : decode cJ7_fill_53178 17 = .ok (.goto (-12), 3) := by decide +kernel
theorem dJ7_fill_53178_20 : decode cJ7_fill_53178 20 = .ok (.return_, 1) := by decide +kernel
end
section
theorem dX9_init_0 : decode cX9_init 0 = .ok (.aload_n 0, 1) := by decide +kernel
theorem dX9_init_1 : decode cX9_init 1 = .ok (.invokespecial 1, 3) := by decide +kernel
theorem dX9_init_4 : decode cX9_init 4 = .ok (.aload_n 0, 1) := by decide +kernel
theorem dX9_init_5 : decode cX9_init 5 = .ok (.iconst 3, 1) := by decide +kernel
theorem dX9_init_6 : decode cX9_init 6 = .ok (.putfield 7, 3) := by decide +kernel
theorem dX9_init_9 : decode cX9_init 9 = .ok (.aload_n 0, 1) := by decide +kernel
theorem dX9_init_10 : decode cX9_init 10 = .ok (.bipush 24, 2) := by decide +kernel
theorem dX9_init_12 : decode cX9_init 12 = .ok (.newarray .int, 2) := by decide +kernel
theorem dX9_init_14 : decode cX9_init 14 = .ok (.putfield 13, 3) := by decide +kernel
theorem dX9_init_17 : decode cX9_init 17 = .ok (.aload_n 0, 1) := by decide +kernel
theorem dX9_init_18 : decode cX9_init 18 = .ok (.bipush 24, 2) := by decide +kernel
theorem dX9_init_20 : decode cX9_init 20 = .ok (.newarray .int, 2) := by decide +kernel
theorem dX9_init_22 : decode cX9_init 22 = .ok (.putfield 17, 3) := by decide +kernel
theorem dX9_init_25 : decode cX9_init 25 = .ok (.aload_n 0, 1) := by decide +kernel
theorem dX9_init_26 : decode cX9_init 26 = .ok (.iconst 5, 1) := by decide +kernel
theorem dX9_init_27 : decode cX9_init 27 = .ok (.newarray .int, 2) := by decide +kernel
theorem dX9_init_29 : decode cX9_init 29 = .ok (.putfield 20, 3) := by decide +kernel
theorem dX9_init_32 : decode cX9_init 32 = .ok (.aload_n 0, 1) := by decide +kernel
theorem dX9_init_33 : decode cX9_init 33 = .ok (.sipush 150, 3) := by decide +kernel
theorem dX9_init_36 : decode cX9_init 36 = .ok (.newarray .int, 2) := by decide +kernel
theorem dX9_init_38 : decode cX9_init 38 = .ok (.putfield 23, 3) := by decide +kernel
theorem dX9_init_41 : decode cX9_init 41 = .ok (.aload_n 0, 1) := by decide +kernel
theorem dX9_init_42 : decode cX9_init 42 = .ok (.bipush 24, 2) := by decide +kernel
theorem dX9_init_44 : decode cX9_init 44 = .ok (.newarray .int, 2) := by decide +kernel
theorem dX9_init_46 : decode cX9_init 46 = .ok (.putfield 26, 3) := by decide +kernel
theorem dX9_init_49 : decode cX9_init 49 = .ok (.aload_n 0, 1) := by decide +kernel
theorem dX9_init_50 : decode cX9_init 50 = .ok (.bipush 24, 2) := by decide +kernel
theorem dX9_init_52 : decode cX9_init 52 = .ok (.newarray .int, 2) := by decide +kernel
theorem dX9_init_54 : decode cX9_init 54 = .ok (.putfield 29, 3) := by decide +kernel
theorem dX9_init_57 : decode cX9_init 57 = .ok (.aload_n 0, 1) := by decide +kernel
theorem dX9_init_58 : decode cX9_init 58 = .ok (.sipush 570, 3) := by decide +kernel
theorem dX9_init_61 : decode cX9_init 61 = .ok (.newarray .int, 2) := by decide +kernel
theorem dX9_init_63 : decode cX9_init 63 = .ok (.putfield 32, 3) := by decide +kernel
theorem dX9_init_66 : decode cX9_init 66 = .ok (.aload_n 0, 1) := by decide +kernel
theorem dX9_init_67 : decode cX9_init 67 = .ok (.bipush 116, 2) := by decide +kernel
theorem dX9_init_69 : decode cX9_init 69 = .ok (.newarray .int, 2) := by decide +kernel
theorem dX9_init_71 : decode cX9_init 71 = .ok (.putfield 35, 3) := by decide +kernel
theorem dX9_init_74 : decode cX9_init 74 = .ok (.aload_n 0, 1) := by decide +kernel
theorem dX9_init_75 : decode cX9_init 75 = .ok (.bipush 24, 2) := by decide +kernel
theorem dX9_init_77 : decode cX9_init 77 = .ok (.newarray .int, 2) := by decide +kernel
theorem dX9_init_79 : decode cX9_init 79 = .ok (.putfield 38, 3) := by decide +kernel
theorem dX9_init_82 : decode cX9_init 82 = .ok (.aload_n 0, 1) := by decide +kernel
theorem dX9_init_83 : decode cX9_init 83 = .ok (.bipush 24, 2) := by decide +kernel
theorem dX9_init_85 : decode cX9_init 85 = .ok (.newarray .int, 2) := by decide +kernel
theorem dX9_init_87 : decode cX9_init 87 = .ok (.putfield 41, 3) := by decide +kernel
theorem dX9_init_90 : decode cX9_init 90 = .ok (.aload_n 0, 1) := by decide +kernel
theorem dX9_init_91 : decode cX9_init 91 = .ok (.sipush 175, 3) := by decide +kernel
theorem dX9_init_94 : decode cX9_init 94 = .ok (.newarray .long, 2) := by decide +kernel
theorem dX9_init_96 : decode cX9_init 96 = .ok (.putfield 44, 3) := by decide +kernel
theorem dX9_init_99 : decode cX9_init 99 = .ok (.aload_n 0, 1) := by decide +kernel
theorem dX9_init_100 : decode cX9_init 100 = .ok (.sipush 175, 3) := by decide +kernel
theorem dX9_init_103 : decode cX9_init 103 = .ok (.newarray .int, 2) := by decide +kernel
theorem dX9_init_105 : decode cX9_init 105 = .ok (.putfield 48, 3) := by decide +kernel
theorem dX9_init_108 : decode cX9_init 108 = .ok (.aload_n 0, 1) := by decide +kernel
theorem dX9_init_109 : decode cX9_init 109 = .ok (.bipush 6, 2) := by decide +kernel
theorem dX9_init_111 : decode cX9_init 111 = .ok (.newarray .int, 2) := by decide +kernel
theorem dX9_init_113 : decode cX9_init 113 = .ok (.putfield 51, 3) := by decide +kernel
theorem dX9_init_116 : decode cX9_init 116 = .ok (.aload_n 0, 1) := by decide +kernel
theorem dX9_init_117 : decode cX9_init 117 = .ok (.sipush 175, 3) := by decide +kernel
theorem dX9_init_120 : decode cX9_init 120 = .ok (.newarray .long, 2) := by decide +kernel
theorem dX9_init_122 : decode cX9_init 122 = .ok (.putfield 54, 3) := by decide +kernel
theorem dX9_init_125 : decode cX9_init 125 = .ok (.aload_n 0, 1) := by decide +kernel
theorem dX9_init_126 : decode cX9_init 126 = .ok (.sipush 175, 3) := by decide +kernel
theorem dX9_init_129 : decode cX9_init 129 = .ok (.newarray .int, 2) := by decide +kernel
theorem dX9_init_131 : decode cX9_init 131 = .ok (.putfield 57, 3) := by decide +kernel
theorem dX9_init_134 : decode cX9_init 134 = .ok (.return_, 1) := by decide +kernel
theorem dX9_in_0 : decode cX9_in 0 = .ok (.iload_n 0, 1) := by decide +kernel
theorem dX9_in_1 : decode cX9_in 1 = .ok (.iload_n 1, 1) := by decide +kernel
theorem dX9_in_2 : decode cX9_in 2 = .ok (.if_icmp .lt 12, 3) := by decide +kernel
theorem dX9_in_5 : decode cX9_in 5 = .ok (.iload_n 0, 1) := by decide +kernel
theorem dX9_in_6 : decode cX9_in 6 = .ok (.iload_n 2, 1) := by decide +kernel
theorem dX9_in_7 : decode cX9_in 7 = .ok (.if_icmp .gt 7, 3) := by decide +kernel
theorem dX9_in_10 : decode cX9_in 10 = .ok (.iconst 1, 1) := by decide +kernel
theorem dX9_in_11 : decode cX9_in 11 = .ok (.goto 4, 3) := by decide +kernel
theorem dX9_in_14 : decode cX9_in 14 = .ok (.iconst 0, 1) := by decide +kernel
theorem dX9_in_15 : decode cX9_in 15 = .ok (.ireturn, 1) := by decide +kernel
theorem dX9_placeAt_0 : decode cX9_placeAt 0 = .ok (.bipush (-9), 2) := by decide +kernel
theorem dX9_placeAt_2 : decode cX9_placeAt 2 = .ok (.istore_n 2, 1) := by decide +kernel
theorem dX9_placeAt_3 : decode cX9_placeAt 3 = .ok (.iconst 0, 1) := by decide +kernel
theorem dX9_placeAt_4 : decode cX9_placeAt 4 = .ok (.istore_n 3, 1) := by decide +kernel
theorem dX9_placeAt_5 : decode cX9_placeAt 5 = .ok (.iload_n 3, 1) := by decide +kernel
theorem dX9_placeAt_6 : decode cX9_placeAt 6 = .ok (.aload_n 0, 1) := by decide +kernel
theorem dX9_placeAt_7 : decode cX9_placeAt 7 = .ok (.getfield 60, 3) := by decide +kernel
theorem dX9_placeAt_10 : decode cX9_placeAt 10 = .ok (.if_icmp .ge 25, 3) := by decide +kernel
theorem dX9_placeAt_13 : decode cX9_placeAt 13 = .ok (.aload_n 0, 1) := by decide +kernel
theorem dX9_placeAt_14 : decode cX9_placeAt 14 = .ok (.getfield 13, 3) := by decide +kernel
theorem dX9_placeAt_17 : decode cX9_placeAt 17 = .ok (.iload_n 3, 1) := by decide +kernel
theorem dX9_placeAt_18 : decode cX9_placeAt 18 = .ok (.iaload, 1) := by decide +kernel
theorem dX9_placeAt_19 : decode cX9_placeAt 19 = .ok (.iload_n 1, 1) := by decide +kernel
theorem dX9_placeAt_20 : decode cX9_placeAt 20 = .ok (.if_icmp .ne 7, 3) := by decide +kernel
theorem dX9_placeAt_23 : decode cX9_placeAt 23 = .ok (.iload_n 3, 1) := by decide +kernel
theorem dX9_placeAt_24 : decode cX9_placeAt 24 = .ok (.goto 4, 3) := by decide +kernel
theorem dX9_placeAt_27 : decode cX9_placeAt 27 = .ok (.iload_n 2, 1) := by decide +kernel
theorem dX9_placeAt_28 : decode cX9_placeAt 28 = .ok (.istore_n 2, 1) := by decide +kernel
theorem dX9_placeAt_29 : decode cX9_placeAt 29 = .ok (.iinc 3 1, 3) := by decide +kernel
theorem dX9_placeAt_32 : decode cX9_placeAt 32 = .ok (.goto (-27), 3) := by decide +kernel
theorem dX9_placeAt_35 : decode cX9_placeAt 35 = .ok (.iload_n 2, 1) := by decide +kernel
theorem dX9_placeAt_36 : decode cX9_placeAt 36 = .ok (.ireturn, 1) := by decide +kernel
theorem dX9_isWhere_0 : decode cX9_isWhere 0 = .ok (.iload_n 0, 1) := by decide +kernel
theorem dX9_isWhere_1 : decode cX9_isWhere 1 = .ok (.iconst 0, 1) := by decide +kernel
theorem dX9_isWhere_2 : decode cX9_isWhere 2 = .ok (.bipush 9, 2) := by decide +kernel
theorem dX9_isWhere_4 : decode cX9_isWhere 4 = .ok (.invokestatic 63, 3) := by decide +kernel
theorem dX9_isWhere_7 : decode cX9_isWhere 7 = .ok (.ifCond .eq 17, 3) := by decide +kernel
theorem dX9_isWhere_10 : decode cX9_isWhere 10 = .ok (.iload_n 1, 1) := by decide +kernel
theorem dX9_isWhere_11 : decode cX9_isWhere 11 = .ok (.iconst 0, 1) := by decide +kernel
theorem dX9_isWhere_12 : decode cX9_isWhere 12 = .ok (.bipush 9, 2) := by decide +kernel
theorem dX9_isWhere_14 : decode cX9_isWhere 14 = .ok (.invokestatic 63, 3) := by decide +kernel
theorem dX9_isWhere_17 : decode cX9_isWhere 17 = .ok (.ifCond .eq 7, 3) := by decide +kernel
theorem dX9_isWhere_20 : decode cX9_isWhere 20 = .ok (.iconst 1, 1) := by decide +kernel
theorem dX9_isWhere_21 : decode cX9_isWhere 21 = .ok (.goto 4, 3) := by decide +kernel
theorem dX9_isWhere_24 : decode cX9_isWhere 24 = .ok (.iconst 0, 1) := by decide +kernel
theorem dX9_isWhere_25 : decode cX9_isWhere 25 = .ok (.ireturn, 1) := by decide +kernel
theorem dX9_type_0 : decode cX9_type 0 = .ok (.iload_n 1, 1) := by decide +kernel
theorem dX9_type_1 : decode cX9_type 1 = .ok (.iconst 0, 1) := by decide +kernel
theorem dX9_type_2 : decode cX9_type 2 = .ok (.sipush 255, 3) := by decide +kernel
theorem dX9_type_5 : decode cX9_type 5 = .ok (.invokestatic 63, 3) := by decide +kernel
theorem dX9_type_8 : decode cX9_type 8 = .ok (.ifCond .ne 5, 3) := by decide +kernel
theorem dX9_type_11 : decode cX9_type 11 = .ok (.iconst (-1), 1) := by decide +kernel
theorem dX9_type_12 : decode cX9_type 12 = .ok (.ireturn, 1) := by decide +kernel
theorem dX9_type_13 : decode cX9_type 13 = .ok (.aload_n 0, 1) := by decide +kernel
theorem dX9_type_14 : decode cX9_type 14 = .ok (.getfield 67, 3) := by decide +kernel
theorem dX9_type_17 : decode cX9_type 17 = .ok (.sipush 150, 3) := by decide +kernel
theorem dX9_type_20 : decode cX9_type 20 = .ok (.if_icmp .ne 6, 3) := by decide +kernel
theorem dX9_type_23 : decode cX9_type 23 = .ok (.bipush (-3), 2) := by decide +kernel
theorem dX9_type_25 : decode cX9_type 25 = .ok (.ireturn, 1) := by decide +kernel
theorem dX9_type_26 : decode cX9_type 26 = .ok (.aload_n 0, 1) := by decide +kernel
theorem dX9_type_27 : decode cX9_type 27 = .ok (.getfield 23, 3) := by decide +kernel
theorem dX9_type_30 : decode cX9_type 30 = .ok (.aload_n 0, 1) := by decide +kernel
theorem dX9_type_31 : decode cX9_type 31 = .ok (.getfield 67, 3) := by decide +kernel
theorem dX9_type_34 : decode cX9_type 34 = .ok (.iload_n 1, 1) := by decide +kernel
theorem dX9_type_35 : decode cX9_type 35 = .ok (.iastore, 1) := by decide +kernel
theorem dX9_type_36 : decode cX9_type 36 = .ok (.aload_n 0, 1) := by decide +kernel
theorem dX9_type_37 : decode cX9_type 37 = .ok (.dup, 1) := by decide +kernel
theorem dX9_type_38 : decode cX9_type 38 = .ok (.getfield 67, 3) := by decide +kernel
theorem dX9_type_41 : decode cX9_type 41 = .ok (.iconst 1, 1) := by decide +kernel
theorem dX9_type_42 : decode cX9_type 42 = .ok (.iadd, 1) := by decide +kernel
theorem dX9_type_43 : decode cX9_type 43 = .ok (.putfield 67, 3) := by decide +kernel
theorem dX9_type_46 : decode cX9_type 46 = .ok (.aload_n 0, 1) := by decide +kernel
theorem dX9_type_47 : decode cX9_type 47 = .ok (.getfield 67, 3) := by decide +kernel
theorem dX9_type_50 : decode cX9_type 50 = .ok (.ireturn, 1) := by decide +kernel
theorem dX9_clear_0 : decode cX9_clear 0 = .ok (.aload_n 0, 1) := by decide +kernel
theorem dX9_clear_1 : decode cX9_clear 1 = .ok (.getfield 67, 3) := by decide +kernel
theorem dX9_clear_4 : decode cX9_clear 4 = .ok (.istore_n 1, 1) := by decide +kernel
theorem dX9_clear_5 : decode cX9_clear 5 = .ok (.aload_n 0, 1) := by decide +kernel
theorem dX9_clear_6 : decode cX9_clear 6 = .ok (.iconst 0, 1) := by decide +kernel
theorem dX9_clear_7 : decode cX9_clear 7 = .ok (.putfield 67, 3) := by decide +kernel
theorem dX9_clear_10 : decode cX9_clear 10 = .ok (.iload_n 1, 1) := by decide +kernel
theorem dX9_clear_11 : decode cX9_clear 11 = .ok (.ireturn, 1) := by decide +kernel
theorem dX9_here_0 : decode cX9_here 0 = .ok (.aload_n 0, 1) := by decide +kernel
theorem dX9_here_1 : decode cX9_here 1 = .ok (.getfield 70, 3) := by decide +kernel
theorem dX9_here_4 : decode cX9_here 4 = .ok (.aload_n 0, 1) := by decide +kernel
theorem dX9_here_5 : decode cX9_here 5 = .ok (.getfield 67, 3) := by decide +kernel
theorem dX9_here_8 : decode cX9_here 8 = .ok (.if_icmp .ge 15, 3) := by decide +kernel
theorem dX9_here_11 : decode cX9_here 11 = .ok (.aload_n 0, 1) := by decide +kernel
theorem dX9_here_12 : decode cX9_here 12 = .ok (.getfield 23, 3) := by decide +kernel
theorem dX9_here_15 : decode cX9_here 15 = .ok (.aload_n 0, 1) := by decide +kernel
theorem dX9_here_16 : decode cX9_here 16 = .ok (.getfield 70, 3) := by decide +kernel
theorem dX9_here_19 : decode cX9_here 19 = .ok (.iaload, 1) := by decide +kernel
theorem dX9_here_20 : decode cX9_here 20 = .ok (.goto 5, 3) := by decide +kernel
theorem dX9_here_23 : decode cX9_here 23 = .ok (.bipush (-9), 2) := by decide +kernel
theorem dX9_here_25 : decode cX9_here 25 = .ok (.ireturn, 1) := by decide +kernel
theorem dX9_skip_0 : decode cX9_skip 0 = .ok (.aload_n 0, 1) := by decide +kernel
theorem dX9_skip_1 : decode cX9_skip 1 = .ok (.invokevirtual 73, 3) := by decide +kernel
theorem dX9_skip_4 : decode cX9_skip 4 = .ok (.bipush 32, 2) := by decide +kernel
theorem dX9_skip_6 : decode cX9_skip 6 = .ok (.if_icmp .ne 16, 3) := by decide +kernel
theorem dX9_skip_9 : decode cX9_skip 9 = .ok (.aload_n 0, 1) := by decide +kernel
theorem dX9_skip_10 : decode cX9_skip 10 = .ok (.dup, 1) := by decide +kernel
theorem dX9_skip_11 : decode cX9_skip 11 = .ok (.getfield 70, 3) := by decide +kernel
theorem dX9_skip_14 : decode cX9_skip 14 = .ok (.iconst 1, 1) := by decide +kernel
theorem dX9_skip_15 : decode cX9_skip 15 = .ok (.iadd, 1) := by decide +kernel
theorem dX9_skip_16 : decode cX9_skip 16 = .ok (.putfield 70, 3) := by decide +kernel
theorem dX9_skip_19 : decode cX9_skip 19 = .ok (.goto (-19), 3) := by decide +kernel
theorem dX9_skip_22 : decode cX9_skip 22 = .ok (.return_, 1) := by decide +kernel
theorem dX9_number_0 : decode cX9_number 0 = .ok (.aload_n 0, 1) := by decide +kernel
theorem dX9_number_1 : decode cX9_number 1 = .ok (.invokevirtual 77, 3) := by decide +kernel
theorem dX9_number_4 : decode cX9_number 4 = .ok (.iconst 0, 1) := by decide +kernel
theorem dX9_number_5 : decode cX9_number 5 = .ok (.istore_n 3, 1) := by decide +kernel
theorem dX9_number_6 : decode cX9_number 6 = .ok (.iconst 0, 1) := by decide +kernel
theorem dX9_number_7 : decode cX9_number 7 = .ok (.istore 4, 2) := by decide +kernel
theorem dX9_number_9 : decode cX9_number 9 = .ok (.aload_n 0, 1) := by decide +kernel
theorem dX9_number_10 : decode cX9_number 10 = .ok (.getfield 70, 3) := by decide +kernel
theorem dX9_number_13 : decode cX9_number 13 = .ok (.iload_n 3, 1) := by decide +kernel
theorem dX9_number_14 : decode cX9_number 14 = .ok (.iadd, 1) := by decide +kernel
theorem dX9_number_15 : decode cX9_number 15 = .ok (.aload_n 0, 1) := by decide +kernel
theorem dX9_number_16 : decode cX9_number 16 = .ok (.getfield 67, 3) := by decide +kernel
theorem dX9_number_19 : decode cX9_number 19 = .ok (.if_icmp .ge 62, 3) := by decide +kernel
theorem dX9_number_22 : decode cX9_number 22 = .ok (.aload_n 0, 1) := by decide +kernel
theorem dX9_number_23 : decode cX9_number 23 = .ok (.getfield 23, 3) := by decide +kernel
theorem dX9_number_26 : decode cX9_number 26 = .ok (.aload_n 0, 1) := by decide +kernel
theorem dX9_number_27 : decode cX9_number 27 = .ok (.getfield 70, 3) := by decide +kernel
theorem dX9_number_30 : decode cX9_number 30 = .ok (.iload_n 3, 1) := by decide +kernel
theorem dX9_number_31 : decode cX9_number 31 = .ok (.iadd, 1) := by decide +kernel
theorem dX9_number_32 : decode cX9_number 32 = .ok (.iaload, 1) := by decide +kernel
theorem dX9_number_33 : decode cX9_number 33 = .ok (.bipush 48, 2) := by decide +kernel
theorem dX9_number_35 : decode cX9_number 35 = .ok (.bipush 57, 2) := by decide +kernel
theorem dX9_number_37 : decode cX9_number 37 = .ok (.invokestatic 63, 3) := by decide +kernel
theorem dX9_number_40 : decode cX9_number 40 = .ok (.ifCond .eq 41, 3) := by decide +kernel
theorem dX9_number_43 : decode cX9_number 43 = .ok (.iload_n 3, 1) := by decide +kernel
theorem dX9_number_44 : decode cX9_number 44 = .ok (.iconst 3, 1) := by decide +kernel
theorem dX9_number_45 : decode cX9_number 45 = .ok (.if_icmp .ge 26, 3) := by decide +kernel
theorem dX9_number_48 : decode cX9_number 48 = .ok (.bipush 10, 2) := by decide +kernel
theorem dX9_number_50 : decode cX9_number 50 = .ok (.iload 4, 2) := by decide +kernel
theorem dX9_number_52 : decode cX9_number 52 = .ok (.imul, 1) := by decide +kernel
theorem dX9_number_53 : decode cX9_number 53 = .ok (.aload_n 0, 1) := by decide +kernel
theorem dX9_number_54 : decode cX9_number 54 = .ok (.getfield 23, 3) := by decide +kernel
theorem dX9_number_57 : decode cX9_number 57 = .ok (.aload_n 0, 1) := by decide +kernel
theorem dX9_number_58 : decode cX9_number 58 = .ok (.getfield 70, 3) := by decide +kernel
theorem dX9_number_61 : decode cX9_number 61 = .ok (.iload_n 3, 1) := by decide +kernel
theorem dX9_number_62 : decode cX9_number 62 = .ok (.iadd, 1) := by decide +kernel
theorem dX9_number_63 : decode cX9_number 63 = .ok (.iaload, 1) := by decide +kernel
theorem dX9_number_64 : decode cX9_number 64 = .ok (.iadd, 1) := by decide +kernel
theorem dX9_number_65 : decode cX9_number 65 = .ok (.bipush 48, 2) := by decide +kernel
theorem dX9_number_67 : decode cX9_number 67 = .ok (.isub, 1) := by decide +kernel
theorem dX9_number_68 : decode cX9_number 68 = .ok (.goto 5, 3) := by decide +kernel
theorem dX9_number_71 : decode cX9_number 71 = .ok (.iload 4, 2) := by decide +kernel
theorem dX9_number_73 : decode cX9_number 73 = .ok (.istore 4, 2) := by decide +kernel
theorem dX9_number_75 : decode cX9_number 75 = .ok (.iinc 3 1, 3) := by decide +kernel
theorem dX9_number_78 : decode cX9_number 78 = .ok (.goto (-69), 3) := by decide +kernel
theorem dX9_number_81 : decode cX9_number 81 = .ok (.iload_n 3, 1) := by decide +kernel
theorem dX9_number_82 : decode cX9_number 82 = .ok (.iconst 1, 1) := by decide +kernel
theorem dX9_number_83 : decode cX9_number 83 = .ok (.iconst 3, 1) := by decide +kernel
theorem dX9_number_84 : decode cX9_number 84 = .ok (.invokestatic 63, 3) := by decide +kernel
theorem dX9_number_87 : decode cX9_number 87 = .ok (.ifCond .eq 27, 3) := by decide +kernel
theorem dX9_number_90 : decode cX9_number 90 = .ok (.iload_n 3, 1) := by decide +kernel
theorem dX9_number_91 : decode cX9_number 91 = .ok (.iconst 1, 1) := by decide +kernel
theorem dX9_number_92 : decode cX9_number 92 = .ok (.if_icmp .le 12, 3) := by decide +kernel
theorem dX9_number_95 : decode cX9_number 95 = .ok (.aload_n 0, 1) := by decide +kernel
theorem dX9_number_96 : decode cX9_number 96 = .ok (.invokevirtual 73, 3) := by decide +kernel
theorem dX9_number_99 : decode cX9_number 99 = .ok (.bipush 48, 2) := by decide +kernel
theorem dX9_number_101 : decode cX9_number 101 = .ok (.if_icmp .eq 13, 3) := by decide +kernel
theorem dX9_number_104 : decode cX9_number 104 = .ok (.iload 4, 2) := by decide +kernel
theorem dX9_number_106 : decode cX9_number 106 = .ok (.iload_n 1, 1) := by decide +kernel
theorem dX9_number_107 : decode cX9_number 107 = .ok (.iload_n 2, 1) := by decide +kernel
theorem dX9_number_108 : decode cX9_number 108 = .ok (.invokestatic 63, 3) := by decide +kernel
theorem dX9_number_111 : decode cX9_number 111 = .ok (.ifCond .ne 5, 3) := by decide +kernel
theorem dX9_number_114 : decode cX9_number 114 = .ok (.iconst 0, 1) := by decide +kernel
theorem dX9_number_115 : decode cX9_number 115 = .ok (.ireturn, 1) := by decide +kernel
theorem dX9_number_116 : decode cX9_number 116 = .ok (.aload_n 0, 1) := by decide +kernel
theorem dX9_number_117 : decode cX9_number 117 = .ok (.iload 4, 2) := by decide +kernel
theorem dX9_number_119 : decode cX9_number 119 = .ok (.putfield 80, 3) := by decide +kernel
theorem dX9_number_122 : decode cX9_number 122 = .ok (.aload_n 0, 1) := by decide +kernel
theorem dX9_number_123 : decode cX9_number 123 = .ok (.dup, 1) := by decide +kernel
theorem dX9_number_124 : decode cX9_number 124 = .ok (.getfield 70, 3) := by decide +kernel
theorem dX9_number_127 : decode cX9_number 127 = .ok (.iload_n 3, 1) := by decide +kernel
theorem dX9_number_128 : decode cX9_number 128 = .ok (.iadd, 1) := by decide +kernel
theorem dX9_number_129 : decode cX9_number 129 = .ok (.putfield 70, 3) := by decide +kernel
theorem dX9_number_132 : decode cX9_number 132 = .ok (.iconst 1, 1) := by decide +kernel
theorem dX9_number_133 : decode cX9_number 133 = .ok (.ireturn, 1) := by decide +kernel
theorem dX9_ends_0 : decode cX9_ends 0 = .ok (.aload_n 0, 1) := by decide +kernel
theorem dX9_ends_1 : decode cX9_ends 1 = .ok (.invokevirtual 77, 3) := by decide +kernel
theorem dX9_ends_4 : decode cX9_ends 4 = .ok (.aload_n 0, 1) := by decide +kernel
theorem dX9_ends_5 : decode cX9_ends 5 = .ok (.invokevirtual 73, 3) := by decide +kernel
theorem dX9_ends_8 : decode cX9_ends 8 = .ok (.bipush 59, 2) := by decide +kernel
theorem dX9_ends_10 : decode cX9_ends 10 = .ok (.if_icmp .eq 5, 3) := by decide +kernel
theorem dX9_ends_13 : decode cX9_ends 13 = .ok (.iconst 0, 1) := by decide +kernel
theorem dX9_ends_14 : decode cX9_ends 14 = .ok (.ireturn, 1) := by decide +kernel
theorem dX9_ends_15 : decode cX9_ends 15 = .ok (.aload_n 0, 1) := by decide +kernel
theorem dX9_ends_16 : decode cX9_ends 16 = .ok (.dup, 1) := by decide +kernel
theorem dX9_ends_17 : decode cX9_ends 17 = .ok (.getfield 70, 3) := by decide +kernel
theorem dX9_ends_20 : decode cX9_ends 20 = .ok (.iconst 1, 1) := by decide +kernel
theorem dX9_ends_21 : decode cX9_ends 21 = .ok (.iadd, 1) := by decide +kernel
theorem dX9_ends_22 : decode cX9_ends 22 = .ok (.putfield 70, 3) := by decide +kernel
theorem dX9_ends_25 : decode cX9_ends 25 = .ok (.iconst 1, 1) := by decide +kernel
theorem dX9_ends_26 : decode cX9_ends 26 = .ok (.ireturn, 1) := by decide +kernel
theorem dX9_isTold_0 : decode cX9_isTold 0 = .ok (.iconst 0, 1) := by decide +kernel
theorem dX9_isTold_1 : decode cX9_isTold 1 = .ok (.istore_n 2, 1) := by decide +kernel
theorem dX9_isTold_2 : decode cX9_isTold 2 = .ok (.iconst 0, 1) := by decide +kernel
theorem dX9_isTold_3 : decode cX9_isTold 3 = .ok (.istore_n 3, 1) := by decide +kernel
theorem dX9_isTold_4 : decode cX9_isTold 4 = .ok (.iload_n 3, 1) := by decide +kernel
theorem dX9_isTold_5 : decode cX9_isTold 5 = .ok (.aload_n 0, 1) := by decide +kernel
theorem dX9_isTold_6 : decode cX9_isTold 6 = .ok (.getfield 83, 3) := by decide +kernel
theorem dX9_isTold_9 : decode cX9_isTold 9 = .ok (.if_icmp .ge 29, 3) := by decide +kernel
theorem dX9_isTold_12 : decode cX9_isTold 12 = .ok (.iload_n 2, 1) := by decide +kernel
theorem dX9_isTold_13 : decode cX9_isTold 13 = .ok (.ifCond .ne 13, 3) := by decide +kernel
theorem dX9_isTold_16 : decode cX9_isTold 16 = .ok (.aload_n 0, 1) := by decide +kernel
theorem dX9_isTold_17 : decode cX9_isTold 17 = .ok (.getfield 26, 3) := by decide +kernel
theorem dX9_isTold_20 : decode cX9_isTold 20 = .ok (.iload_n 3, 1) := by decide +kernel
theorem dX9_isTold_21 : decode cX9_isTold 21 = .ok (.iaload, 1) := by decide +kernel
theorem dX9_isTold_22 : decode cX9_isTold 22 = .ok (.iload_n 1, 1) := by decide +kernel
theorem dX9_isTold_23 : decode cX9_isTold 23 = .ok (.if_icmp .ne 7, 3) := by decide +kernel
theorem dX9_isTold_26 : decode cX9_isTold 26 = .ok (.iconst 1, 1) := by decide +kernel
theorem dX9_isTold_27 : decode cX9_isTold 27 = .ok (.goto 4, 3) := by decide +kernel
theorem dX9_isTold_30 : decode cX9_isTold 30 = .ok (.iconst 0, 1) := by decide +kernel
theorem dX9_isTold_31 : decode cX9_isTold 31 = .ok (.istore_n 2, 1) := by decide +kernel
theorem dX9_isTold_32 : decode cX9_isTold 32 = .ok (.iinc 3 1, 3) := by decide +kernel
theorem dX9_isTold_35 : decode cX9_isTold 35 = .ok (.goto (-31), 3) := by decide +kernel
theorem dX9_isTold_38 : decode cX9_isTold 38 = .ok (.iload_n 2, 1) := by decide +kernel
theorem dX9_isTold_39 : decode cX9_isTold 39 = .ok (.ireturn, 1) := by decide +kernel
theorem dX9_readsPlace_0 : decode cX9_readsPlace 0 = .ok (.aload_n 0, 1) := by decide +kernel
theorem dX9_readsPlace_1 : decode cX9_readsPlace 1 = .ok (.iconst 0, 1) := by decide +kernel
theorem dX9_readsPlace_2 : decode cX9_readsPlace 2 = .ok (.bipush 9, 2) := by decide +kernel
theorem dX9_readsPlace_4 : decode cX9_readsPlace 4 = .ok (.invokevirtual 86, 3) := by decide +kernel
theorem dX9_readsPlace_7 : decode cX9_readsPlace 7 = .ok (.ifCond .ne 5, 3) := by decide +kernel
theorem dX9_readsPlace_10 : decode cX9_readsPlace 10 = .ok (.iconst 0, 1) := by decide +kernel
theorem dX9_readsPlace_11 : decode cX9_readsPlace 11 = .ok (.ireturn, 1) := by decide +kernel
theorem dX9_readsPlace_12 : decode cX9_readsPlace 12 = .ok (.aload_n 0, 1) := by decide +kernel
theorem dX9_readsPlace_13 : decode cX9_readsPlace 13 = .ok (.getfield 80, 3) := by decide +kernel
theorem dX9_readsPlace_16 : decode cX9_readsPlace 16 = .ok (.istore_n 1, 1) := by decide +kernel
theorem dX9_readsPlace_17 : decode cX9_readsPlace 17 = .ok (.aload_n 0, 1) := by decide +kernel
theorem dX9_readsPlace_18 : decode cX9_readsPlace 18 = .ok (.invokevirtual 77, 3) := by decide +kernel
theorem dX9_readsPlace_21 : decode cX9_readsPlace 21 = .ok (.aload_n 0, 1) := by decide +kernel
theorem dX9_readsPlace_22 : decode cX9_readsPlace 22 = .ok (.getfield 70, 3) := by decide +kernel
theorem dX9_readsPlace_25 : decode cX9_readsPlace 25 = .ok (.istore_n 2, 1) := by decide +kernel
theorem dX9_readsPlace_26 : decode cX9_readsPlace 26 = .ok (.aload_n 0, 1) := by decide +kernel
theorem dX9_readsPlace_27 : decode cX9_readsPlace 27 = .ok (.iconst 0, 1) := by decide +kernel
theorem dX9_readsPlace_28 : decode cX9_readsPlace 28 = .ok (.bipush 9, 2) := by decide +kernel
theorem dX9_readsPlace_30 : decode cX9_readsPlace 30 = .ok (.invokevirtual 86, 3) := by decide +kernel
theorem dX9_readsPlace_33 : decode cX9_readsPlace 33 = .ok (.ifCond .ne 5, 3) := by decide +kernel
theorem dX9_readsPlace_36 : decode cX9_readsPlace 36 = .ok (.iconst 0, 1) := by decide +kernel
theorem dX9_readsPlace_37 : decode cX9_readsPlace 37 = .ok (.ireturn, 1) := by decide +kernel
theorem dX9_readsPlace_38 : decode cX9_readsPlace 38 = .ok (.bipush 10, 2) := by decide +kernel
theorem dX9_readsPlace_40 : decode cX9_readsPlace 40 = .ok (.iload_n 1, 1) := by decide +kernel
theorem dX9_readsPlace_41 : decode cX9_readsPlace 41 = .ok (.imul, 1) := by decide +kernel
theorem dX9_readsPlace_42 : decode cX9_readsPlace 42 = .ok (.aload_n 0, 1) := by decide +kernel
theorem dX9_readsPlace_43 : decode cX9_readsPlace 43 = .ok (.getfield 80, 3) := by decide +kernel
theorem dX9_readsPlace_46 : decode cX9_readsPlace 46 = .ok (.iadd, 1) := by decide +kernel
theorem dX9_readsPlace_47 : decode cX9_readsPlace 47 = .ok (.istore_n 3, 1) := by decide +kernel
theorem dX9_readsPlace_48 : decode cX9_readsPlace 48 = .ok (.aload_n 0, 1) := by decide +kernel
theorem dX9_readsPlace_49 : decode cX9_readsPlace 49 = .ok (.iload_n 3, 1) := by decide +kernel
theorem dX9_readsPlace_50 : decode cX9_readsPlace 50 = .ok (.invokevirtual 90, 3) := by decide +kernel
theorem dX9_readsPlace_53 : decode cX9_readsPlace 53 = .ok (.ifCond .eq 10, 3) := by decide +kernel
theorem dX9_readsPlace_56 : decode cX9_readsPlace 56 = .ok (.aload_n 0, 1) := by decide +kernel
theorem dX9_readsPlace_57 : decode cX9_readsPlace 57 = .ok (.iload_n 2, 1) := by decide +kernel
theorem dX9_readsPlace_58 : decode cX9_readsPlace 58 = .ok (.putfield 70, 3) := by decide +kernel
theorem dX9_readsPlace_61 : decode cX9_readsPlace 61 = .ok (.iconst 0, 1) := by decide +kernel
theorem dX9_readsPlace_62 : decode cX9_readsPlace 62 = .ok (.ireturn, 1) := by decide +kernel
theorem dX9_readsPlace_63 : decode cX9_readsPlace 63 = .ok (.aload_n 0, 1) := by decide +kernel
theorem dX9_readsPlace_64 : decode cX9_readsPlace 64 = .ok (.iconst 0, 1) := by decide +kernel
theorem dX9_readsPlace_65 : decode cX9_readsPlace 65 = .ok (.sipush 999, 3) := by decide +kernel
theorem dX9_readsPlace_68 : decode cX9_readsPlace 68 = .ok (.invokevirtual 86, 3) := by decide +kernel
theorem dX9_readsPlace_71 : decode cX9_readsPlace 71 = .ok (.ifCond .ne 5, 3) := by decide +kernel
theorem dX9_readsPlace_74 : decode cX9_readsPlace 74 = .ok (.iconst 0, 1) := by decide +kernel
theorem dX9_readsPlace_75 : decode cX9_readsPlace 75 = .ok (.ireturn, 1) := by decide +kernel
theorem dX9_readsPlace_76 : decode cX9_readsPlace 76 = .ok (.aload_n 0, 1) := by decide +kernel
theorem dX9_readsPlace_77 : decode cX9_readsPlace 77 = .ok (.getfield 26, 3) := by decide +kernel
theorem dX9_readsPlace_80 : decode cX9_readsPlace 80 = .ok (.aload_n 0, 1) := by decide +kernel
theorem dX9_readsPlace_81 : decode cX9_readsPlace 81 = .ok (.getfield 83, 3) := by decide +kernel
theorem dX9_readsPlace_84 : decode cX9_readsPlace 84 = .ok (.iload_n 3, 1) := by decide +kernel
theorem dX9_readsPlace_85 : decode cX9_readsPlace 85 = .ok (.iastore, 1) := by decide +kernel
theorem dX9_readsPlace_86 : decode cX9_readsPlace 86 = .ok (.aload_n 0, 1) := by decide +kernel
theorem dX9_readsPlace_87 : decode cX9_readsPlace 87 = .ok (.getfield 29, 3) := by decide +kernel
theorem dX9_readsPlace_90 : decode cX9_readsPlace 90 = .ok (.aload_n 0, 1) := by decide +kernel
theorem dX9_readsPlace_91 : decode cX9_readsPlace 91 = .ok (.getfield 83, 3) := by decide +kernel
theorem dX9_readsPlace_94 : decode cX9_readsPlace 94 = .ok (.aload_n 0, 1) := by decide +kernel
theorem dX9_readsPlace_95 : decode cX9_readsPlace 95 = .ok (.getfield 80, 3) := by decide +kernel
theorem dX9_readsPlace_98 : decode cX9_readsPlace 98 = .ok (.iastore, 1) := by decide +kernel
theorem dX9_readsPlace_99 : decode cX9_readsPlace 99 = .ok (.aload_n 0, 1) := by decide +kernel
theorem dX9_readsPlace_100 : decode cX9_readsPlace 100 = .ok (.dup, 1) := by decide +kernel
theorem dX9_readsPlace_101 : decode cX9_readsPlace 101 = .ok (.getfield 83, 3) := by decide +kernel
theorem dX9_readsPlace_104 : decode cX9_readsPlace 104 = .ok (.iconst 1, 1) := by decide +kernel
theorem dX9_readsPlace_105 : decode cX9_readsPlace 105 = .ok (.iadd, 1) := by decide +kernel
theorem dX9_readsPlace_106 : decode cX9_readsPlace 106 = .ok (.putfield 83, 3) := by decide +kernel
theorem dX9_readsPlace_109 : decode cX9_readsPlace 109 = .ok (.aload_n 0, 1) := by decide +kernel
theorem dX9_readsPlace_110 : decode cX9_readsPlace 110 = .ok (.invokevirtual 94, 3) := by decide +kernel
theorem dX9_readsPlace_113 : decode cX9_readsPlace 113 = .ok (.ireturn, 1) := by decide +kernel
theorem dX9_readsAsked_0 : decode cX9_readsAsked 0 = .ok (.aload_n 0, 1) := by decide +kernel
theorem dX9_readsAsked_1 : decode cX9_readsAsked 1 = .ok (.iconst 1, 1) := by decide +kernel
theorem dX9_readsAsked_2 : decode cX9_readsAsked 2 = .ok (.bipush 6, 2) := by decide +kernel
theorem dX9_readsAsked_4 : decode cX9_readsAsked 4 = .ok (.invokevirtual 86, 3) := by decide +kernel
theorem dX9_readsAsked_7 : decode cX9_readsAsked 7 = .ok (.ifCond .ne 5, 3) := by decide +kernel
theorem dX9_readsAsked_10 : decode cX9_readsAsked 10 = .ok (.iconst 0, 1) := by decide +kernel
theorem dX9_readsAsked_11 : decode cX9_readsAsked 11 = .ok (.ireturn, 1) := by decide +kernel
theorem dX9_readsAsked_12 : decode cX9_readsAsked 12 = .ok (.aload_n 0, 1) := by decide +kernel
theorem dX9_readsAsked_13 : decode cX9_readsAsked 13 = .ok (.aload_n 0, 1) := by decide +kernel
theorem dX9_readsAsked_14 : decode cX9_readsAsked 14 = .ok (.getfield 80, 3) := by decide +kernel
theorem dX9_readsAsked_17 : decode cX9_readsAsked 17 = .ok (.putfield 98, 3) := by decide +kernel
theorem dX9_readsAsked_20 : decode cX9_readsAsked 20 = .ok (.aload_n 0, 1) := by decide +kernel
theorem dX9_readsAsked_21 : decode cX9_readsAsked 21 = .ok (.invokevirtual 94, 3) := by decide +kernel
theorem dX9_readsAsked_24 : decode cX9_readsAsked 24 = .ok (.ireturn, 1) := by decide +kernel
theorem dX9_readsCost_0 : decode cX9_readsCost 0 = .ok (.aload_n 0, 1) := by decide +kernel
theorem dX9_readsCost_1 : decode cX9_readsCost 1 = .ok (.iconst 0, 1) := by decide +kernel
theorem dX9_readsCost_2 : decode cX9_readsCost 2 = .ok (.sipush 999, 3) := by decide +kernel
theorem dX9_readsCost_5 : decode cX9_readsCost 5 = .ok (.invokevirtual 86, 3) := by decide +kernel
theorem dX9_readsCost_8 : decode cX9_readsCost 8 = .ok (.ifCond .ne 5, 3) := by decide +kernel
theorem dX9_readsCost_11 : decode cX9_readsCost 11 = .ok (.iconst 0, 1) := by decide +kernel
theorem dX9_readsCost_12 : decode cX9_readsCost 12 = .ok (.ireturn, 1) := by decide +kernel
theorem dX9_readsCost_13 : decode cX9_readsCost 13 = .ok (.aload_n 0, 1) := by decide +kernel
theorem dX9_readsCost_14 : decode cX9_readsCost 14 = .ok (.aload_n 0, 1) := by decide +kernel
theorem dX9_readsCost_15 : decode cX9_readsCost 15 = .ok (.getfield 80, 3) := by decide +kernel
theorem dX9_readsCost_18 : decode cX9_readsCost 18 = .ok (.putfield 101, 3) := by decide +kernel
theorem dX9_readsCost_21 : decode cX9_readsCost 21 = .ok (.aload_n 0, 1) := by decide +kernel
theorem dX9_readsCost_22 : decode cX9_readsCost 22 = .ok (.invokevirtual 94, 3) := by decide +kernel
theorem dX9_readsCost_25 : decode cX9_readsCost 25 = .ok (.ireturn, 1) := by decide +kernel
theorem dX9_readsItem_0 : decode cX9_readsItem 0 = .ok (.aload_n 0, 1) := by decide +kernel
theorem dX9_readsItem_1 : decode cX9_readsItem 1 = .ok (.invokevirtual 73, 3) := by decide +kernel
theorem dX9_readsItem_4 : decode cX9_readsItem 4 = .ok (.istore_n 1, 1) := by decide +kernel
theorem dX9_readsItem_5 : decode cX9_readsItem 5 = .ok (.aload_n 0, 1) := by decide +kernel
theorem dX9_readsItem_6 : decode cX9_readsItem 6 = .ok (.getfield 70, 3) := by decide +kernel
theorem dX9_readsItem_9 : decode cX9_readsItem 9 = .ok (.iconst 1, 1) := by decide +kernel
theorem dX9_readsItem_10 : decode cX9_readsItem 10 = .ok (.iadd, 1) := by decide +kernel
theorem dX9_readsItem_11 : decode cX9_readsItem 11 = .ok (.aload_n 0, 1) := by decide +kernel
theorem dX9_readsItem_12 : decode cX9_readsItem 12 = .ok (.getfield 67, 3) := by decide +kernel
theorem dX9_readsItem_15 : decode cX9_readsItem 15 = .ok (.if_icmp .ge 24, 3) := by decide +kernel
theorem dX9_readsItem_18 : decode cX9_readsItem 18 = .ok (.aload_n 0, 1) := by decide +kernel
theorem dX9_readsItem_19 : decode cX9_readsItem 19 = .ok (.getfield 23, 3) := by decide +kernel
theorem dX9_readsItem_22 : decode cX9_readsItem 22 = .ok (.aload_n 0, 1) := by decide +kernel
theorem dX9_readsItem_23 : decode cX9_readsItem 23 = .ok (.getfield 70, 3) := by decide +kernel
theorem dX9_readsItem_26 : decode cX9_readsItem 26 = .ok (.iconst 1, 1) := by decide +kernel
theorem dX9_readsItem_27 : decode cX9_readsItem 27 = .ok (.iadd, 1) := by decide +kernel
theorem dX9_readsItem_28 : decode cX9_readsItem 28 = .ok (.iaload, 1) := by decide +kernel
theorem dX9_readsItem_29 : decode cX9_readsItem 29 = .ok (.bipush 97, 2) := by decide +kernel
theorem dX9_readsItem_31 : decode cX9_readsItem 31 = .ok (.bipush 122, 2) := by decide +kernel
theorem dX9_readsItem_33 : decode cX9_readsItem 33 = .ok (.invokestatic 63, 3) := by decide +kernel
theorem dX9_readsItem_36 : decode cX9_readsItem 36 = .ok (.ifCond .ne 7, 3) := by decide +kernel
theorem dX9_readsItem_39 : decode cX9_readsItem 39 = .ok (.iconst 1, 1) := by decide +kernel
theorem dX9_readsItem_40 : decode cX9_readsItem 40 = .ok (.goto 4, 3) := by decide +kernel
theorem dX9_readsItem_43 : decode cX9_readsItem 43 = .ok (.iconst 0, 1) := by decide +kernel
theorem dX9_readsItem_44 : decode cX9_readsItem 44 = .ok (.istore_n 2, 1) := by decide +kernel
theorem dX9_readsItem_45 : decode cX9_readsItem 45 = .ok (.iload_n 1, 1) := by decide +kernel
theorem dX9_readsItem_46 : decode cX9_readsItem 46 = .ok (.bipush 112, 2) := by decide +kernel
theorem dX9_readsItem_48 : decode cX9_readsItem 48 = .ok (.if_icmp .ne 20, 3) := by decide +kernel
theorem dX9_readsItem_51 : decode cX9_readsItem 51 = .ok (.aload_n 0, 1) := by decide +kernel
theorem dX9_readsItem_52 : decode cX9_readsItem 52 = .ok (.getfield 83, 3) := by decide +kernel
theorem dX9_readsItem_55 : decode cX9_readsItem 55 = .ok (.bipush 24, 2) := by decide +kernel
theorem dX9_readsItem_57 : decode cX9_readsItem 57 = .ok (.if_icmp .ge 7, 3) := by decide +kernel
theorem dX9_readsItem_60 : decode cX9_readsItem 60 = .ok (.iconst 1, 1) := by decide +kernel
theorem dX9_readsItem_61 : decode cX9_readsItem 61 = .ok (.goto 48, 3) := by decide +kernel
theorem dX9_readsItem_64 : decode cX9_readsItem 64 = .ok (.iconst 0, 1) := by decide +kernel
theorem dX9_readsItem_65 : decode cX9_readsItem 65 = .ok (.goto 44, 3) := by decide +kernel
theorem dX9_readsItem_68 : decode cX9_readsItem 68 = .ok (.iload_n 1, 1) := by decide +kernel
theorem dX9_readsItem_69 : decode cX9_readsItem 69 = .ok (.bipush 107, 2) := by decide +kernel
theorem dX9_readsItem_71 : decode cX9_readsItem 71 = .ok (.if_icmp .ne 18, 3) := by decide +kernel
theorem dX9_readsItem_74 : decode cX9_readsItem 74 = .ok (.aload_n 0, 1) := by decide +kernel
theorem dX9_readsItem_75 : decode cX9_readsItem 75 = .ok (.getfield 98, 3) := by decide +kernel
theorem dX9_readsItem_78 : decode cX9_readsItem 78 = .ok (.ifCond .ne 7, 3) := by decide +kernel
theorem dX9_readsItem_81 : decode cX9_readsItem 81 = .ok (.iconst 1, 1) := by decide +kernel
theorem dX9_readsItem_82 : decode cX9_readsItem 82 = .ok (.goto 27, 3) := by decide +kernel
theorem dX9_readsItem_85 : decode cX9_readsItem 85 = .ok (.iconst 0, 1) := by decide +kernel
theorem dX9_readsItem_86 : decode cX9_readsItem 86 = .ok (.goto 23, 3) := by decide +kernel
theorem dX9_readsItem_89 : decode cX9_readsItem 89 = .ok (.iload_n 1, 1) := by decide +kernel
theorem dX9_readsItem_90 : decode cX9_readsItem 90 = .ok (.bipush 99, 2) := by decide +kernel
theorem dX9_readsItem_92 : decode cX9_readsItem 92 = .ok (.if_icmp .ne 16, 3) := by decide +kernel
theorem dX9_readsItem_95 : decode cX9_readsItem 95 = .ok (.aload_n 0, 1) := by decide +kernel
theorem dX9_readsItem_96 : decode cX9_readsItem 96 = .ok (.getfield 101, 3) := by decide +kernel
theorem dX9_readsItem_99 : decode cX9_readsItem 99 = .ok (.bipush (-9), 2) := by decide +kernel
theorem dX9_readsItem_101 : decode cX9_readsItem 101 = .ok (.if_icmp .ne 7, 3) := by decide +kernel
theorem dX9_readsItem_104 : decode cX9_readsItem 104 = .ok (.iconst 1, 1) := by decide +kernel
theorem dX9_readsItem_105 : decode cX9_readsItem 105 = .ok (.goto 4, 3) := by decide +kernel
theorem dX9_readsItem_108 : decode cX9_readsItem 108 = .ok (.iconst 0, 1) := by decide +kernel
theorem dX9_readsItem_109 : decode cX9_readsItem 109 = .ok (.istore_n 3, 1) := by decide +kernel
theorem dX9_readsItem_110 : decode cX9_readsItem 110 = .ok (.iload_n 2, 1) := by decide +kernel
theorem dX9_readsItem_111 : decode cX9_readsItem 111 = .ok (.ifCond .eq 7, 3) := by decide +kernel
theorem dX9_readsItem_114 : decode cX9_readsItem 114 = .ok (.iload_n 3, 1) := by decide +kernel
theorem dX9_readsItem_115 : decode cX9_readsItem 115 = .ok (.ifCond .ne 5, 3) := by decide +kernel
theorem dX9_readsItem_118 : decode cX9_readsItem 118 = .ok (.iconst 0, 1) := by decide +kernel
theorem dX9_readsItem_119 : decode cX9_readsItem 119 = .ok (.ireturn, 1) := by decide +kernel
theorem dX9_readsItem_120 : decode cX9_readsItem 120 = .ok (.aload_n 0, 1) := by decide +kernel
theorem dX9_readsItem_121 : decode cX9_readsItem 121 = .ok (.dup, 1) := by decide +kernel
theorem dX9_readsItem_122 : decode cX9_readsItem 122 = .ok (.getfield 70, 3) := by decide +kernel
theorem dX9_readsItem_125 : decode cX9_readsItem 125 = .ok (.iconst 1, 1) := by decide +kernel
theorem dX9_readsItem_126 : decode cX9_readsItem 126 = .ok (.iadd, 1) := by decide +kernel
theorem dX9_readsItem_127 : decode cX9_readsItem 127 = .ok (.putfield 70, 3) := by decide +kernel
theorem dX9_readsItem_130 : decode cX9_readsItem 130 = .ok (.iload_n 1, 1) := by decide +kernel
theorem dX9_readsItem_131 : decode cX9_readsItem 131 = .ok (.bipush 112, 2) := by decide +kernel
theorem dX9_readsItem_133 : decode cX9_readsItem 133 = .ok (.if_icmp .ne 10, 3) := by decide +kernel
theorem dX9_readsItem_136 : decode cX9_readsItem 136 = .ok (.aload_n 0, 1) := by decide +kernel
theorem dX9_readsItem_137 : decode cX9_readsItem 137 = .ok (.invokevirtual 104, 3) := by decide +kernel
theorem dX9_readsItem_140 : decode cX9_readsItem 140 = .ok (.goto 20, 3) := by decide +kernel
theorem dX9_readsItem_143 : decode cX9_readsItem 143 = .ok (.iload_n 1, 1) := by decide +kernel
theorem dX9_readsItem_144 : decode cX9_readsItem 144 = .ok (.bipush 107, 2) := by decide +kernel
theorem dX9_readsItem_146 : decode cX9_readsItem 146 = .ok (.if_icmp .ne 10, 3) := by decide +kernel
theorem dX9_readsItem_149 : decode cX9_readsItem 149 = .ok (.aload_n 0, 1) := by decide +kernel
theorem dX9_readsItem_150 : decode cX9_readsItem 150 = .ok (.invokevirtual 107, 3) := by decide +kernel
theorem dX9_readsItem_153 : decode cX9_readsItem 153 = .ok (.goto 7, 3) := by decide +kernel
theorem dX9_readsItem_156 : decode cX9_readsItem 156 = .ok (.aload_n 0, 1) := by decide +kernel
theorem dX9_readsItem_157 : decode cX9_readsItem 157 = .ok (.invokevirtual 110, 3) := by decide +kernel
theorem dX9_readsItem_160 : decode cX9_readsItem 160 = .ok (.ireturn, 1) := by decide +kernel
theorem dX9_map_0 : decode cX9_map 0 = .ok (.aload_n 0, 1) := by decide +kernel
theorem dX9_map_1 : decode cX9_map 1 = .ok (.iconst 0, 1) := by decide +kernel
theorem dX9_map_2 : decode cX9_map 2 = .ok (.putfield 70, 3) := by decide +kernel
theorem dX9_map_5 : decode cX9_map 5 = .ok (.aload_n 0, 1) := by decide +kernel
theorem dX9_map_6 : decode cX9_map 6 = .ok (.iconst 0, 1) := by decide +kernel
theorem dX9_map_7 : decode cX9_map 7 = .ok (.putfield 83, 3) := by decide +kernel
theorem dX9_map_10 : decode cX9_map 10 = .ok (.aload_n 0, 1) := by decide +kernel
theorem dX9_map_11 : decode cX9_map 11 = .ok (.iconst 0, 1) := by decide +kernel
theorem dX9_map_12 : decode cX9_map 12 = .ok (.putfield 98, 3) := by decide +kernel
theorem dX9_map_15 : decode cX9_map 15 = .ok (.aload_n 0, 1) := by decide +kernel
theorem dX9_map_16 : decode cX9_map 16 = .ok (.bipush (-9), 2) := by decide +kernel
theorem dX9_map_18 : decode cX9_map 18 = .ok (.putfield 101, 3) := by decide +kernel
theorem dX9_map_21 : decode cX9_map 21 = .ok (.iconst 0, 1) := by decide +kernel
theorem dX9_map_22 : decode cX9_map 22 = .ok (.istore_n 1, 1) := by decide +kernel
theorem dX9_map_23 : decode cX9_map 23 = .ok (.aload_n 0, 1) := by decide +kernel
theorem dX9_map_24 : decode cX9_map 24 = .ok (.invokevirtual 77, 3) := by decide +kernel
theorem dX9_map_27 : decode cX9_map 27 = .ok (.aload_n 0, 1) := by decide +kernel
theorem dX9_map_28 : decode cX9_map 28 = .ok (.getfield 70, 3) := by decide +kernel
theorem dX9_map_31 : decode cX9_map 31 = .ok (.aload_n 0, 1) := by decide +kernel
theorem dX9_map_32 : decode cX9_map 32 = .ok (.getfield 67, 3) := by decide +kernel
theorem dX9_map_35 : decode cX9_map 35 = .ok (.if_icmp .ge 28, 3) := by decide +kernel
theorem dX9_map_38 : decode cX9_map 38 = .ok (.aload_n 0, 1) := by decide +kernel
theorem dX9_map_39 : decode cX9_map 39 = .ok (.invokevirtual 113, 3) := by decide +kernel
theorem dX9_map_42 : decode cX9_map 42 = .ok (.ifCond .ne 11, 3) := by decide +kernel
theorem dX9_map_45 : decode cX9_map 45 = .ok (.bipush (-10), 2) := by decide +kernel
theorem dX9_map_47 : decode cX9_map 47 = .ok (.aload_n 0, 1) := by decide +kernel
theorem dX9_map_48 : decode cX9_map 48 = .ok (.getfield 70, 3) := by decide +kernel
theorem dX9_map_51 : decode cX9_map 51 = .ok (.isub, 1) := by decide +kernel
theorem dX9_map_52 : decode cX9_map 52 = .ok (.ireturn, 1) := by decide +kernel
theorem dX9_map_53 : decode cX9_map 53 = .ok (.iinc 1 1, 3) := by decide +kernel
theorem dX9_map_56 : decode cX9_map 56 = .ok (.aload_n 0, 1) := by decide +kernel
theorem dX9_map_57 : decode cX9_map 57 = .ok (.invokevirtual 77, 3) := by decide +kernel
theorem dX9_map_60 : decode cX9_map 60 = .ok (.goto (-33), 3) := by decide +kernel
theorem dX9_map_63 : decode cX9_map 63 = .ok (.aload_n 0, 1) := by decide +kernel
theorem dX9_map_64 : decode cX9_map 64 = .ok (.iconst 0, 1) := by decide +kernel
theorem dX9_map_65 : decode cX9_map 65 = .ok (.putfield 67, 3) := by decide +kernel
theorem dX9_map_68 : decode cX9_map 68 = .ok (.aload_n 0, 1) := by decide +kernel
theorem dX9_map_69 : decode cX9_map 69 = .ok (.aload_n 0, 1) := by decide +kernel
theorem dX9_map_70 : decode cX9_map 70 = .ok (.getfield 83, 3) := by decide +kernel
theorem dX9_map_73 : decode cX9_map 73 = .ok (.putfield 60, 3) := by decide +kernel
theorem dX9_map_76 : decode cX9_map 76 = .ok (.aload_n 0, 1) := by decide +kernel
theorem dX9_map_77 : decode cX9_map 77 = .ok (.aload_n 0, 1) := by decide +kernel
theorem dX9_map_78 : decode cX9_map 78 = .ok (.getfield 98, 3) := by decide +kernel
theorem dX9_map_81 : decode cX9_map 81 = .ok (.ifCond .ne 7, 3) := by decide +kernel
theorem dX9_map_84 : decode cX9_map 84 = .ok (.iconst 3, 1) := by decide +kernel
theorem dX9_map_85 : decode cX9_map 85 = .ok (.goto 7, 3) := by decide +kernel
theorem dX9_map_88 : decode cX9_map 88 = .ok (.aload_n 0, 1) := by decide +kernel
theorem dX9_map_89 : decode cX9_map 89 = .ok (.getfield 98, 3) := by decide +kernel
theorem dX9_map_92 : decode cX9_map 92 = .ok (.putfield 7, 3) := by decide +kernel
theorem dX9_map_95 : decode cX9_map 95 = .ok (.aload_n 0, 1) := by decide +kernel
theorem dX9_map_96 : decode cX9_map 96 = .ok (.aload_n 0, 1) := by decide +kernel
theorem dX9_map_97 : decode cX9_map 97 = .ok (.getfield 101, 3) := by decide +kernel
theorem dX9_map_100 : decode cX9_map 100 = .ok (.bipush (-9), 2) := by decide +kernel
theorem dX9_map_102 : decode cX9_map 102 = .ok (.if_icmp .ne 7, 3) := by decide +kernel
theorem dX9_map_105 : decode cX9_map 105 = .ok (.iconst 0, 1) := by decide +kernel
theorem dX9_map_106 : decode cX9_map 106 = .ok (.goto 7, 3) := by decide +kernel
theorem dX9_map_109 : decode cX9_map 109 = .ok (.aload_n 0, 1) := by decide +kernel
theorem dX9_map_110 : decode cX9_map 110 = .ok (.getfield 101, 3) := by decide +kernel
theorem dX9_map_113 : decode cX9_map 113 = .ok (.putfield 116, 3) := by decide +kernel
theorem dX9_map_116 : decode cX9_map 116 = .ok (.aload_n 0, 1) := by decide +kernel
theorem dX9_map_117 : decode cX9_map 117 = .ok (.iconst 0, 1) := by decide +kernel
theorem dX9_map_118 : decode cX9_map 118 = .ok (.putfield 119, 3) := by decide +kernel
theorem dX9_map_121 : decode cX9_map 121 = .ok (.iconst 0, 1) := by decide +kernel
theorem dX9_map_122 : decode cX9_map 122 = .ok (.istore_n 2, 1) := by decide +kernel
theorem dX9_map_123 : decode cX9_map 123 = .ok (.iload_n 2, 1) := by decide +kernel
theorem dX9_map_124 : decode cX9_map 124 = .ok (.aload_n 0, 1) := by decide +kernel
theorem dX9_map_125 : decode cX9_map 125 = .ok (.getfield 60, 3) := by decide +kernel
theorem dX9_map_128 : decode cX9_map 128 = .ok (.if_icmp .ge 33, 3) := by decide +kernel
theorem dX9_map_131 : decode cX9_map 131 = .ok (.aload_n 0, 1) := by decide +kernel
theorem dX9_map_132 : decode cX9_map 132 = .ok (.getfield 13, 3) := by decide +kernel
theorem dX9_map_135 : decode cX9_map 135 = .ok (.iload_n 2, 1) := by decide +kernel
theorem dX9_map_136 : decode cX9_map 136 = .ok (.aload_n 0, 1) := by decide +kernel
theorem dX9_map_137 : decode cX9_map 137 = .ok (.getfield 26, 3) := by decide +kernel
theorem dX9_map_140 : decode cX9_map 140 = .ok (.iload_n 2, 1) := by decide +kernel
theorem dX9_map_141 : decode cX9_map 141 = .ok (.iaload, 1) := by decide +kernel
theorem dX9_map_142 : decode cX9_map 142 = .ok (.iastore, 1) := by decide +kernel
theorem dX9_map_143 : decode cX9_map 143 = .ok (.aload_n 0, 1) := by decide +kernel
theorem dX9_map_144 : decode cX9_map 144 = .ok (.getfield 17, 3) := by decide +kernel
theorem dX9_map_147 : decode cX9_map 147 = .ok (.iload_n 2, 1) := by decide +kernel
theorem dX9_map_148 : decode cX9_map 148 = .ok (.aload_n 0, 1) := by decide +kernel
theorem dX9_map_149 : decode cX9_map 149 = .ok (.getfield 29, 3) := by decide +kernel
theorem dX9_map_152 : decode cX9_map 152 = .ok (.iload_n 2, 1) := by decide +kernel
theorem dX9_map_153 : decode cX9_map 153 = .ok (.iaload, 1) := by decide +kernel
theorem dX9_map_154 : decode cX9_map 154 = .ok (.iastore, 1) := by decide +kernel
theorem dX9_map_155 : decode cX9_map 155 = .ok (.iinc 2 1, 3) := by decide +kernel
theorem dX9_map_158 : decode cX9_map 158 = .ok (.goto (-35), 3) := by decide +kernel
theorem dX9_map_161 : decode cX9_map 161 = .ok (.aload_n 0, 1) := by decide +kernel
theorem dX9_map_162 : decode cX9_map 162 = .ok (.iconst 0, 1) := by decide +kernel
theorem dX9_map_163 : decode cX9_map 163 = .ok (.putfield 122, 3) := by decide +kernel
theorem dX9_map_166 : decode cX9_map 166 = .ok (.aload_n 0, 1) := by decide +kernel
theorem dX9_map_167 : decode cX9_map 167 = .ok (.getfield 35, 3) := by decide +kernel
theorem dX9_map_170 : decode cX9_map 170 = .ok (.iconst 0, 1) := by decide +kernel
theorem dX9_map_171 : decode cX9_map 171 = .ok (.iconst 0, 1) := by decide +kernel
theorem dX9_map_172 : decode cX9_map 172 = .ok (.iastore, 1) := by decide +kernel
theorem dX9_map_173 : decode cX9_map 173 = .ok (.aload_n 0, 1) := by decide +kernel
theorem dX9_map_174 : decode cX9_map 174 = .ok (.getfield 35, 3) := by decide +kernel
theorem dX9_map_177 : decode cX9_map 177 = .ok (.bipush 58, 2) := by decide +kernel
theorem dX9_map_179 : decode cX9_map 179 = .ok (.iconst 0, 1) := by decide +kernel
theorem dX9_map_180 : decode cX9_map 180 = .ok (.iastore, 1) := by decide +kernel
theorem dX9_map_181 : decode cX9_map 181 = .ok (.iload_n 1, 1) := by decide +kernel
theorem dX9_map_182 : decode cX9_map 182 = .ok (.ireturn, 1) := by decide +kernel
theorem dX9_writes_0 : decode cX9_writes 0 = .ok (.aload_n 1, 1) := by decide +kernel
theorem dX9_writes_1 : decode cX9_writes 1 = .ok (.iload_n 2, 1) := by decide +kernel
theorem dX9_writes_2 : decode cX9_writes 2 = .ok (.aload_n 0, 1) := by decide +kernel
theorem dX9_writes_3 : decode cX9_writes 3 = .ok (.getfield 60, 3) := by decide +kernel
theorem dX9_writes_6 : decode cX9_writes 6 = .ok (.iastore, 1) := by decide +kernel
theorem dX9_writes_7 : decode cX9_writes 7 = .ok (.aload_n 1, 1) := by decide +kernel
theorem dX9_writes_8 : decode cX9_writes 8 = .ok (.iload_n 2, 1) := by decide +kernel
theorem dX9_writes_9 : decode cX9_writes 9 = .ok (.iconst 1, 1) := by decide +kernel
theorem dX9_writes_10 : decode cX9_writes 10 = .ok (.iadd, 1) := by decide +kernel
theorem dX9_writes_11 : decode cX9_writes 11 = .ok (.aload_n 0, 1) := by decide +kernel
theorem dX9_writes_12 : decode cX9_writes 12 = .ok (.getfield 7, 3) := by decide +kernel
theorem dX9_writes_15 : decode cX9_writes 15 = .ok (.iastore, 1) := by decide +kernel
theorem dX9_writes_16 : decode cX9_writes 16 = .ok (.aload_n 1, 1) := by decide +kernel
theorem dX9_writes_17 : decode cX9_writes 17 = .ok (.iload_n 2, 1) := by decide +kernel
theorem dX9_writes_18 : decode cX9_writes 18 = .ok (.iconst 2, 1) := by decide +kernel
theorem dX9_writes_19 : decode cX9_writes 19 = .ok (.iadd, 1) := by decide +kernel
theorem dX9_writes_20 : decode cX9_writes 20 = .ok (.aload_n 0, 1) := by decide +kernel
theorem dX9_writes_21 : decode cX9_writes 21 = .ok (.getfield 116, 3) := by decide +kernel
theorem dX9_writes_24 : decode cX9_writes 24 = .ok (.iastore, 1) := by decide +kernel
theorem dX9_writes_25 : decode cX9_writes 25 = .ok (.aload_n 1, 1) := by decide +kernel
theorem dX9_writes_26 : decode cX9_writes 26 = .ok (.iload_n 2, 1) := by decide +kernel
theorem dX9_writes_27 : decode cX9_writes 27 = .ok (.iconst 3, 1) := by decide +kernel
theorem dX9_writes_28 : decode cX9_writes 28 = .ok (.iadd, 1) := by decide +kernel
theorem dX9_writes_29 : decode cX9_writes 29 = .ok (.aload_n 0, 1) := by decide +kernel
theorem dX9_writes_30 : decode cX9_writes 30 = .ok (.getfield 119, 3) := by decide +kernel
theorem dX9_writes_33 : decode cX9_writes 33 = .ok (.iastore, 1) := by decide +kernel
theorem dX9_writes_34 : decode cX9_writes 34 = .ok (.iconst 0, 1) := by decide +kernel
theorem dX9_writes_35 : decode cX9_writes 35 = .ok (.istore_n 3, 1) := by decide +kernel
theorem dX9_writes_36 : decode cX9_writes 36 = .ok (.iload_n 3, 1) := by decide +kernel
theorem dX9_writes_37 : decode cX9_writes 37 = .ok (.iconst 5, 1) := by decide +kernel
theorem dX9_writes_38 : decode cX9_writes 38 = .ok (.if_icmp .ge 22, 3) := by decide +kernel
theorem dX9_writes_41 : decode cX9_writes 41 = .ok (.aload_n 1, 1) := by decide +kernel
theorem dX9_writes_42 : decode cX9_writes 42 = .ok (.iload_n 2, 1) := by decide +kernel
theorem dX9_writes_43 : decode cX9_writes 43 = .ok (.iconst 4, 1) := by decide +kernel
theorem dX9_writes_44 : decode cX9_writes 44 = .ok (.iadd, 1) := by decide +kernel
theorem dX9_writes_45 : decode cX9_writes 45 = .ok (.iload_n 3, 1) := by decide +kernel
theorem dX9_writes_46 : decode cX9_writes 46 = .ok (.iadd, 1) := by decide +kernel
theorem dX9_writes_47 : decode cX9_writes 47 = .ok (.aload_n 0, 1) := by decide +kernel
theorem dX9_writes_48 : decode cX9_writes 48 = .ok (.getfield 20, 3) := by decide +kernel
theorem dX9_writes_51 : decode cX9_writes 51 = .ok (.iload_n 3, 1) := by decide +kernel
theorem dX9_writes_52 : decode cX9_writes 52 = .ok (.iaload, 1) := by decide +kernel
theorem dX9_writes_53 : decode cX9_writes 53 = .ok (.iastore, 1) := by decide +kernel
theorem dX9_writes_54 : decode cX9_writes 54 = .ok (.iinc 3 1, 3) := by decide +kernel
theorem dX9_writes_57 : decode cX9_writes 57 = .ok (.goto (-21), 3) := by decide +kernel
theorem dX9_writes_60 : decode cX9_writes 60 = .ok (.iconst 0, 1) := by decide +kernel
theorem dX9_writes_61 : decode cX9_writes 61 = .ok (.istore_n 3, 1) := by decide +kernel
theorem dX9_writes_62 : decode cX9_writes 62 = .ok (.iload_n 3, 1) := by decide +kernel
theorem dX9_writes_63 : decode cX9_writes 63 = .ok (.bipush 24, 2) := by decide +kernel
theorem dX9_writes_65 : decode cX9_writes 65 = .ok (.if_icmp .ge 37, 3) := by decide +kernel
theorem dX9_writes_68 : decode cX9_writes 68 = .ok (.aload_n 1, 1) := by decide +kernel
theorem dX9_writes_69 : decode cX9_writes 69 = .ok (.iload_n 2, 1) := by decide +kernel
theorem dX9_writes_70 : decode cX9_writes 70 = .ok (.bipush 9, 2) := by decide +kernel
theorem dX9_writes_72 : decode cX9_writes 72 = .ok (.iadd, 1) := by decide +kernel
theorem dX9_writes_73 : decode cX9_writes 73 = .ok (.iload_n 3, 1) := by decide +kernel
theorem dX9_writes_74 : decode cX9_writes 74 = .ok (.iadd, 1) := by decide +kernel
theorem dX9_writes_75 : decode cX9_writes 75 = .ok (.aload_n 0, 1) := by decide +kernel
theorem dX9_writes_76 : decode cX9_writes 76 = .ok (.getfield 13, 3) := by decide +kernel
theorem dX9_writes_79 : decode cX9_writes 79 = .ok (.iload_n 3, 1) := by decide +kernel
theorem dX9_writes_80 : decode cX9_writes 80 = .ok (.iaload, 1) := by decide +kernel
theorem dX9_writes_81 : decode cX9_writes 81 = .ok (.iastore, 1) := by decide +kernel
theorem dX9_writes_82 : decode cX9_writes 82 = .ok (.aload_n 1, 1) := by decide +kernel
theorem dX9_writes_83 : decode cX9_writes 83 = .ok (.iload_n 2, 1) := by decide +kernel
theorem dX9_writes_84 : decode cX9_writes 84 = .ok (.bipush 33, 2) := by decide +kernel
theorem dX9_writes_86 : decode cX9_writes 86 = .ok (.iadd, 1) := by decide +kernel
theorem dX9_writes_87 : decode cX9_writes 87 = .ok (.iload_n 3, 1) := by decide +kernel
theorem dX9_writes_88 : decode cX9_writes 88 = .ok (.iadd, 1) := by decide +kernel
theorem dX9_writes_89 : decode cX9_writes 89 = .ok (.aload_n 0, 1) := by decide +kernel
theorem dX9_writes_90 : decode cX9_writes 90 = .ok (.getfield 17, 3) := by decide +kernel
theorem dX9_writes_93 : decode cX9_writes 93 = .ok (.iload_n 3, 1) := by decide +kernel
theorem dX9_writes_94 : decode cX9_writes 94 = .ok (.iaload, 1) := by decide +kernel
theorem dX9_writes_95 : decode cX9_writes 95 = .ok (.iastore, 1) := by decide +kernel
theorem dX9_writes_96 : decode cX9_writes 96 = .ok (.iinc 3 1, 3) := by decide +kernel
theorem dX9_writes_99 : decode cX9_writes 99 = .ok (.goto (-37), 3) := by decide +kernel
theorem dX9_writes_102 : decode cX9_writes 102 = .ok (.return_, 1) := by decide +kernel
theorem dX9_readsBack_0 : decode cX9_readsBack 0 = .ok (.aload_n 0, 1) := by decide +kernel
theorem dX9_readsBack_1 : decode cX9_readsBack 1 = .ok (.aload_n 1, 1) := by decide +kernel
theorem dX9_readsBack_2 : decode cX9_readsBack 2 = .ok (.iload_n 2, 1) := by decide +kernel
theorem dX9_readsBack_3 : decode cX9_readsBack 3 = .ok (.iaload, 1) := by decide +kernel
theorem dX9_readsBack_4 : decode cX9_readsBack 4 = .ok (.putfield 60, 3) := by decide +kernel
theorem dX9_readsBack_7 : decode cX9_readsBack 7 = .ok (.aload_n 0, 1) := by decide +kernel
theorem dX9_readsBack_8 : decode cX9_readsBack 8 = .ok (.aload_n 1, 1) := by decide +kernel
theorem dX9_readsBack_9 : decode cX9_readsBack 9 = .ok (.iload_n 2, 1) := by decide +kernel
theorem dX9_readsBack_10 : decode cX9_readsBack 10 = .ok (.iconst 1, 1) := by decide +kernel
theorem dX9_readsBack_11 : decode cX9_readsBack 11 = .ok (.iadd, 1) := by decide +kernel
theorem dX9_readsBack_12 : decode cX9_readsBack 12 = .ok (.iaload, 1) := by decide +kernel
theorem dX9_readsBack_13 : decode cX9_readsBack 13 = .ok (.putfield 7, 3) := by decide +kernel
theorem dX9_readsBack_16 : decode cX9_readsBack 16 = .ok (.aload_n 0, 1) := by decide +kernel
theorem dX9_readsBack_17 : decode cX9_readsBack 17 = .ok (.aload_n 1, 1) := by decide +kernel
theorem dX9_readsBack_18 : decode cX9_readsBack 18 = .ok (.iload_n 2, 1) := by decide +kernel
theorem dX9_readsBack_19 : decode cX9_readsBack 19 = .ok (.iconst 2, 1) := by decide +kernel
theorem dX9_readsBack_20 : decode cX9_readsBack 20 = .ok (.iadd, 1) := by decide +kernel
theorem dX9_readsBack_21 : decode cX9_readsBack 21 = .ok (.iaload, 1) := by decide +kernel
theorem dX9_readsBack_22 : decode cX9_readsBack 22 = .ok (.putfield 116, 3) := by decide +kernel
theorem dX9_readsBack_25 : decode cX9_readsBack 25 = .ok (.aload_n 0, 1) := by decide +kernel
theorem dX9_readsBack_26 : decode cX9_readsBack 26 = .ok (.aload_n 1, 1) := by decide +kernel
theorem dX9_readsBack_27 : decode cX9_readsBack 27 = .ok (.iload_n 2, 1) := by decide +kernel
theorem dX9_readsBack_28 : decode cX9_readsBack 28 = .ok (.iconst 3, 1) := by decide +kernel
theorem dX9_readsBack_29 : decode cX9_readsBack 29 = .ok (.iadd, 1) := by decide +kernel
theorem dX9_readsBack_30 : decode cX9_readsBack 30 = .ok (.iaload, 1) := by decide +kernel
theorem dX9_readsBack_31 : decode cX9_readsBack 31 = .ok (.putfield 119, 3) := by decide +kernel
theorem dX9_readsBack_34 : decode cX9_readsBack 34 = .ok (.iconst 0, 1) := by decide +kernel
theorem dX9_readsBack_35 : decode cX9_readsBack 35 = .ok (.istore_n 3, 1) := by decide +kernel
theorem dX9_readsBack_36 : decode cX9_readsBack 36 = .ok (.iload_n 3, 1) := by decide +kernel
theorem dX9_readsBack_37 : decode cX9_readsBack 37 = .ok (.iconst 5, 1) := by decide +kernel
theorem dX9_readsBack_38 : decode cX9_readsBack 38 = .ok (.if_icmp .ge 22, 3) := by decide +kernel
theorem dX9_readsBack_41 : decode cX9_readsBack 41 = .ok (.aload_n 0, 1) := by decide +kernel
theorem dX9_readsBack_42 : decode cX9_readsBack 42 = .ok (.getfield 20, 3) := by decide +kernel
theorem dX9_readsBack_45 : decode cX9_readsBack 45 = .ok (.iload_n 3, 1) := by decide +kernel
theorem dX9_readsBack_46 : decode cX9_readsBack 46 = .ok (.aload_n 1, 1) := by decide +kernel
theorem dX9_readsBack_47 : decode cX9_readsBack 47 = .ok (.iload_n 2, 1) := by decide +kernel
theorem dX9_readsBack_48 : decode cX9_readsBack 48 = .ok (.iconst 4, 1) := by decide +kernel
theorem dX9_readsBack_49 : decode cX9_readsBack 49 = .ok (.iadd, 1) := by decide +kernel
theorem dX9_readsBack_50 : decode cX9_readsBack 50 = .ok (.iload_n 3, 1) := by decide +kernel
theorem dX9_readsBack_51 : decode cX9_readsBack 51 = .ok (.iadd, 1) := by decide +kernel
theorem dX9_readsBack_52 : decode cX9_readsBack 52 = .ok (.iaload, 1) := by decide +kernel
theorem dX9_readsBack_53 : decode cX9_readsBack 53 = .ok (.iastore, 1) := by decide +kernel
theorem dX9_readsBack_54 : decode cX9_readsBack 54 = .ok (.iinc 3 1, 3) := by decide +kernel
theorem dX9_readsBack_57 : decode cX9_readsBack 57 = .ok (.goto (-21), 3) := by decide +kernel
theorem dX9_readsBack_60 : decode cX9_readsBack 60 = .ok (.iconst 0, 1) := by decide +kernel
theorem dX9_readsBack_61 : decode cX9_readsBack 61 = .ok (.istore_n 3, 1) := by decide +kernel
theorem dX9_readsBack_62 : decode cX9_readsBack 62 = .ok (.iload_n 3, 1) := by decide +kernel
theorem dX9_readsBack_63 : decode cX9_readsBack 63 = .ok (.bipush 24, 2) := by decide +kernel
theorem dX9_readsBack_65 : decode cX9_readsBack 65 = .ok (.if_icmp .ge 37, 3) := by decide +kernel
theorem dX9_readsBack_68 : decode cX9_readsBack 68 = .ok (.aload_n 0, 1) := by decide +kernel
theorem dX9_readsBack_69 : decode cX9_readsBack 69 = .ok (.getfield 13, 3) := by decide +kernel
theorem dX9_readsBack_72 : decode cX9_readsBack 72 = .ok (.iload_n 3, 1) := by decide +kernel
theorem dX9_readsBack_73 : decode cX9_readsBack 73 = .ok (.aload_n 1, 1) := by decide +kernel
theorem dX9_readsBack_74 : decode cX9_readsBack 74 = .ok (.iload_n 2, 1) := by decide +kernel
theorem dX9_readsBack_75 : decode cX9_readsBack 75 = .ok (.bipush 9, 2) := by decide +kernel
theorem dX9_readsBack_77 : decode cX9_readsBack 77 = .ok (.iadd, 1) := by decide +kernel
theorem dX9_readsBack_78 : decode cX9_readsBack 78 = .ok (.iload_n 3, 1) := by decide +kernel
theorem dX9_readsBack_79 : decode cX9_readsBack 79 = .ok (.iadd, 1) := by decide +kernel
theorem dX9_readsBack_80 : decode cX9_readsBack 80 = .ok (.iaload, 1) := by decide +kernel
theorem dX9_readsBack_81 : decode cX9_readsBack 81 = .ok (.iastore, 1) := by decide +kernel
theorem dX9_readsBack_82 : decode cX9_readsBack 82 = .ok (.aload_n 0, 1) := by decide +kernel
theorem dX9_readsBack_83 : decode cX9_readsBack 83 = .ok (.getfield 17, 3) := by decide +kernel
theorem dX9_readsBack_86 : decode cX9_readsBack 86 = .ok (.iload_n 3, 1) := by decide +kernel
theorem dX9_readsBack_87 : decode cX9_readsBack 87 = .ok (.aload_n 1, 1) := by decide +kernel
theorem dX9_readsBack_88 : decode cX9_readsBack 88 = .ok (.iload_n 2, 1) := by decide +kernel
theorem dX9_readsBack_89 : decode cX9_readsBack 89 = .ok (.bipush 33, 2) := by decide +kernel
theorem dX9_readsBack_91 : decode cX9_readsBack 91 = .ok (.iadd, 1) := by decide +kernel
theorem dX9_readsBack_92 : decode cX9_readsBack 92 = .ok (.iload_n 3, 1) := by decide +kernel
theorem dX9_readsBack_93 : decode cX9_readsBack 93 = .ok (.iadd, 1) := by decide +kernel
theorem dX9_readsBack_94 : decode cX9_readsBack 94 = .ok (.iaload, 1) := by decide +kernel
theorem dX9_readsBack_95 : decode cX9_readsBack 95 = .ok (.iastore, 1) := by decide +kernel
theorem dX9_readsBack_96 : decode cX9_readsBack 96 = .ok (.iinc 3 1, 3) := by decide +kernel
theorem dX9_readsBack_99 : decode cX9_readsBack 99 = .ok (.goto (-37), 3) := by decide +kernel
theorem dX9_readsBack_102 : decode cX9_readsBack 102 = .ok (.return_, 1) := by decide +kernel
theorem dX9_notes_0 : decode cX9_notes 0 = .ok (.aload_n 0, 1) := by decide +kernel
theorem dX9_notes_1 : decode cX9_notes 1 = .ok (.getfield 122, 3) := by decide +kernel
theorem dX9_notes_4 : decode cX9_notes 4 = .ok (.bipush 10, 2) := by decide +kernel
theorem dX9_notes_6 : decode cX9_notes 6 = .ok (.if_icmp .ne 43, 3) := by decide +kernel
theorem dX9_notes_9 : decode cX9_notes 9 = .ok (.iconst 0, 1) := by decide +kernel
theorem dX9_notes_10 : decode cX9_notes 10 = .ok (.istore_n 1, 1) := by decide +kernel
theorem dX9_notes_11 : decode cX9_notes 11 = .ok (.iload_n 1, 1) := by decide +kernel
theorem dX9_notes_12 : decode cX9_notes 12 = .ok (.sipush 513, 3) := by decide +kernel
theorem dX9_notes_15 : decode cX9_notes 15 = .ok (.if_icmp .ge 24, 3) := by decide +kernel
theorem dX9_notes_18 : decode cX9_notes 18 = .ok (.aload_n 0, 1) := by decide +kernel
theorem dX9_notes_19 : decode cX9_notes 19 = .ok (.getfield 32, 3) := by decide +kernel
theorem dX9_notes_22 : decode cX9_notes 22 = .ok (.iload_n 1, 1) := by decide +kernel
theorem dX9_notes_23 : decode cX9_notes 23 = .ok (.aload_n 0, 1) := by decide +kernel
theorem dX9_notes_24 : decode cX9_notes 24 = .ok (.getfield 32, 3) := by decide +kernel
theorem dX9_notes_27 : decode cX9_notes 27 = .ok (.iload_n 1, 1) := by decide +kernel
theorem dX9_notes_28 : decode cX9_notes 28 = .ok (.bipush 57, 2) := by decide +kernel
theorem dX9_notes_30 : decode cX9_notes 30 = .ok (.iadd, 1) := by decide +kernel
theorem dX9_notes_31 : decode cX9_notes 31 = .ok (.iaload, 1) := by decide +kernel
theorem dX9_notes_32 : decode cX9_notes 32 = .ok (.iastore, 1) := by decide +kernel
theorem dX9_notes_33 : decode cX9_notes 33 = .ok (.iinc 1 1, 3) := by decide +kernel
theorem dX9_notes_36 : decode cX9_notes 36 = .ok (.goto (-25), 3) := by decide +kernel
theorem dX9_notes_39 : decode cX9_notes 39 = .ok (.aload_n 0, 1) := by decide +kernel
theorem dX9_notes_40 : decode cX9_notes 40 = .ok (.dup, 1) := by decide +kernel
theorem dX9_notes_41 : decode cX9_notes 41 = .ok (.getfield 122, 3) := by decide +kernel
theorem dX9_notes_44 : decode cX9_notes 44 = .ok (.iconst 1, 1) := by decide +kernel
theorem dX9_notes_45 : decode cX9_notes 45 = .ok (.isub, 1) := by decide +kernel
theorem dX9_notes_46 : decode cX9_notes 46 = .ok (.putfield 122, 3) := by decide +kernel
theorem dX9_notes_49 : decode cX9_notes 49 = .ok (.aload_n 0, 1) := by decide +kernel
theorem dX9_notes_50 : decode cX9_notes 50 = .ok (.aload_n 0, 1) := by decide +kernel
theorem dX9_notes_51 : decode cX9_notes 51 = .ok (.getfield 32, 3) := by decide +kernel
theorem dX9_notes_54 : decode cX9_notes 54 = .ok (.bipush 57, 2) := by decide +kernel
theorem dX9_notes_56 : decode cX9_notes 56 = .ok (.aload_n 0, 1) := by decide +kernel
theorem dX9_notes_57 : decode cX9_notes 57 = .ok (.getfield 122, 3) := by decide +kernel
theorem dX9_notes_60 : decode cX9_notes 60 = .ok (.imul, 1) := by decide +kernel
theorem dX9_notes_61 : decode cX9_notes 61 = .ok (.invokevirtual 125, 3) := by decide +kernel
theorem dX9_notes_64 : decode cX9_notes 64 = .ok (.aload_n 0, 1) := by decide +kernel
theorem dX9_notes_65 : decode cX9_notes 65 = .ok (.dup, 1) := by decide +kernel
theorem dX9_notes_66 : decode cX9_notes 66 = .ok (.getfield 122, 3) := by decide +kernel
theorem dX9_notes_69 : decode cX9_notes 69 = .ok (.iconst 1, 1) := by decide +kernel
theorem dX9_notes_70 : decode cX9_notes 70 = .ok (.iadd, 1) := by decide +kernel
theorem dX9_notes_71 : decode cX9_notes 71 = .ok (.putfield 122, 3) := by decide +kernel
theorem dX9_notes_74 : decode cX9_notes 74 = .ok (.return_, 1) := by decide +kernel
theorem dX9_puts_0 : decode cX9_puts 0 = .ok (.iload_n 1, 1) := by decide +kernel
theorem dX9_puts_1 : decode cX9_puts 1 = .ok (.iload_n 2, 1) := by decide +kernel
theorem dX9_puts_2 : decode cX9_puts 2 = .ok (.invokestatic 129, 3) := by decide +kernel
theorem dX9_puts_5 : decode cX9_puts 5 = .ok (.ifCond .eq 14, 3) := by decide +kernel
theorem dX9_puts_8 : decode cX9_puts 8 = .ok (.iload_n 3, 1) := by decide +kernel
theorem dX9_puts_9 : decode cX9_puts 9 = .ok (.iconst 0, 1) := by decide +kernel
theorem dX9_puts_10 : decode cX9_puts 10 = .ok (.sipush 999, 3) := by decide +kernel
theorem dX9_puts_13 : decode cX9_puts 13 = .ok (.invokestatic 63, 3) := by decide +kernel
theorem dX9_puts_16 : decode cX9_puts 16 = .ok (.ifCond .ne 5, 3) := by decide +kernel
theorem dX9_puts_19 : decode cX9_puts 19 = .ok (.iconst (-1), 1) := by decide +kernel
theorem dX9_puts_20 : decode cX9_puts 20 = .ok (.ireturn, 1) := by decide +kernel
theorem dX9_puts_21 : decode cX9_puts 21 = .ok (.aload_n 0, 1) := by decide +kernel
theorem dX9_puts_22 : decode cX9_puts 22 = .ok (.bipush 10, 2) := by decide +kernel
theorem dX9_puts_24 : decode cX9_puts 24 = .ok (.iload_n 1, 1) := by decide +kernel
theorem dX9_puts_25 : decode cX9_puts 25 = .ok (.imul, 1) := by decide +kernel
theorem dX9_puts_26 : decode cX9_puts 26 = .ok (.iload_n 2, 1) := by decide +kernel
theorem dX9_puts_27 : decode cX9_puts 27 = .ok (.iadd, 1) := by decide +kernel
theorem dX9_puts_28 : decode cX9_puts 28 = .ok (.invokevirtual 132, 3) := by decide +kernel
theorem dX9_puts_31 : decode cX9_puts 31 = .ok (.istore 4, 2) := by decide +kernel
theorem dX9_puts_33 : decode cX9_puts 33 = .ok (.iload 4, 2) := by decide +kernel
theorem dX9_puts_35 : decode cX9_puts 35 = .ok (.bipush (-9), 2) := by decide +kernel
theorem dX9_puts_37 : decode cX9_puts 37 = .ok (.if_icmp .ne 15, 3) := by decide +kernel
theorem dX9_puts_40 : decode cX9_puts 40 = .ok (.aload_n 0, 1) := by decide +kernel
theorem dX9_puts_41 : decode cX9_puts 41 = .ok (.getfield 60, 3) := by decide +kernel
theorem dX9_puts_44 : decode cX9_puts 44 = .ok (.bipush 24, 2) := by decide +kernel
theorem dX9_puts_46 : decode cX9_puts 46 = .ok (.if_icmp .ne 6, 3) := by decide +kernel
theorem dX9_puts_49 : decode cX9_puts 49 = .ok (.bipush (-3), 2) := by decide +kernel
theorem dX9_puts_51 : decode cX9_puts 51 = .ok (.ireturn, 1) := by decide +kernel
theorem dX9_puts_52 : decode cX9_puts 52 = .ok (.aload_n 0, 1) := by decide +kernel
theorem dX9_puts_53 : decode cX9_puts 53 = .ok (.invokevirtual 136, 3) := by decide +kernel
theorem dX9_puts_56 : decode cX9_puts 56 = .ok (.bipush (-9), 2) := by decide +kernel
theorem dX9_puts_58 : decode cX9_puts 58 = .ok (.istore 5, 2) := by decide +kernel
theorem dX9_puts_60 : decode cX9_puts 60 = .ok (.iload 4, 2) := by decide +kernel
theorem dX9_puts_62 : decode cX9_puts 62 = .ok (.bipush (-9), 2) := by decide +kernel
theorem dX9_puts_64 : decode cX9_puts 64 = .ok (.if_icmp .ne 35, 3) := by decide +kernel
theorem dX9_puts_67 : decode cX9_puts 67 = .ok (.aload_n 0, 1) := by decide +kernel
theorem dX9_puts_68 : decode cX9_puts 68 = .ok (.getfield 60, 3) := by decide +kernel
theorem dX9_puts_71 : decode cX9_puts 71 = .ok (.istore 4, 2) := by decide +kernel
theorem dX9_puts_73 : decode cX9_puts 73 = .ok (.aload_n 0, 1) := by decide +kernel
theorem dX9_puts_74 : decode cX9_puts 74 = .ok (.getfield 13, 3) := by decide +kernel
theorem dX9_puts_77 : decode cX9_puts 77 = .ok (.iload 4, 2) := by decide +kernel
theorem dX9_puts_79 : decode cX9_puts 79 = .ok (.bipush 10, 2) := by decide +kernel
theorem dX9_puts_81 : decode cX9_puts 81 = .ok (.iload_n 1, 1) := by decide +kernel
theorem dX9_puts_82 : decode cX9_puts 82 = .ok (.imul, 1) := by decide +kernel
theorem dX9_puts_83 : decode cX9_puts 83 = .ok (.iload_n 2, 1) := by decide +kernel
theorem dX9_puts_84 : decode cX9_puts 84 = .ok (.iadd, 1) := by decide +kernel
theorem dX9_puts_85 : decode cX9_puts 85 = .ok (.iastore, 1) := by decide +kernel
theorem dX9_puts_86 : decode cX9_puts 86 = .ok (.aload_n 0, 1) := by decide +kernel
theorem dX9_puts_87 : decode cX9_puts 87 = .ok (.dup, 1) := by decide +kernel
theorem dX9_puts_88 : decode cX9_puts 88 = .ok (.getfield 60, 3) := by decide +kernel
theorem dX9_puts_91 : decode cX9_puts 91 = .ok (.iconst 1, 1) := by decide +kernel
theorem dX9_puts_92 : decode cX9_puts 92 = .ok (.iadd, 1) := by decide +kernel
theorem dX9_puts_93 : decode cX9_puts 93 = .ok (.putfield 60, 3) := by decide +kernel
theorem dX9_puts_96 : decode cX9_puts 96 = .ok (.goto 12, 3) := by decide +kernel
theorem dX9_puts_99 : decode cX9_puts 99 = .ok (.aload_n 0, 1) := by decide +kernel
theorem dX9_puts_100 : decode cX9_puts 100 = .ok (.getfield 17, 3) := by decide +kernel
theorem dX9_puts_103 : decode cX9_puts 103 = .ok (.iload 4, 2) := by decide +kernel
theorem dX9_puts_105 : decode cX9_puts 105 = .ok (.iaload, 1) := by decide +kernel
theorem dX9_puts_106 : decode cX9_puts 106 = .ok (.istore 5, 2) := by decide +kernel
theorem dX9_puts_108 : decode cX9_puts 108 = .ok (.aload_n 0, 1) := by decide +kernel
theorem dX9_puts_109 : decode cX9_puts 109 = .ok (.getfield 17, 3) := by decide +kernel
theorem dX9_puts_112 : decode cX9_puts 112 = .ok (.iload 4, 2) := by decide +kernel
theorem dX9_puts_114 : decode cX9_puts 114 = .ok (.iload_n 3, 1) := by decide +kernel
theorem dX9_puts_115 : decode cX9_puts 115 = .ok (.iastore, 1) := by decide +kernel
theorem dX9_puts_116 : decode cX9_puts 116 = .ok (.iload 5, 2) := by decide +kernel
theorem dX9_puts_118 : decode cX9_puts 118 = .ok (.ireturn, 1) := by decide +kernel
theorem dX9_drops_0 : decode cX9_drops 0 = .ok (.iload_n 1, 1) := by decide +kernel
theorem dX9_drops_1 : decode cX9_drops 1 = .ok (.iload_n 2, 1) := by decide +kernel
theorem dX9_drops_2 : decode cX9_drops 2 = .ok (.invokestatic 129, 3) := by decide +kernel
theorem dX9_drops_5 : decode cX9_drops 5 = .ok (.ifCond .ne 5, 3) := by decide +kernel
theorem dX9_drops_8 : decode cX9_drops 8 = .ok (.iconst (-1), 1) := by decide +kernel
theorem dX9_drops_9 : decode cX9_drops 9 = .ok (.ireturn, 1) := by decide +kernel
theorem dX9_drops_10 : decode cX9_drops 10 = .ok (.aload_n 0, 1) := by decide +kernel
theorem dX9_drops_11 : decode cX9_drops 11 = .ok (.bipush 10, 2) := by decide +kernel
theorem dX9_drops_13 : decode cX9_drops 13 = .ok (.iload_n 1, 1) := by decide +kernel
theorem dX9_drops_14 : decode cX9_drops 14 = .ok (.imul, 1) := by decide +kernel
theorem dX9_drops_15 : decode cX9_drops 15 = .ok (.iload_n 2, 1) := by decide +kernel
theorem dX9_drops_16 : decode cX9_drops 16 = .ok (.iadd, 1) := by decide +kernel
theorem dX9_drops_17 : decode cX9_drops 17 = .ok (.invokevirtual 132, 3) := by decide +kernel
theorem dX9_drops_20 : decode cX9_drops 20 = .ok (.istore_n 3, 1) := by decide +kernel
theorem dX9_drops_21 : decode cX9_drops 21 = .ok (.iload_n 3, 1) := by decide +kernel
theorem dX9_drops_22 : decode cX9_drops 22 = .ok (.bipush (-9), 2) := by decide +kernel
theorem dX9_drops_24 : decode cX9_drops 24 = .ok (.if_icmp .ne 6, 3) := by decide +kernel
theorem dX9_drops_27 : decode cX9_drops 27 = .ok (.bipush (-2), 2) := by decide +kernel
theorem dX9_drops_29 : decode cX9_drops 29 = .ok (.ireturn, 1) := by decide +kernel
theorem dX9_drops_30 : decode cX9_drops 30 = .ok (.aload_n 0, 1) := by decide +kernel
theorem dX9_drops_31 : decode cX9_drops 31 = .ok (.invokevirtual 136, 3) := by decide +kernel
theorem dX9_drops_34 : decode cX9_drops 34 = .ok (.aload_n 0, 1) := by decide +kernel
theorem dX9_drops_35 : decode cX9_drops 35 = .ok (.getfield 17, 3) := by decide +kernel
theorem dX9_drops_38 : decode cX9_drops 38 = .ok (.iload_n 3, 1) := by decide +kernel
theorem dX9_drops_39 : decode cX9_drops 39 = .ok (.iaload, 1) := by decide +kernel
theorem dX9_drops_40 : decode cX9_drops 40 = .ok (.istore 4, 2) := by decide +kernel
theorem dX9_drops_42 : decode cX9_drops 42 = .ok (.aload_n 0, 1) := by decide +kernel
theorem dX9_drops_43 : decode cX9_drops 43 = .ok (.dup, 1) := by decide +kernel
theorem dX9_drops_44 : decode cX9_drops 44 = .ok (.getfield 60, 3) := by decide +kernel
theorem dX9_drops_47 : decode cX9_drops 47 = .ok (.iconst 1, 1) := by decide +kernel
theorem dX9_drops_48 : decode cX9_drops 48 = .ok (.isub, 1) := by decide +kernel
theorem dX9_drops_49 : decode cX9_drops 49 = .ok (.putfield 60, 3) := by decide +kernel
theorem dX9_drops_52 : decode cX9_drops 52 = .ok (.aload_n 0, 1) := by decide +kernel
theorem dX9_drops_53 : decode cX9_drops 53 = .ok (.getfield 13, 3) := by decide +kernel
theorem dX9_drops_56 : decode cX9_drops 56 = .ok (.iload_n 3, 1) := by decide +kernel
theorem dX9_drops_57 : decode cX9_drops 57 = .ok (.aload_n 0, 1) := by decide +kernel
theorem dX9_drops_58 : decode cX9_drops 58 = .ok (.getfield 13, 3) := by decide +kernel
theorem dX9_drops_61 : decode cX9_drops 61 = .ok (.aload_n 0, 1) := by decide +kernel
theorem dX9_drops_62 : decode cX9_drops 62 = .ok (.getfield 60, 3) := by decide +kernel
theorem dX9_drops_65 : decode cX9_drops 65 = .ok (.iaload, 1) := by decide +kernel
theorem dX9_drops_66 : decode cX9_drops 66 = .ok (.iastore, 1) := by decide +kernel
theorem dX9_drops_67 : decode cX9_drops 67 = .ok (.aload_n 0, 1) := by decide +kernel
theorem dX9_drops_68 : decode cX9_drops 68 = .ok (.getfield 17, 3) := by decide +kernel
theorem dX9_drops_71 : decode cX9_drops 71 = .ok (.iload_n 3, 1) := by decide +kernel
theorem dX9_drops_72 : decode cX9_drops 72 = .ok (.aload_n 0, 1) := by decide +kernel
theorem dX9_drops_73 : decode cX9_drops 73 = .ok (.getfield 17, 3) := by decide +kernel
theorem dX9_drops_76 : decode cX9_drops 76 = .ok (.aload_n 0, 1) := by decide +kernel
theorem dX9_drops_77 : decode cX9_drops 77 = .ok (.getfield 60, 3) := by decide +kernel
theorem dX9_drops_80 : decode cX9_drops 80 = .ok (.iaload, 1) := by decide +kernel
theorem dX9_drops_81 : decode cX9_drops 81 = .ok (.iastore, 1) := by decide +kernel
theorem dX9_drops_82 : decode cX9_drops 82 = .ok (.iload 4, 2) := by decide +kernel
theorem dX9_drops_84 : decode cX9_drops 84 = .ok (.ireturn, 1) := by decide +kernel
theorem dX9_asks_0 : decode cX9_asks 0 = .ok (.iload_n 1, 1) := by decide +kernel
theorem dX9_asks_1 : decode cX9_asks 1 = .ok (.iconst 1, 1) := by decide +kernel
theorem dX9_asks_2 : decode cX9_asks 2 = .ok (.bipush 6, 2) := by decide +kernel
theorem dX9_asks_4 : decode cX9_asks 4 = .ok (.invokestatic 63, 3) := by decide +kernel
theorem dX9_asks_7 : decode cX9_asks 7 = .ok (.ifCond .ne 5, 3) := by decide +kernel
theorem dX9_asks_10 : decode cX9_asks 10 = .ok (.iconst (-1), 1) := by decide +kernel
theorem dX9_asks_11 : decode cX9_asks 11 = .ok (.ireturn, 1) := by decide +kernel
theorem dX9_asks_12 : decode cX9_asks 12 = .ok (.aload_n 0, 1) := by decide +kernel
theorem dX9_asks_13 : decode cX9_asks 13 = .ok (.getfield 7, 3) := by decide +kernel
theorem dX9_asks_16 : decode cX9_asks 16 = .ok (.istore_n 2, 1) := by decide +kernel
theorem dX9_asks_17 : decode cX9_asks 17 = .ok (.iload_n 2, 1) := by decide +kernel
theorem dX9_asks_18 : decode cX9_asks 18 = .ok (.iload_n 1, 1) := by decide +kernel
theorem dX9_asks_19 : decode cX9_asks 19 = .ok (.if_icmp .ne 6, 3) := by decide +kernel
theorem dX9_asks_22 : decode cX9_asks 22 = .ok (.bipush (-2), 2) := by decide +kernel
theorem dX9_asks_24 : decode cX9_asks 24 = .ok (.ireturn, 1) := by decide +kernel
theorem dX9_asks_25 : decode cX9_asks 25 = .ok (.aload_n 0, 1) := by decide +kernel
theorem dX9_asks_26 : decode cX9_asks 26 = .ok (.invokevirtual 136, 3) := by decide +kernel
theorem dX9_asks_29 : decode cX9_asks 29 = .ok (.aload_n 0, 1) := by decide +kernel
theorem dX9_asks_30 : decode cX9_asks 30 = .ok (.iload_n 1, 1) := by decide +kernel
theorem dX9_asks_31 : decode cX9_asks 31 = .ok (.putfield 7, 3) := by decide +kernel
theorem dX9_asks_34 : decode cX9_asks 34 = .ok (.iload_n 2, 1) := by decide +kernel
theorem dX9_asks_35 : decode cX9_asks 35 = .ok (.ireturn, 1) := by decide +kernel
theorem dX9_costs_0 : decode cX9_costs 0 = .ok (.iload_n 1, 1) := by decide +kernel
theorem dX9_costs_1 : decode cX9_costs 1 = .ok (.iconst 0, 1) := by decide +kernel
theorem dX9_costs_2 : decode cX9_costs 2 = .ok (.sipush 999, 3) := by decide +kernel
theorem dX9_costs_5 : decode cX9_costs 5 = .ok (.invokestatic 63, 3) := by decide +kernel
theorem dX9_costs_8 : decode cX9_costs 8 = .ok (.ifCond .ne 5, 3) := by decide +kernel
theorem dX9_costs_11 : decode cX9_costs 11 = .ok (.iconst (-1), 1) := by decide +kernel
theorem dX9_costs_12 : decode cX9_costs 12 = .ok (.ireturn, 1) := by decide +kernel
theorem dX9_costs_13 : decode cX9_costs 13 = .ok (.aload_n 0, 1) := by decide +kernel
theorem dX9_costs_14 : decode cX9_costs 14 = .ok (.getfield 116, 3) := by decide +kernel
theorem dX9_costs_17 : decode cX9_costs 17 = .ok (.istore_n 2, 1) := by decide +kernel
theorem dX9_costs_18 : decode cX9_costs 18 = .ok (.iload_n 2, 1) := by decide +kernel
theorem dX9_costs_19 : decode cX9_costs 19 = .ok (.iload_n 1, 1) := by decide +kernel
theorem dX9_costs_20 : decode cX9_costs 20 = .ok (.if_icmp .ne 6, 3) := by decide +kernel
theorem dX9_costs_23 : decode cX9_costs 23 = .ok (.bipush (-2), 2) := by decide +kernel
theorem dX9_costs_25 : decode cX9_costs 25 = .ok (.ireturn, 1) := by decide +kernel
theorem dX9_costs_26 : decode cX9_costs 26 = .ok (.aload_n 0, 1) := by decide +kernel
theorem dX9_costs_27 : decode cX9_costs 27 = .ok (.invokevirtual 136, 3) := by decide +kernel
theorem dX9_costs_30 : decode cX9_costs 30 = .ok (.aload_n 0, 1) := by decide +kernel
theorem dX9_costs_31 : decode cX9_costs 31 = .ok (.iload_n 1, 1) := by decide +kernel
theorem dX9_costs_32 : decode cX9_costs 32 = .ok (.putfield 116, 3) := by decide +kernel
theorem dX9_costs_35 : decode cX9_costs 35 = .ok (.iload_n 2, 1) := by decide +kernel
theorem dX9_costs_36 : decode cX9_costs 36 = .ok (.ireturn, 1) := by decide +kernel
theorem dX9_undo_0 : decode cX9_undo 0 = .ok (.aload_n 0, 1) := by decide +kernel
theorem dX9_undo_1 : decode cX9_undo 1 = .ok (.getfield 122, 3) := by decide +kernel
theorem dX9_undo_4 : decode cX9_undo 4 = .ok (.ifCond .ne 6, 3) := by decide +kernel
theorem dX9_undo_7 : decode cX9_undo 7 = .ok (.bipush (-2), 2) := by decide +kernel
theorem dX9_undo_9 : decode cX9_undo 9 = .ok (.ireturn, 1) := by decide +kernel
theorem dX9_undo_10 : decode cX9_undo 10 = .ok (.aload_n 0, 1) := by decide +kernel
theorem dX9_undo_11 : decode cX9_undo 11 = .ok (.dup, 1) := by decide +kernel
theorem dX9_undo_12 : decode cX9_undo 12 = .ok (.getfield 122, 3) := by decide +kernel
theorem dX9_undo_15 : decode cX9_undo 15 = .ok (.iconst 1, 1) := by decide +kernel
theorem dX9_undo_16 : decode cX9_undo 16 = .ok (.isub, 1) := by decide +kernel
theorem dX9_undo_17 : decode cX9_undo 17 = .ok (.putfield 122, 3) := by decide +kernel
theorem dX9_undo_20 : decode cX9_undo 20 = .ok (.aload_n 0, 1) := by decide +kernel
theorem dX9_undo_21 : decode cX9_undo 21 = .ok (.aload_n 0, 1) := by decide +kernel
theorem dX9_undo_22 : decode cX9_undo 22 = .ok (.getfield 32, 3) := by decide +kernel
theorem dX9_undo_25 : decode cX9_undo 25 = .ok (.bipush 57, 2) := by decide +kernel
theorem dX9_undo_27 : decode cX9_undo 27 = .ok (.aload_n 0, 1) := by decide +kernel
theorem dX9_undo_28 : decode cX9_undo 28 = .ok (.getfield 122, 3) := by decide +kernel
theorem dX9_undo_31 : decode cX9_undo 31 = .ok (.imul, 1) := by decide +kernel
theorem dX9_undo_32 : decode cX9_undo 32 = .ok (.invokevirtual 139, 3) := by decide +kernel
theorem dX9_undo_35 : decode cX9_undo 35 = .ok (.aload_n 0, 1) := by decide +kernel
theorem dX9_undo_36 : decode cX9_undo 36 = .ok (.getfield 122, 3) := by decide +kernel
theorem dX9_undo_39 : decode cX9_undo 39 = .ok (.ireturn, 1) := by decide +kernel
theorem dX9_setSorted_0 : decode cX9_setSorted 0 = .ok (.aload_n 0, 1) := by decide +kernel
theorem dX9_setSorted_1 : decode cX9_setSorted 1 = .ok (.iconst 0, 1) := by decide +kernel
theorem dX9_setSorted_2 : decode cX9_setSorted 2 = .ok (.putfield 142, 3) := by decide +kernel
theorem dX9_setSorted_5 : decode cX9_setSorted 5 = .ok (.iconst (-1), 1) := by decide +kernel
theorem dX9_setSorted_6 : decode cX9_setSorted 6 = .ok (.istore_n 1, 1) := by decide +kernel
theorem dX9_setSorted_7 : decode cX9_setSorted 7 = .ok (.iconst 0, 1) := by decide +kernel
theorem dX9_setSorted_8 : decode cX9_setSorted 8 = .ok (.istore_n 2, 1) := by decide +kernel
theorem dX9_setSorted_9 : decode cX9_setSorted 9 = .ok (.iload_n 2, 1) := by decide +kernel
theorem dX9_setSorted_10 : decode cX9_setSorted 10 = .ok (.aload_n 0, 1) := by decide +kernel
theorem dX9_setSorted_11 : decode cX9_setSorted 11 = .ok (.getfield 60, 3) := by decide +kernel
theorem dX9_setSorted_14 : decode cX9_setSorted 14 = .ok (.if_icmp .ge 117, 3) := by decide +kernel
theorem dX9_setSorted_17 : decode cX9_setSorted 17 = .ok (.sipush 1000, 3) := by decide +kernel
theorem dX9_setSorted_20 : decode cX9_setSorted 20 = .ok (.istore_n 3, 1) := by decide +kernel
theorem dX9_setSorted_21 : decode cX9_setSorted 21 = .ok (.iconst 0, 1) := by decide +kernel
theorem dX9_setSorted_22 : decode cX9_setSorted 22 = .ok (.istore 4, 2) := by decide +kernel
theorem dX9_setSorted_24 : decode cX9_setSorted 24 = .ok (.iconst 0, 1) := by decide +kernel
theorem dX9_setSorted_25 : decode cX9_setSorted 25 = .ok (.istore 5, 2) := by decide +kernel
theorem dX9_setSorted_27 : decode cX9_setSorted 27 = .ok (.iload 5, 2) := by decide +kernel
theorem dX9_setSorted_29 : decode cX9_setSorted 29 = .ok (.aload_n 0, 1) := by decide +kernel
theorem dX9_setSorted_30 : decode cX9_setSorted 30 = .ok (.getfield 60, 3) := by decide +kernel
theorem dX9_setSorted_33 : decode cX9_setSorted 33 = .ok (.if_icmp .ge 52, 3) := by decide +kernel
theorem dX9_setSorted_36 : decode cX9_setSorted 36 = .ok (.aload_n 0, 1) := by decide +kernel
theorem dX9_setSorted_37 : decode cX9_setSorted 37 = .ok (.getfield 17, 3) := by decide +kernel
theorem dX9_setSorted_40 : decode cX9_setSorted 40 = .ok (.iload 5, 2) := by decide +kernel
theorem dX9_setSorted_42 : decode cX9_setSorted 42 = .ok (.iaload, 1) := by decide +kernel
theorem dX9_setSorted_43 : decode cX9_setSorted 43 = .ok (.istore 6, 2) := by decide +kernel
theorem dX9_setSorted_45 : decode cX9_setSorted 45 = .ok (.iload 6, 2) := by decide +kernel
theorem dX9_setSorted_47 : decode cX9_setSorted 47 = .ok (.iload_n 1, 1) := by decide +kernel
theorem dX9_setSorted_48 : decode cX9_setSorted 48 = .ok (.if_icmp .le 15, 3) := by decide +kernel
theorem dX9_setSorted_51 : decode cX9_setSorted 51 = .ok (.iload 6, 2) := by decide +kernel
theorem dX9_setSorted_53 : decode cX9_setSorted 53 = .ok (.iload_n 3, 1) := by decide +kernel
theorem dX9_setSorted_54 : decode cX9_setSorted 54 = .ok (.if_icmp .ge 9, 3) := by decide +kernel
theorem dX9_setSorted_57 : decode cX9_setSorted 57 = .ok (.iload 6, 2) := by decide +kernel
theorem dX9_setSorted_59 : decode cX9_setSorted 59 = .ok (.istore_n 3, 1) := by decide +kernel
theorem dX9_setSorted_60 : decode cX9_setSorted 60 = .ok (.iconst 0, 1) := by decide +kernel
theorem dX9_setSorted_61 : decode cX9_setSorted 61 = .ok (.istore 4, 2) := by decide +kernel
theorem dX9_setSorted_63 : decode cX9_setSorted 63 = .ok (.iload 4, 2) := by decide +kernel
theorem dX9_setSorted_65 : decode cX9_setSorted 65 = .ok (.iload 6, 2) := by decide +kernel
theorem dX9_setSorted_67 : decode cX9_setSorted 67 = .ok (.iload_n 3, 1) := by decide +kernel
theorem dX9_setSorted_68 : decode cX9_setSorted 68 = .ok (.if_icmp .ne 7, 3) := by decide +kernel
theorem dX9_setSorted_71 : decode cX9_setSorted 71 = .ok (.iconst 1, 1) := by decide +kernel
theorem dX9_setSorted_72 : decode cX9_setSorted 72 = .ok (.goto 4, 3) := by decide +kernel
theorem dX9_setSorted_75 : decode cX9_setSorted 75 = .ok (.iconst 0, 1) := by decide +kernel
theorem dX9_setSorted_76 : decode cX9_setSorted 76 = .ok (.iadd, 1) := by decide +kernel
theorem dX9_setSorted_77 : decode cX9_setSorted 77 = .ok (.istore 4, 2) := by decide +kernel
theorem dX9_setSorted_79 : decode cX9_setSorted 79 = .ok (.iinc 5 1, 3) := by decide +kernel
theorem dX9_setSorted_82 : decode cX9_setSorted 82 = .ok (.goto (-55), 3) := by decide +kernel
theorem dX9_setSorted_85 : decode cX9_setSorted 85 = .ok (.iload_n 3, 1) := by decide +kernel
theorem dX9_setSorted_86 : decode cX9_setSorted 86 = .ok (.sipush 999, 3) := by decide +kernel
theorem dX9_setSorted_89 : decode cX9_setSorted 89 = .ok (.if_icmp .gt 36, 3) := by decide +kernel
theorem dX9_setSorted_92 : decode cX9_setSorted 92 = .ok (.aload_n 0, 1) := by decide +kernel
theorem dX9_setSorted_93 : decode cX9_setSorted 93 = .ok (.getfield 38, 3) := by decide +kernel
theorem dX9_setSorted_96 : decode cX9_setSorted 96 = .ok (.aload_n 0, 1) := by decide +kernel
theorem dX9_setSorted_97 : decode cX9_setSorted 97 = .ok (.getfield 142, 3) := by decide +kernel
theorem dX9_setSorted_100 : decode cX9_setSorted 100 = .ok (.iload_n 3, 1) := by decide +kernel
theorem dX9_setSorted_101 : decode cX9_setSorted 101 = .ok (.iastore, 1) := by decide +kernel
theorem dX9_setSorted_102 : decode cX9_setSorted 102 = .ok (.aload_n 0, 1) := by decide +kernel
theorem dX9_setSorted_103 : decode cX9_setSorted 103 = .ok (.getfield 41, 3) := by decide +kernel
theorem dX9_setSorted_106 : decode cX9_setSorted 106 = .ok (.aload_n 0, 1) := by decide +kernel
theorem dX9_setSorted_107 : decode cX9_setSorted 107 = .ok (.getfield 142, 3) := by decide +kernel
theorem dX9_setSorted_110 : decode cX9_setSorted 110 = .ok (.iload 4, 2) := by decide +kernel
theorem dX9_setSorted_112 : decode cX9_setSorted 112 = .ok (.iastore, 1) := by decide +kernel
theorem dX9_setSorted_113 : decode cX9_setSorted 113 = .ok (.aload_n 0, 1) := by decide +kernel
theorem dX9_setSorted_114 : decode cX9_setSorted 114 = .ok (.dup, 1) := by decide +kernel
theorem dX9_setSorted_115 : decode cX9_setSorted 115 = .ok (.getfield 142, 3) := by decide +kernel
theorem dX9_setSorted_118 : decode cX9_setSorted 118 = .ok (.iconst 1, 1) := by decide +kernel
theorem dX9_setSorted_119 : decode cX9_setSorted 119 = .ok (.iadd, 1) := by decide +kernel
theorem dX9_setSorted_120 : decode cX9_setSorted 120 = .ok (.putfield 142, 3) := by decide +kernel
theorem dX9_setSorted_123 : decode cX9_setSorted 123 = .ok (.iload_n 3, 1) := by decide +kernel
theorem dX9_setSorted_124 : decode cX9_setSorted 124 = .ok (.istore_n 1, 1) := by decide +kernel
theorem dX9_setSorted_125 : decode cX9_setSorted 125 = .ok (.iinc 2 1, 3) := by decide +kernel
theorem dX9_setSorted_128 : decode cX9_setSorted 128 = .ok (.goto (-119), 3) := by decide +kernel
theorem dX9_setSorted_131 : decode cX9_setSorted 131 = .ok (.return_, 1) := by decide +kernel
theorem dX9_spreadOf_0 : decode cX9_spreadOf 0 = .ok (.lconst 0, 1) := by decide +kernel
theorem dX9_spreadOf_1 : decode cX9_spreadOf 1 = .ok (.lstore_n 3, 1) := by decide +kernel
theorem dX9_spreadOf_2 : decode cX9_spreadOf 2 = .ok (.lconst 0, 1) := by decide +kernel
theorem dX9_spreadOf_3 : decode cX9_spreadOf 3 = .ok (.lstore 5, 2) := by decide +kernel
theorem dX9_spreadOf_5 : decode cX9_spreadOf 5 = .ok (.iconst 0, 1) := by decide +kernel
theorem dX9_spreadOf_6 : decode cX9_spreadOf 6 = .ok (.istore 7, 2) := by decide +kernel
theorem dX9_spreadOf_8 : decode cX9_spreadOf 8 = .ok (.iload_n 1, 1) := by decide +kernel
theorem dX9_spreadOf_9 : decode cX9_spreadOf 9 = .ok (.istore 8, 2) := by decide +kernel
theorem dX9_spreadOf_11 : decode cX9_spreadOf 11 = .ok (.iload 8, 2) := by decide +kernel
theorem dX9_spreadOf_13 : decode cX9_spreadOf 13 = .ok (.iload_n 2, 1) := by decide +kernel
theorem dX9_spreadOf_14 : decode cX9_spreadOf 14 = .ok (.if_icmp .ge 72, 3) := by decide +kernel
theorem dX9_spreadOf_17 : decode cX9_spreadOf 17 = .ok (.lload_n 3, 1) := by decide +kernel
theorem dX9_spreadOf_18 : decode cX9_spreadOf 18 = .ok (.aload_n 0, 1) := by decide +kernel
theorem dX9_spreadOf_19 : decode cX9_spreadOf 19 = .ok (.getfield 38, 3) := by decide +kernel
theorem dX9_spreadOf_22 : decode cX9_spreadOf 22 = .ok (.iload 8, 2) := by decide +kernel
theorem dX9_spreadOf_24 : decode cX9_spreadOf 24 = .ok (.iaload, 1) := by decide +kernel
theorem dX9_spreadOf_25 : decode cX9_spreadOf 25 = .ok (.i2l, 1) := by decide +kernel
theorem dX9_spreadOf_26 : decode cX9_spreadOf 26 = .ok (.aload_n 0, 1) := by decide +kernel
theorem dX9_spreadOf_27 : decode cX9_spreadOf 27 = .ok (.getfield 38, 3) := by decide +kernel
theorem dX9_spreadOf_30 : decode cX9_spreadOf 30 = .ok (.iload 8, 2) := by decide +kernel
theorem dX9_spreadOf_32 : decode cX9_spreadOf 32 = .ok (.iaload, 1) := by decide +kernel
theorem dX9_spreadOf_33 : decode cX9_spreadOf 33 = .ok (.i2l, 1) := by decide +kernel
theorem dX9_spreadOf_34 : decode cX9_spreadOf 34 = .ok (.lmul, 1) := by decide +kernel
theorem dX9_spreadOf_35 : decode cX9_spreadOf 35 = .ok (.aload_n 0, 1) := by decide +kernel
theorem dX9_spreadOf_36 : decode cX9_spreadOf 36 = .ok (.getfield 41, 3) := by decide +kernel
theorem dX9_spreadOf_39 : decode cX9_spreadOf 39 = .ok (.iload 8, 2) := by decide +kernel
theorem dX9_spreadOf_41 : decode cX9_spreadOf 41 = .ok (.iaload, 1) := by decide +kernel
theorem dX9_spreadOf_42 : decode cX9_spreadOf 42 = .ok (.i2l, 1) := by decide +kernel
theorem dX9_spreadOf_43 : decode cX9_spreadOf 43 = .ok (.lmul, 1) := by decide +kernel
theorem dX9_spreadOf_44 : decode cX9_spreadOf 44 = .ok (.ladd, 1) := by decide +kernel
theorem dX9_spreadOf_45 : decode cX9_spreadOf 45 = .ok (.lstore_n 3, 1) := by decide +kernel
theorem dX9_spreadOf_46 : decode cX9_spreadOf 46 = .ok (.lload 5, 2) := by decide +kernel
theorem dX9_spreadOf_48 : decode cX9_spreadOf 48 = .ok (.aload_n 0, 1) := by decide +kernel
theorem dX9_spreadOf_49 : decode cX9_spreadOf 49 = .ok (.getfield 38, 3) := by decide +kernel
theorem dX9_spreadOf_52 : decode cX9_spreadOf 52 = .ok (.iload 8, 2) := by decide +kernel
theorem dX9_spreadOf_54 : decode cX9_spreadOf 54 = .ok (.iaload, 1) := by decide +kernel
theorem dX9_spreadOf_55 : decode cX9_spreadOf 55 = .ok (.i2l, 1) := by decide +kernel
theorem dX9_spreadOf_56 : decode cX9_spreadOf 56 = .ok (.aload_n 0, 1) := by decide +kernel
theorem dX9_spreadOf_57 : decode cX9_spreadOf 57 = .ok (.getfield 41, 3) := by decide +kernel
theorem dX9_spreadOf_60 : decode cX9_spreadOf 60 = .ok (.iload 8, 2) := by decide +kernel
theorem dX9_spreadOf_62 : decode cX9_spreadOf 62 = .ok (.iaload, 1) := by decide +kernel
theorem dX9_spreadOf_63 : decode cX9_spreadOf 63 = .ok (.i2l, 1) := by decide +kernel
theorem dX9_spreadOf_64 : decode cX9_spreadOf 64 = .ok (.lmul, 1) := by decide +kernel
theorem dX9_spreadOf_65 : decode cX9_spreadOf 65 = .ok (.ladd, 1) := by decide +kernel
theorem dX9_spreadOf_66 : decode cX9_spreadOf 66 = .ok (.lstore 5, 2) := by decide +kernel
theorem dX9_spreadOf_68 : decode cX9_spreadOf 68 = .ok (.iload 7, 2) := by decide +kernel
theorem dX9_spreadOf_70 : decode cX9_spreadOf 70 = .ok (.aload_n 0, 1) := by decide +kernel
theorem dX9_spreadOf_71 : decode cX9_spreadOf 71 = .ok (.getfield 41, 3) := by decide +kernel
theorem dX9_spreadOf_74 : decode cX9_spreadOf 74 = .ok (.iload 8, 2) := by decide +kernel
theorem dX9_spreadOf_76 : decode cX9_spreadOf 76 = .ok (.iaload, 1) := by decide +kernel
theorem dX9_spreadOf_77 : decode cX9_spreadOf 77 = .ok (.iadd, 1) := by decide +kernel
theorem dX9_spreadOf_78 : decode cX9_spreadOf 78 = .ok (.istore 7, 2) := by decide +kernel
theorem dX9_spreadOf_80 : decode cX9_spreadOf 80 = .ok (.iinc 8 1, 3) := by decide +kernel
theorem dX9_spreadOf_83 : decode cX9_spreadOf 83 = .ok (.goto (-72), 3) := by decide +kernel
theorem dX9_spreadOf_86 : decode cX9_spreadOf 86 = .ok (.lload_n 3, 1) := by decide +kernel
theorem dX9_spreadOf_87 : decode cX9_spreadOf 87 = .ok (.ldc2_w 145, 3) := by decide +kernel
theorem dX9_spreadOf_90 : decode cX9_spreadOf 90 = .ok (.lmul, 1) := by decide +kernel
theorem dX9_spreadOf_91 : decode cX9_spreadOf 91 = .ok (.lload 5, 2) := by decide +kernel
theorem dX9_spreadOf_93 : decode cX9_spreadOf 93 = .ok (.lload 5, 2) := by decide +kernel
theorem dX9_spreadOf_95 : decode cX9_spreadOf 95 = .ok (.lmul, 1) := by decide +kernel
theorem dX9_spreadOf_96 : decode cX9_spreadOf 96 = .ok (.ldc2_w 145, 3) := by decide +kernel
theorem dX9_spreadOf_99 : decode cX9_spreadOf 99 = .ok (.iload 7, 2) := by decide +kernel
theorem dX9_spreadOf_101 : decode cX9_spreadOf 101 = .ok (.i2l, 1) := by decide +kernel
theorem dX9_spreadOf_102 : decode cX9_spreadOf 102 = .ok (.ldiv, 1) := by decide +kernel
theorem dX9_spreadOf_103 : decode cX9_spreadOf 103 = .ok (.lmul, 1) := by decide +kernel
theorem dX9_spreadOf_104 : decode cX9_spreadOf 104 = .ok (.lsub, 1) := by decide +kernel
theorem dX9_spreadOf_105 : decode cX9_spreadOf 105 = .ok (.lreturn, 1) := by decide +kernel
theorem dX9_isOld_0 : decode cX9_isOld 0 = .ok (.iconst 0, 1) := by decide +kernel
theorem dX9_isOld_1 : decode cX9_isOld 1 = .ok (.istore_n 2, 1) := by decide +kernel
theorem dX9_isOld_2 : decode cX9_isOld 2 = .ok (.iconst 0, 1) := by decide +kernel
theorem dX9_isOld_3 : decode cX9_isOld 3 = .ok (.istore_n 3, 1) := by decide +kernel
theorem dX9_isOld_4 : decode cX9_isOld 4 = .ok (.iload_n 3, 1) := by decide +kernel
theorem dX9_isOld_5 : decode cX9_isOld 5 = .ok (.iconst 1, 1) := by decide +kernel
theorem dX9_isOld_6 : decode cX9_isOld 6 = .ok (.iadd, 1) := by decide +kernel
theorem dX9_isOld_7 : decode cX9_isOld 7 = .ok (.aload_n 0, 1) := by decide +kernel
theorem dX9_isOld_8 : decode cX9_isOld 8 = .ok (.getfield 119, 3) := by decide +kernel
theorem dX9_isOld_11 : decode cX9_isOld 11 = .ok (.if_icmp .ge 29, 3) := by decide +kernel
theorem dX9_isOld_14 : decode cX9_isOld 14 = .ok (.iload_n 2, 1) := by decide +kernel
theorem dX9_isOld_15 : decode cX9_isOld 15 = .ok (.ifCond .ne 13, 3) := by decide +kernel
theorem dX9_isOld_18 : decode cX9_isOld 18 = .ok (.aload_n 0, 1) := by decide +kernel
theorem dX9_isOld_19 : decode cX9_isOld 19 = .ok (.getfield 20, 3) := by decide +kernel
theorem dX9_isOld_22 : decode cX9_isOld 22 = .ok (.iload_n 3, 1) := by decide +kernel
theorem dX9_isOld_23 : decode cX9_isOld 23 = .ok (.iaload, 1) := by decide +kernel
theorem dX9_isOld_24 : decode cX9_isOld 24 = .ok (.iload_n 1, 1) := by decide +kernel
theorem dX9_isOld_25 : decode cX9_isOld 25 = .ok (.if_icmp .ne 7, 3) := by decide +kernel
theorem dX9_isOld_28 : decode cX9_isOld 28 = .ok (.iconst 1, 1) := by decide +kernel
theorem dX9_isOld_29 : decode cX9_isOld 29 = .ok (.goto 4, 3) := by decide +kernel
theorem dX9_isOld_32 : decode cX9_isOld 32 = .ok (.iconst 0, 1) := by decide +kernel
theorem dX9_isOld_33 : decode cX9_isOld 33 = .ok (.istore_n 2, 1) := by decide +kernel
theorem dX9_isOld_34 : decode cX9_isOld 34 = .ok (.iinc 3 1, 3) := by decide +kernel
theorem dX9_isOld_37 : decode cX9_isOld 37 = .ok (.goto (-33), 3) := by decide +kernel
theorem dX9_isOld_40 : decode cX9_isOld 40 = .ok (.iload_n 2, 1) := by decide +kernel
theorem dX9_isOld_41 : decode cX9_isOld 41 = .ok (.ireturn, 1) := by decide +kernel
theorem dX9_borderAt_0 : decode cX9_borderAt 0 = .ok (.iload_n 2, 1) := by decide +kernel
theorem dX9_borderAt_1 : decode cX9_borderAt 1 = .ok (.ifCond .ne 23, 3) := by decide +kernel
theorem dX9_borderAt_4 : decode cX9_borderAt 4 = .ok (.aload_n 0, 1) := by decide +kernel
theorem dX9_borderAt_5 : decode cX9_borderAt 5 = .ok (.getfield 119, 3) := by decide +kernel
theorem dX9_borderAt_8 : decode cX9_borderAt 8 = .ok (.ifCond .eq 16, 3) := by decide +kernel
theorem dX9_borderAt_11 : decode cX9_borderAt 11 = .ok (.aload_n 0, 1) := by decide +kernel
theorem dX9_borderAt_12 : decode cX9_borderAt 12 = .ok (.aload_n 0, 1) := by decide +kernel
theorem dX9_borderAt_13 : decode cX9_borderAt 13 = .ok (.getfield 38, 3) := by decide +kernel
theorem dX9_borderAt_16 : decode cX9_borderAt 16 = .ok (.iload_n 1, 1) := by decide +kernel
theorem dX9_borderAt_17 : decode cX9_borderAt 17 = .ok (.iaload, 1) := by decide +kernel
theorem dX9_borderAt_18 : decode cX9_borderAt 18 = .ok (.invokevirtual 147, 3) := by decide +kernel
theorem dX9_borderAt_21 : decode cX9_borderAt 21 = .ok (.ifCond .eq 7, 3) := by decide +kernel
theorem dX9_borderAt_24 : decode cX9_borderAt 24 = .ok (.lconst 0, 1) := by decide +kernel
theorem dX9_borderAt_25 : decode cX9_borderAt 25 = .ok (.goto 12, 3) := by decide +kernel
theorem dX9_borderAt_28 : decode cX9_borderAt 28 = .ok (.aload_n 0, 1) := by decide +kernel
theorem dX9_borderAt_29 : decode cX9_borderAt 29 = .ok (.getfield 116, 3) := by decide +kernel
theorem dX9_borderAt_32 : decode cX9_borderAt 32 = .ok (.i2l, 1) := by decide +kernel
theorem dX9_borderAt_33 : decode cX9_borderAt 33 = .ok (.ldc2_w 145, 3) := by decide +kernel
theorem dX9_borderAt_36 : decode cX9_borderAt 36 = .ok (.lmul, 1) := by decide +kernel
theorem dX9_borderAt_37 : decode cX9_borderAt 37 = .ok (.lreturn, 1) := by decide +kernel
theorem dX9_setFrom_0 : decode cX9_setFrom 0 = .ok (.bipush 25, 2) := by decide +kernel
theorem dX9_setFrom_2 : decode cX9_setFrom 2 = .ok (.iload_n 1, 1) := by decide +kernel
theorem dX9_setFrom_3 : decode cX9_setFrom 3 = .ok (.imul, 1) := by decide +kernel
theorem dX9_setFrom_4 : decode cX9_setFrom 4 = .ok (.iload_n 2, 1) := by decide +kernel
theorem dX9_setFrom_5 : decode cX9_setFrom 5 = .ok (.iadd, 1) := by decide +kernel
theorem dX9_setFrom_6 : decode cX9_setFrom 6 = .ok (.istore 4, 2) := by decide +kernel
theorem dX9_setFrom_8 : decode cX9_setFrom 8 = .ok (.aload_n 0, 1) := by decide +kernel
theorem dX9_setFrom_9 : decode cX9_setFrom 9 = .ok (.getfield 44, 3) := by decide +kernel
theorem dX9_setFrom_12 : decode cX9_setFrom 12 = .ok (.iload 4, 2) := by decide +kernel
theorem dX9_setFrom_14 : decode cX9_setFrom 14 = .ok (.ldc2_w 150, 3) := by decide +kernel
theorem dX9_setFrom_17 : decode cX9_setFrom 17 = .ok (.lastore, 1) := by decide +kernel
theorem dX9_setFrom_18 : decode cX9_setFrom 18 = .ok (.aload_n 0, 1) := by decide +kernel
theorem dX9_setFrom_19 : decode cX9_setFrom 19 = .ok (.getfield 48, 3) := by decide +kernel
theorem dX9_setFrom_22 : decode cX9_setFrom 22 = .ok (.iload 4, 2) := by decide +kernel
theorem dX9_setFrom_24 : decode cX9_setFrom 24 = .ok (.aload_n 0, 1) := by decide +kernel
theorem dX9_setFrom_25 : decode cX9_setFrom 25 = .ok (.getfield 142, 3) := by decide +kernel
theorem dX9_setFrom_28 : decode cX9_setFrom 28 = .ok (.iastore, 1) := by decide +kernel
theorem dX9_setFrom_29 : decode cX9_setFrom 29 = .ok (.iload_n 1, 1) := by decide +kernel
theorem dX9_setFrom_30 : decode cX9_setFrom 30 = .ok (.iconst 1, 1) := by decide +kernel
theorem dX9_setFrom_31 : decode cX9_setFrom 31 = .ok (.if_icmp .ne 20, 3) := by decide +kernel
theorem dX9_setFrom_34 : decode cX9_setFrom 34 = .ok (.aload_n 0, 1) := by decide +kernel
theorem dX9_setFrom_35 : decode cX9_setFrom 35 = .ok (.getfield 44, 3) := by decide +kernel
theorem dX9_setFrom_38 : decode cX9_setFrom 38 = .ok (.iload 4, 2) := by decide +kernel
theorem dX9_setFrom_40 : decode cX9_setFrom 40 = .ok (.aload_n 0, 1) := by decide +kernel
theorem dX9_setFrom_41 : decode cX9_setFrom 41 = .ok (.iload_n 2, 1) := by decide +kernel
theorem dX9_setFrom_42 : decode cX9_setFrom 42 = .ok (.aload_n 0, 1) := by decide +kernel
theorem dX9_setFrom_43 : decode cX9_setFrom 43 = .ok (.getfield 142, 3) := by decide +kernel
theorem dX9_setFrom_46 : decode cX9_setFrom 46 = .ok (.invokevirtual 152, 3) := by decide +kernel
theorem dX9_setFrom_49 : decode cX9_setFrom 49 = .ok (.lastore, 1) := by decide +kernel
theorem dX9_setFrom_50 : decode cX9_setFrom 50 = .ok (.return_, 1) := by decide +kernel
theorem dX9_setFrom_51 : decode cX9_setFrom 51 = .ok (.iload_n 2, 1) := by decide +kernel
theorem dX9_setFrom_52 : decode cX9_setFrom 52 = .ok (.iconst 1, 1) := by decide +kernel
theorem dX9_setFrom_53 : decode cX9_setFrom 53 = .ok (.iadd, 1) := by decide +kernel
theorem dX9_setFrom_54 : decode cX9_setFrom 54 = .ok (.istore 5, 2) := by decide +kernel
theorem dX9_setFrom_56 : decode cX9_setFrom 56 = .ok (.iload 5, 2) := by decide +kernel
theorem dX9_setFrom_58 : decode cX9_setFrom 58 = .ok (.aload_n 0, 1) := by decide +kernel
theorem dX9_setFrom_59 : decode cX9_setFrom 59 = .ok (.getfield 142, 3) := by decide +kernel
theorem dX9_setFrom_62 : decode cX9_setFrom 62 = .ok (.iload_n 1, 1) := by decide +kernel
theorem dX9_setFrom_63 : decode cX9_setFrom 63 = .ok (.isub, 1) := by decide +kernel
theorem dX9_setFrom_64 : decode cX9_setFrom 64 = .ok (.iconst 1, 1) := by decide +kernel
theorem dX9_setFrom_65 : decode cX9_setFrom 65 = .ok (.iadd, 1) := by decide +kernel
theorem dX9_setFrom_66 : decode cX9_setFrom 66 = .ok (.if_icmp .gt 72, 3) := by decide +kernel
theorem dX9_setFrom_69 : decode cX9_setFrom 69 = .ok (.aload_n 0, 1) := by decide +kernel
theorem dX9_setFrom_70 : decode cX9_setFrom 70 = .ok (.iload_n 2, 1) := by decide +kernel
theorem dX9_setFrom_71 : decode cX9_setFrom 71 = .ok (.iload 5, 2) := by decide +kernel
theorem dX9_setFrom_73 : decode cX9_setFrom 73 = .ok (.invokevirtual 152, 3) := by decide +kernel
theorem dX9_setFrom_76 : decode cX9_setFrom 76 = .ok (.aload_n 0, 1) := by decide +kernel
theorem dX9_setFrom_77 : decode cX9_setFrom 77 = .ok (.iload 5, 2) := by decide +kernel
theorem dX9_setFrom_79 : decode cX9_setFrom 79 = .ok (.iload_n 3, 1) := by decide +kernel
theorem dX9_setFrom_80 : decode cX9_setFrom 80 = .ok (.invokevirtual 156, 3) := by decide +kernel
theorem dX9_setFrom_83 : decode cX9_setFrom 83 = .ok (.ladd, 1) := by decide +kernel
theorem dX9_setFrom_84 : decode cX9_setFrom 84 = .ok (.aload_n 0, 1) := by decide +kernel
theorem dX9_setFrom_85 : decode cX9_setFrom 85 = .ok (.getfield 44, 3) := by decide +kernel
theorem dX9_setFrom_88 : decode cX9_setFrom 88 = .ok (.bipush 25, 2) := by decide +kernel
theorem dX9_setFrom_90 : decode cX9_setFrom 90 = .ok (.iload_n 1, 1) := by decide +kernel
theorem dX9_setFrom_91 : decode cX9_setFrom 91 = .ok (.iconst 1, 1) := by decide +kernel
theorem dX9_setFrom_92 : decode cX9_setFrom 92 = .ok (.isub, 1) := by decide +kernel
theorem dX9_setFrom_93 : decode cX9_setFrom 93 = .ok (.imul, 1) := by decide +kernel
theorem dX9_setFrom_94 : decode cX9_setFrom 94 = .ok (.iload 5, 2) := by decide +kernel
theorem dX9_setFrom_96 : decode cX9_setFrom 96 = .ok (.iadd, 1) := by decide +kernel
theorem dX9_setFrom_97 : decode cX9_setFrom 97 = .ok (.laload, 1) := by decide +kernel
theorem dX9_setFrom_98 : decode cX9_setFrom 98 = .ok (.ladd, 1) := by decide +kernel
theorem dX9_setFrom_99 : decode cX9_setFrom 99 = .ok (.lstore 6, 2) := by decide +kernel
theorem dX9_setFrom_101 : decode cX9_setFrom 101 = .ok (.lload 6, 2) := by decide +kernel
theorem dX9_setFrom_103 : decode cX9_setFrom 103 = .ok (.aload_n 0, 1) := by decide +kernel
theorem dX9_setFrom_104 : decode cX9_setFrom 104 = .ok (.getfield 44, 3) := by decide +kernel
theorem dX9_setFrom_107 : decode cX9_setFrom 107 = .ok (.iload 4, 2) := by decide +kernel
theorem dX9_setFrom_109 : decode cX9_setFrom 109 = .ok (.laload, 1) := by decide +kernel
theorem dX9_setFrom_110 : decode cX9_setFrom 110 = .ok (.lcmp, 1) := by decide +kernel
theorem dX9_setFrom_111 : decode cX9_setFrom 111 = .ok (.ifCond .ge 21, 3) := by decide +kernel
theorem dX9_setFrom_114 : decode cX9_setFrom 114 = .ok (.aload_n 0, 1) := by decide +kernel
theorem dX9_setFrom_115 : decode cX9_setFrom 115 = .ok (.getfield 44, 3) := by decide +kernel
theorem dX9_setFrom_118 : decode cX9_setFrom 118 = .ok (.iload 4, 2) := by decide +kernel
theorem dX9_setFrom_120 : decode cX9_setFrom 120 = .ok (.lload 6, 2) := by decide +kernel
theorem dX9_setFrom_122 : decode cX9_setFrom 122 = .ok (.lastore, 1) := by decide +kernel
theorem dX9_setFrom_123 : decode cX9_setFrom 123 = .ok (.aload_n 0, 1) := by decide +kernel
theorem dX9_setFrom_124 : decode cX9_setFrom 124 = .ok (.getfield 48, 3) := by decide +kernel
theorem dX9_setFrom_127 : decode cX9_setFrom 127 = .ok (.iload 4, 2) := by decide +kernel
theorem dX9_setFrom_129 : decode cX9_setFrom 129 = .ok (.iload 5, 2) := by decide +kernel
theorem dX9_setFrom_131 : decode cX9_setFrom 131 = .ok (.iastore, 1) := by decide +kernel
theorem dX9_setFrom_132 : decode cX9_setFrom 132 = .ok (.iinc 5 1, 3) := by decide +kernel
theorem dX9_setFrom_135 : decode cX9_setFrom 135 = .ok (.goto (-79), 3) := by decide +kernel
theorem dX9_setFrom_138 : decode cX9_setFrom 138 = .ok (.return_, 1) := by decide +kernel
theorem dX9_parts_0 : decode cX9_parts 0 = .ok (.aload_n 0, 1) := by decide +kernel
theorem dX9_parts_1 : decode cX9_parts 1 = .ok (.invokevirtual 160, 3) := by decide +kernel
theorem dX9_parts_4 : decode cX9_parts 4 = .ok (.aload_n 0, 1) := by decide +kernel
theorem dX9_parts_5 : decode cX9_parts 5 = .ok (.iload_n 1, 1) := by decide +kernel
theorem dX9_parts_6 : decode cX9_parts 6 = .ok (.aload_n 0, 1) := by decide +kernel
theorem dX9_parts_7 : decode cX9_parts 7 = .ok (.getfield 142, 3) := by decide +kernel
theorem dX9_parts_10 : decode cX9_parts 10 = .ok (.if_icmp .ge 7, 3) := by decide +kernel
theorem dX9_parts_13 : decode cX9_parts 13 = .ok (.iload_n 1, 1) := by decide +kernel
theorem dX9_parts_14 : decode cX9_parts 14 = .ok (.goto 7, 3) := by decide +kernel
theorem dX9_parts_17 : decode cX9_parts 17 = .ok (.aload_n 0, 1) := by decide +kernel
theorem dX9_parts_18 : decode cX9_parts 18 = .ok (.getfield 142, 3) := by decide +kernel
theorem dX9_parts_21 : decode cX9_parts 21 = .ok (.putfield 163, 3) := by decide +kernel
theorem dX9_parts_24 : decode cX9_parts 24 = .ok (.iconst 1, 1) := by decide +kernel
theorem dX9_parts_25 : decode cX9_parts 25 = .ok (.istore_n 3, 1) := by decide +kernel
theorem dX9_parts_26 : decode cX9_parts 26 = .ok (.iload_n 3, 1) := by decide +kernel
theorem dX9_parts_27 : decode cX9_parts 27 = .ok (.aload_n 0, 1) := by decide +kernel
theorem dX9_parts_28 : decode cX9_parts 28 = .ok (.getfield 163, 3) := by decide +kernel
theorem dX9_parts_31 : decode cX9_parts 31 = .ok (.if_icmp .gt 37, 3) := by decide +kernel
theorem dX9_parts_34 : decode cX9_parts 34 = .ok (.iconst 0, 1) := by decide +kernel
theorem dX9_parts_35 : decode cX9_parts 35 = .ok (.istore 4, 2) := by decide +kernel
theorem dX9_parts_37 : decode cX9_parts 37 = .ok (.iload 4, 2) := by decide +kernel
theorem dX9_parts_39 : decode cX9_parts 39 = .ok (.aload_n 0, 1) := by decide +kernel
theorem dX9_parts_40 : decode cX9_parts 40 = .ok (.getfield 142, 3) := by decide +kernel
theorem dX9_parts_43 : decode cX9_parts 43 = .ok (.iload_n 3, 1) := by decide +kernel
theorem dX9_parts_44 : decode cX9_parts 44 = .ok (.isub, 1) := by decide +kernel
theorem dX9_parts_45 : decode cX9_parts 45 = .ok (.if_icmp .gt 17, 3) := by decide +kernel
theorem dX9_parts_48 : decode cX9_parts 48 = .ok (.aload_n 0, 1) := by decide +kernel
theorem dX9_parts_49 : decode cX9_parts 49 = .ok (.iload_n 3, 1) := by decide +kernel
theorem dX9_parts_50 : decode cX9_parts 50 = .ok (.iload 4, 2) := by decide +kernel
theorem dX9_parts_52 : decode cX9_parts 52 = .ok (.iload_n 2, 1) := by decide +kernel
theorem dX9_parts_53 : decode cX9_parts 53 = .ok (.invokevirtual 166, 3) := by decide +kernel
theorem dX9_parts_56 : decode cX9_parts 56 = .ok (.iinc 4 1, 3) := by decide +kernel
theorem dX9_parts_59 : decode cX9_parts 59 = .ok (.goto (-22), 3) := by decide +kernel
theorem dX9_parts_62 : decode cX9_parts 62 = .ok (.iinc 3 1, 3) := by decide +kernel
theorem dX9_parts_65 : decode cX9_parts 65 = .ok (.goto (-39), 3) := by decide +kernel
theorem dX9_parts_68 : decode cX9_parts 68 = .ok (.iconst 0, 1) := by decide +kernel
theorem dX9_parts_69 : decode cX9_parts 69 = .ok (.istore_n 3, 1) := by decide +kernel
theorem dX9_parts_70 : decode cX9_parts 70 = .ok (.iconst 0, 1) := by decide +kernel
theorem dX9_parts_71 : decode cX9_parts 71 = .ok (.istore 4, 2) := by decide +kernel
theorem dX9_parts_73 : decode cX9_parts 73 = .ok (.iload 4, 2) := by decide +kernel
theorem dX9_parts_75 : decode cX9_parts 75 = .ok (.aload_n 0, 1) := by decide +kernel
theorem dX9_parts_76 : decode cX9_parts 76 = .ok (.getfield 163, 3) := by decide +kernel
theorem dX9_parts_79 : decode cX9_parts 79 = .ok (.if_icmp .ge 35, 3) := by decide +kernel
theorem dX9_parts_82 : decode cX9_parts 82 = .ok (.aload_n 0, 1) := by decide +kernel
theorem dX9_parts_83 : decode cX9_parts 83 = .ok (.getfield 51, 3) := by decide +kernel
theorem dX9_parts_86 : decode cX9_parts 86 = .ok (.iload 4, 2) := by decide +kernel
theorem dX9_parts_88 : decode cX9_parts 88 = .ok (.iload_n 3, 1) := by decide +kernel
theorem dX9_parts_89 : decode cX9_parts 89 = .ok (.iastore, 1) := by decide +kernel
theorem dX9_parts_90 : decode cX9_parts 90 = .ok (.aload_n 0, 1) := by decide +kernel
theorem dX9_parts_91 : decode cX9_parts 91 = .ok (.getfield 48, 3) := by decide +kernel
theorem dX9_parts_94 : decode cX9_parts 94 = .ok (.bipush 25, 2) := by decide +kernel
theorem dX9_parts_96 : decode cX9_parts 96 = .ok (.aload_n 0, 1) := by decide +kernel
theorem dX9_parts_97 : decode cX9_parts 97 = .ok (.getfield 163, 3) := by decide +kernel
theorem dX9_parts_100 : decode cX9_parts 100 = .ok (.iload 4, 2) := by decide +kernel
theorem dX9_parts_102 : decode cX9_parts 102 = .ok (.isub, 1) := by decide +kernel
theorem dX9_parts_103 : decode cX9_parts 103 = .ok (.imul, 1) := by decide +kernel
theorem dX9_parts_104 : decode cX9_parts 104 = .ok (.iload_n 3, 1) := by decide +kernel
theorem dX9_parts_105 : decode cX9_parts 105 = .ok (.iadd, 1) := by decide +kernel
theorem dX9_parts_106 : decode cX9_parts 106 = .ok (.iaload, 1) := by decide +kernel
theorem dX9_parts_107 : decode cX9_parts 107 = .ok (.istore_n 3, 1) := by decide +kernel
theorem dX9_parts_108 : decode cX9_parts 108 = .ok (.iinc 4 1, 3) := by decide +kernel
theorem dX9_parts_111 : decode cX9_parts 111 = .ok (.goto (-38), 3) := by decide +kernel
theorem dX9_parts_114 : decode cX9_parts 114 = .ok (.return_, 1) := by decide +kernel
theorem dX9_partsNow_0 : decode cX9_partsNow 0 = .ok (.aload_n 0, 1) := by decide +kernel
theorem dX9_partsNow_1 : decode cX9_partsNow 1 = .ok (.aload_n 0, 1) := by decide +kernel
theorem dX9_partsNow_2 : decode cX9_partsNow 2 = .ok (.getfield 7, 3) := by decide +kernel
theorem dX9_partsNow_5 : decode cX9_partsNow 5 = .ok (.iconst 0, 1) := by decide +kernel
theorem dX9_partsNow_6 : decode cX9_partsNow 6 = .ok (.invokevirtual 170, 3) := by decide +kernel
theorem dX9_partsNow_9 : decode cX9_partsNow 9 = .ok (.return_, 1) := by decide +kernel
theorem dX9_spreadOfRuns_0 : decode cX9_spreadOfRuns 0 = .ok (.lconst 0, 1) := by decide +kernel
theorem dX9_spreadOfRuns_1 : decode cX9_spreadOfRuns 1 = .ok (.lstore_n 1, 1) := by decide +kernel
theorem dX9_spreadOfRuns_2 : decode cX9_spreadOfRuns 2 = .ok (.iconst 0, 1) := by decide +kernel
theorem dX9_spreadOfRuns_3 : decode cX9_spreadOfRuns 3 = .ok (.istore_n 3, 1) := by decide +kernel
theorem dX9_spreadOfRuns_4 : decode cX9_spreadOfRuns 4 = .ok (.iload_n 3, 1) := by decide +kernel
theorem dX9_spreadOfRuns_5 : decode cX9_spreadOfRuns 5 = .ok (.aload_n 0, 1) := by decide +kernel
theorem dX9_spreadOfRuns_6 : decode cX9_spreadOfRuns 6 = .ok (.getfield 163, 3) := by decide +kernel
theorem dX9_spreadOfRuns_9 : decode cX9_spreadOfRuns 9 = .ok (.if_icmp .ge 47, 3) := by decide +kernel
theorem dX9_spreadOfRuns_12 : decode cX9_spreadOfRuns 12 = .ok (.lload_n 1, 1) := by decide +kernel
theorem dX9_spreadOfRuns_13 : decode cX9_spreadOfRuns 13 = .ok (.aload_n 0, 1) := by decide +kernel
theorem dX9_spreadOfRuns_14 : decode cX9_spreadOfRuns 14 = .ok (.aload_n 0, 1) := by decide +kernel
theorem dX9_spreadOfRuns_15 : decode cX9_spreadOfRuns 15 = .ok (.getfield 51, 3) := by decide +kernel
theorem dX9_spreadOfRuns_18 : decode cX9_spreadOfRuns 18 = .ok (.iload_n 3, 1) := by decide +kernel
theorem dX9_spreadOfRuns_19 : decode cX9_spreadOfRuns 19 = .ok (.iaload, 1) := by decide +kernel
theorem dX9_spreadOfRuns_20 : decode cX9_spreadOfRuns 20 = .ok (.iload_n 3, 1) := by decide +kernel
theorem dX9_spreadOfRuns_21 : decode cX9_spreadOfRuns 21 = .ok (.iconst 1, 1) := by decide +kernel
theorem dX9_spreadOfRuns_22 : decode cX9_spreadOfRuns 22 = .ok (.iadd, 1) := by decide +kernel
theorem dX9_spreadOfRuns_23 : decode cX9_spreadOfRuns 23 = .ok (.aload_n 0, 1) := by decide +kernel
theorem dX9_spreadOfRuns_24 : decode cX9_spreadOfRuns 24 = .ok (.getfield 163, 3) := by decide +kernel
theorem dX9_spreadOfRuns_27 : decode cX9_spreadOfRuns 27 = .ok (.if_icmp .ge 14, 3) := by decide +kernel
theorem dX9_spreadOfRuns_30 : decode cX9_spreadOfRuns 30 = .ok (.aload_n 0, 1) := by decide +kernel
theorem dX9_spreadOfRuns_31 : decode cX9_spreadOfRuns 31 = .ok (.getfield 51, 3) := by decide +kernel
theorem dX9_spreadOfRuns_34 : decode cX9_spreadOfRuns 34 = .ok (.iload_n 3, 1) := by decide +kernel
theorem dX9_spreadOfRuns_35 : decode cX9_spreadOfRuns 35 = .ok (.iconst 1, 1) := by decide +kernel
theorem dX9_spreadOfRuns_36 : decode cX9_spreadOfRuns 36 = .ok (.iadd, 1) := by decide +kernel
theorem dX9_spreadOfRuns_37 : decode cX9_spreadOfRuns 37 = .ok (.iaload, 1) := by decide +kernel
theorem dX9_spreadOfRuns_38 : decode cX9_spreadOfRuns 38 = .ok (.goto 7, 3) := by decide +kernel
theorem dX9_spreadOfRuns_41 : decode cX9_spreadOfRuns 41 = .ok (.aload_n 0, 1) := by decide +kernel
theorem dX9_spreadOfRuns_42 : decode cX9_spreadOfRuns 42 = .ok (.getfield 142, 3) := by decide +kernel
theorem dX9_spreadOfRuns_45 : decode cX9_spreadOfRuns 45 = .ok (.invokevirtual 152, 3) := by decide +kernel
theorem dX9_spreadOfRuns_48 : decode cX9_spreadOfRuns 48 = .ok (.ladd, 1) := by decide +kernel
theorem dX9_spreadOfRuns_49 : decode cX9_spreadOfRuns 49 = .ok (.lstore_n 1, 1) := by decide +kernel
theorem dX9_spreadOfRuns_50 : decode cX9_spreadOfRuns 50 = .ok (.iinc 3 1, 3) := by decide +kernel
theorem dX9_spreadOfRuns_53 : decode cX9_spreadOfRuns 53 = .ok (.goto (-49), 3) := by decide +kernel
theorem dX9_spreadOfRuns_56 : decode cX9_spreadOfRuns 56 = .ok (.lload_n 1, 1) := by decide +kernel
theorem dX9_spreadOfRuns_57 : decode cX9_spreadOfRuns 57 = .ok (.lreturn, 1) := by decide +kernel
theorem dX9_movedMany_0 : decode cX9_movedMany 0 = .ok (.iconst 0, 1) := by decide +kernel
theorem dX9_movedMany_1 : decode cX9_movedMany 1 = .ok (.istore_n 1, 1) := by decide +kernel
theorem dX9_movedMany_2 : decode cX9_movedMany 2 = .ok (.iconst 1, 1) := by decide +kernel
theorem dX9_movedMany_3 : decode cX9_movedMany 3 = .ok (.istore_n 2, 1) := by decide +kernel
theorem dX9_movedMany_4 : decode cX9_movedMany 4 = .ok (.iload_n 2, 1) := by decide +kernel
theorem dX9_movedMany_5 : decode cX9_movedMany 5 = .ok (.aload_n 0, 1) := by decide +kernel
theorem dX9_movedMany_6 : decode cX9_movedMany 6 = .ok (.getfield 163, 3) := by decide +kernel
theorem dX9_movedMany_9 : decode cX9_movedMany 9 = .ok (.if_icmp .ge 35, 3) := by decide +kernel
theorem dX9_movedMany_12 : decode cX9_movedMany 12 = .ok (.iload_n 1, 1) := by decide +kernel
theorem dX9_movedMany_13 : decode cX9_movedMany 13 = .ok (.aload_n 0, 1) := by decide +kernel
theorem dX9_movedMany_14 : decode cX9_movedMany 14 = .ok (.aload_n 0, 1) := by decide +kernel
theorem dX9_movedMany_15 : decode cX9_movedMany 15 = .ok (.getfield 38, 3) := by decide +kernel
theorem dX9_movedMany_18 : decode cX9_movedMany 18 = .ok (.aload_n 0, 1) := by decide +kernel
theorem dX9_movedMany_19 : decode cX9_movedMany 19 = .ok (.getfield 51, 3) := by decide +kernel
theorem dX9_movedMany_22 : decode cX9_movedMany 22 = .ok (.iload_n 2, 1) := by decide +kernel
theorem dX9_movedMany_23 : decode cX9_movedMany 23 = .ok (.iaload, 1) := by decide +kernel
theorem dX9_movedMany_24 : decode cX9_movedMany 24 = .ok (.iaload, 1) := by decide +kernel
theorem dX9_movedMany_25 : decode cX9_movedMany 25 = .ok (.invokevirtual 147, 3) := by decide +kernel
theorem dX9_movedMany_28 : decode cX9_movedMany 28 = .ok (.ifCond .eq 7, 3) := by decide +kernel
theorem dX9_movedMany_31 : decode cX9_movedMany 31 = .ok (.iconst 0, 1) := by decide +kernel
theorem dX9_movedMany_32 : decode cX9_movedMany 32 = .ok (.goto 4, 3) := by decide +kernel
theorem dX9_movedMany_35 : decode cX9_movedMany 35 = .ok (.iconst 1, 1) := by decide +kernel
theorem dX9_movedMany_36 : decode cX9_movedMany 36 = .ok (.iadd, 1) := by decide +kernel
theorem dX9_movedMany_37 : decode cX9_movedMany 37 = .ok (.istore_n 1, 1) := by decide +kernel
theorem dX9_movedMany_38 : decode cX9_movedMany 38 = .ok (.iinc 2 1, 3) := by decide +kernel
theorem dX9_movedMany_41 : decode cX9_movedMany 41 = .ok (.goto (-37), 3) := by decide +kernel
theorem dX9_movedMany_44 : decode cX9_movedMany 44 = .ok (.iload_n 1, 1) := by decide +kernel
theorem dX9_movedMany_45 : decode cX9_movedMany 45 = .ok (.ireturn, 1) := by decide +kernel
theorem dX9_closes_0 : decode cX9_closes 0 = .ok (.aload_n 0, 1) := by decide +kernel
theorem dX9_closes_1 : decode cX9_closes 1 = .ok (.invokevirtual 136, 3) := by decide +kernel
theorem dX9_closes_4 : decode cX9_closes 4 = .ok (.aload_n 0, 1) := by decide +kernel
theorem dX9_closes_5 : decode cX9_closes 5 = .ok (.invokevirtual 174, 3) := by decide +kernel
theorem dX9_closes_8 : decode cX9_closes 8 = .ok (.aload_n 0, 1) := by decide +kernel
theorem dX9_closes_9 : decode cX9_closes 9 = .ok (.invokevirtual 177, 3) := by decide +kernel
theorem dX9_closes_12 : decode cX9_closes 12 = .ok (.istore_n 1, 1) := by decide +kernel
theorem dX9_closes_13 : decode cX9_closes 13 = .ok (.aload_n 0, 1) := by decide +kernel
theorem dX9_closes_14 : decode cX9_closes 14 = .ok (.aload_n 0, 1) := by decide +kernel
theorem dX9_closes_15 : decode cX9_closes 15 = .ok (.getfield 163, 3) := by decide +kernel
theorem dX9_closes_18 : decode cX9_closes 18 = .ok (.ifCond .le 10, 3) := by decide +kernel
theorem dX9_closes_21 : decode cX9_closes 21 = .ok (.aload_n 0, 1) := by decide +kernel
theorem dX9_closes_22 : decode cX9_closes 22 = .ok (.getfield 163, 3) := by decide +kernel
theorem dX9_closes_25 : decode cX9_closes 25 = .ok (.goto 4, 3) := by decide +kernel
theorem dX9_closes_28 : decode cX9_closes 28 = .ok (.iconst 1, 1) := by decide +kernel
theorem dX9_closes_29 : decode cX9_closes 29 = .ok (.putfield 119, 3) := by decide +kernel
theorem dX9_closes_32 : decode cX9_closes 32 = .ok (.iconst 1, 1) := by decide +kernel
theorem dX9_closes_33 : decode cX9_closes 33 = .ok (.istore_n 2, 1) := by decide +kernel
theorem dX9_closes_34 : decode cX9_closes 34 = .ok (.iload_n 2, 1) := by decide +kernel
theorem dX9_closes_35 : decode cX9_closes 35 = .ok (.aload_n 0, 1) := by decide +kernel
theorem dX9_closes_36 : decode cX9_closes 36 = .ok (.getfield 163, 3) := by decide +kernel
theorem dX9_closes_39 : decode cX9_closes 39 = .ok (.if_icmp .ge 28, 3) := by decide +kernel
theorem dX9_closes_42 : decode cX9_closes 42 = .ok (.aload_n 0, 1) := by decide +kernel
theorem dX9_closes_43 : decode cX9_closes 43 = .ok (.getfield 20, 3) := by decide +kernel
theorem dX9_closes_46 : decode cX9_closes 46 = .ok (.iload_n 2, 1) := by decide +kernel
theorem dX9_closes_47 : decode cX9_closes 47 = .ok (.iconst 1, 1) := by decide +kernel
theorem dX9_closes_48 : decode cX9_closes 48 = .ok (.isub, 1) := by decide +kernel
theorem dX9_closes_49 : decode cX9_closes 49 = .ok (.aload_n 0, 1) := by decide +kernel
theorem dX9_closes_50 : decode cX9_closes 50 = .ok (.getfield 38, 3) := by decide +kernel
theorem dX9_closes_53 : decode cX9_closes 53 = .ok (.aload_n 0, 1) := by decide +kernel
theorem dX9_closes_54 : decode cX9_closes 54 = .ok (.getfield 51, 3) := by decide +kernel
theorem dX9_closes_57 : decode cX9_closes 57 = .ok (.iload_n 2, 1) := by decide +kernel
theorem dX9_closes_58 : decode cX9_closes 58 = .ok (.iaload, 1) := by decide +kernel
theorem dX9_closes_59 : decode cX9_closes 59 = .ok (.iaload, 1) := by decide +kernel
theorem dX9_closes_60 : decode cX9_closes 60 = .ok (.iastore, 1) := by decide +kernel
theorem dX9_closes_61 : decode cX9_closes 61 = .ok (.iinc 2 1, 3) := by decide +kernel
theorem dX9_closes_64 : decode cX9_closes 64 = .ok (.goto (-30), 3) := by decide +kernel
theorem dX9_closes_67 : decode cX9_closes 67 = .ok (.iload_n 1, 1) := by decide +kernel
theorem dX9_closes_68 : decode cX9_closes 68 = .ok (.ireturn, 1) := by decide +kernel
theorem dX9_moved_0 : decode cX9_moved 0 = .ok (.aload_n 0, 1) := by decide +kernel
theorem dX9_moved_1 : decode cX9_moved 1 = .ok (.invokevirtual 174, 3) := by decide +kernel
theorem dX9_moved_4 : decode cX9_moved 4 = .ok (.aload_n 0, 1) := by decide +kernel
theorem dX9_moved_5 : decode cX9_moved 5 = .ok (.invokevirtual 177, 3) := by decide +kernel
theorem dX9_moved_8 : decode cX9_moved 8 = .ok (.ireturn, 1) := by decide +kernel
theorem dX9_runOf_0 : decode cX9_runOf 0 = .ok (.iconst 0, 1) := by decide +kernel
theorem dX9_runOf_1 : decode cX9_runOf 1 = .ok (.istore_n 2, 1) := by decide +kernel
theorem dX9_runOf_2 : decode cX9_runOf 2 = .ok (.iload_n 2, 1) := by decide +kernel
theorem dX9_runOf_3 : decode cX9_runOf 3 = .ok (.iconst 1, 1) := by decide +kernel
theorem dX9_runOf_4 : decode cX9_runOf 4 = .ok (.iadd, 1) := by decide +kernel
theorem dX9_runOf_5 : decode cX9_runOf 5 = .ok (.aload_n 0, 1) := by decide +kernel
theorem dX9_runOf_6 : decode cX9_runOf 6 = .ok (.getfield 163, 3) := by decide +kernel
theorem dX9_runOf_9 : decode cX9_runOf 9 = .ok (.if_icmp .ge 26, 3) := by decide +kernel
theorem dX9_runOf_12 : decode cX9_runOf 12 = .ok (.aload_n 0, 1) := by decide +kernel
theorem dX9_runOf_13 : decode cX9_runOf 13 = .ok (.getfield 38, 3) := by decide +kernel
theorem dX9_runOf_16 : decode cX9_runOf 16 = .ok (.aload_n 0, 1) := by decide +kernel
theorem dX9_runOf_17 : decode cX9_runOf 17 = .ok (.getfield 51, 3) := by decide +kernel
theorem dX9_runOf_20 : decode cX9_runOf 20 = .ok (.iload_n 2, 1) := by decide +kernel
theorem dX9_runOf_21 : decode cX9_runOf 21 = .ok (.iconst 1, 1) := by decide +kernel
theorem dX9_runOf_22 : decode cX9_runOf 22 = .ok (.iadd, 1) := by decide +kernel
theorem dX9_runOf_23 : decode cX9_runOf 23 = .ok (.iaload, 1) := by decide +kernel
theorem dX9_runOf_24 : decode cX9_runOf 24 = .ok (.iaload, 1) := by decide +kernel
theorem dX9_runOf_25 : decode cX9_runOf 25 = .ok (.iload_n 1, 1) := by decide +kernel
theorem dX9_runOf_26 : decode cX9_runOf 26 = .ok (.if_icmp .gt 9, 3) := by decide +kernel
theorem dX9_runOf_29 : decode cX9_runOf 29 = .ok (.iinc 2 1, 3) := by decide +kernel
theorem dX9_runOf_32 : decode cX9_runOf 32 = .ok (.goto (-30), 3) := by decide +kernel
theorem dX9_runOf_35 : decode cX9_runOf 35 = .ok (.iload_n 2, 1) := by decide +kernel
theorem dX9_runOf_36 : decode cX9_runOf 36 = .ok (.ireturn, 1) := by decide +kernel
theorem dX9_place_0 : decode cX9_place 0 = .ok (.iload_n 1, 1) := by decide +kernel
theorem dX9_place_1 : decode cX9_place 1 = .ok (.iload_n 2, 1) := by decide +kernel
theorem dX9_place_2 : decode cX9_place 2 = .ok (.invokestatic 129, 3) := by decide +kernel
theorem dX9_place_5 : decode cX9_place 5 = .ok (.ifCond .eq 12, 3) := by decide +kernel
theorem dX9_place_8 : decode cX9_place 8 = .ok (.iload_n 3, 1) := by decide +kernel
theorem dX9_place_9 : decode cX9_place 9 = .ok (.iconst 0, 1) := by decide +kernel
theorem dX9_place_10 : decode cX9_place 10 = .ok (.iconst 2, 1) := by decide +kernel
theorem dX9_place_11 : decode cX9_place 11 = .ok (.invokestatic 63, 3) := by decide +kernel
theorem dX9_place_14 : decode cX9_place 14 = .ok (.ifCond .ne 5, 3) := by decide +kernel
theorem dX9_place_17 : decode cX9_place 17 = .ok (.iconst (-1), 1) := by decide +kernel
theorem dX9_place_18 : decode cX9_place 18 = .ok (.ireturn, 1) := by decide +kernel
theorem dX9_place_19 : decode cX9_place 19 = .ok (.aload_n 0, 1) := by decide +kernel
theorem dX9_place_20 : decode cX9_place 20 = .ok (.bipush 10, 2) := by decide +kernel
theorem dX9_place_22 : decode cX9_place 22 = .ok (.iload_n 1, 1) := by decide +kernel
theorem dX9_place_23 : decode cX9_place 23 = .ok (.imul, 1) := by decide +kernel
theorem dX9_place_24 : decode cX9_place 24 = .ok (.iload_n 2, 1) := by decide +kernel
theorem dX9_place_25 : decode cX9_place 25 = .ok (.iadd, 1) := by decide +kernel
theorem dX9_place_26 : decode cX9_place 26 = .ok (.invokevirtual 132, 3) := by decide +kernel
theorem dX9_place_29 : decode cX9_place 29 = .ok (.istore 4, 2) := by decide +kernel
theorem dX9_place_31 : decode cX9_place 31 = .ok (.iload 4, 2) := by decide +kernel
theorem dX9_place_33 : decode cX9_place 33 = .ok (.bipush (-9), 2) := by decide +kernel
theorem dX9_place_35 : decode cX9_place 35 = .ok (.if_icmp .eq 7, 3) := by decide +kernel
theorem dX9_place_38 : decode cX9_place 38 = .ok (.iload_n 3, 1) := by decide +kernel
theorem dX9_place_39 : decode cX9_place 39 = .ok (.ifCond .ne 23, 3) := by decide +kernel
theorem dX9_place_42 : decode cX9_place 42 = .ok (.iload 4, 2) := by decide +kernel
theorem dX9_place_44 : decode cX9_place 44 = .ok (.bipush (-9), 2) := by decide +kernel
theorem dX9_place_46 : decode cX9_place 46 = .ok (.if_icmp .ne 8, 3) := by decide +kernel
theorem dX9_place_49 : decode cX9_place 49 = .ok (.bipush (-9), 2) := by decide +kernel
theorem dX9_place_51 : decode cX9_place 51 = .ok (.goto 10, 3) := by decide +kernel
theorem dX9_place_54 : decode cX9_place 54 = .ok (.aload_n 0, 1) := by decide +kernel
theorem dX9_place_55 : decode cX9_place 55 = .ok (.getfield 17, 3) := by decide +kernel
theorem dX9_place_58 : decode cX9_place 58 = .ok (.iload 4, 2) := by decide +kernel
theorem dX9_place_60 : decode cX9_place 60 = .ok (.iaload, 1) := by decide +kernel
theorem dX9_place_61 : decode cX9_place 61 = .ok (.ireturn, 1) := by decide +kernel
theorem dX9_place_62 : decode cX9_place 62 = .ok (.aload_n 0, 1) := by decide +kernel
theorem dX9_place_63 : decode cX9_place 63 = .ok (.invokevirtual 174, 3) := by decide +kernel
theorem dX9_place_66 : decode cX9_place 66 = .ok (.aload_n 0, 1) := by decide +kernel
theorem dX9_place_67 : decode cX9_place 67 = .ok (.aload_n 0, 1) := by decide +kernel
theorem dX9_place_68 : decode cX9_place 68 = .ok (.getfield 17, 3) := by decide +kernel
theorem dX9_place_71 : decode cX9_place 71 = .ok (.iload 4, 2) := by decide +kernel
theorem dX9_place_73 : decode cX9_place 73 = .ok (.iaload, 1) := by decide +kernel
theorem dX9_place_74 : decode cX9_place 74 = .ok (.invokevirtual 180, 3) := by decide +kernel
theorem dX9_place_77 : decode cX9_place 77 = .ok (.istore 5, 2) := by decide +kernel
theorem dX9_place_79 : decode cX9_place 79 = .ok (.iload_n 3, 1) := by decide +kernel
theorem dX9_place_80 : decode cX9_place 80 = .ok (.iconst 1, 1) := by decide +kernel
theorem dX9_place_81 : decode cX9_place 81 = .ok (.if_icmp .ne 8, 3) := by decide +kernel
theorem dX9_place_84 : decode cX9_place 84 = .ok (.iload 5, 2) := by decide +kernel
theorem dX9_place_86 : decode cX9_place 86 = .ok (.goto 34, 3) := by decide +kernel
theorem dX9_place_89 : decode cX9_place 89 = .ok (.aload_n 0, 1) := by decide +kernel
theorem dX9_place_90 : decode cX9_place 90 = .ok (.getfield 163, 3) := by decide +kernel
theorem dX9_place_93 : decode cX9_place 93 = .ok (.iconst 1, 1) := by decide +kernel
theorem dX9_place_94 : decode cX9_place 94 = .ok (.if_icmp .ne 9, 3) := by decide +kernel
theorem dX9_place_97 : decode cX9_place 97 = .ok (.sipush 255, 3) := by decide +kernel
theorem dX9_place_100 : decode cX9_place 100 = .ok (.goto 20, 3) := by decide +kernel
theorem dX9_place_103 : decode cX9_place 103 = .ok (.sipush 255, 3) := by decide +kernel
theorem dX9_place_106 : decode cX9_place 106 = .ok (.sipush 255, 3) := by decide +kernel
theorem dX9_place_109 : decode cX9_place 109 = .ok (.iload 5, 2) := by decide +kernel
theorem dX9_place_111 : decode cX9_place 111 = .ok (.imul, 1) := by decide +kernel
theorem dX9_place_112 : decode cX9_place 112 = .ok (.aload_n 0, 1) := by decide +kernel
theorem dX9_place_113 : decode cX9_place 113 = .ok (.getfield 163, 3) := by decide +kernel
theorem dX9_place_116 : decode cX9_place 116 = .ok (.iconst 1, 1) := by decide +kernel
theorem dX9_place_117 : decode cX9_place 117 = .ok (.isub, 1) := by decide +kernel
theorem dX9_place_118 : decode cX9_place 118 = .ok (.idiv, 1) := by decide +kernel
theorem dX9_place_119 : decode cX9_place 119 = .ok (.isub, 1) := by decide +kernel
theorem dX9_place_120 : decode cX9_place 120 = .ok (.ireturn, 1) := by decide +kernel
theorem dX9_sorted_0 : decode cX9_sorted 0 = .ok (.aload_n 0, 1) := by decide +kernel
theorem dX9_sorted_1 : decode cX9_sorted 1 = .ok (.invokevirtual 174, 3) := by decide +kernel
theorem dX9_sorted_4 : decode cX9_sorted 4 = .ok (.iload_n 1, 1) := by decide +kernel
theorem dX9_sorted_5 : decode cX9_sorted 5 = .ok (.iconst 0, 1) := by decide +kernel
theorem dX9_sorted_6 : decode cX9_sorted 6 = .ok (.aload_n 0, 1) := by decide +kernel
theorem dX9_sorted_7 : decode cX9_sorted 7 = .ok (.getfield 142, 3) := by decide +kernel
theorem dX9_sorted_10 : decode cX9_sorted 10 = .ok (.iconst 1, 1) := by decide +kernel
theorem dX9_sorted_11 : decode cX9_sorted 11 = .ok (.isub, 1) := by decide +kernel
theorem dX9_sorted_12 : decode cX9_sorted 12 = .ok (.invokestatic 63, 3) := by decide +kernel
theorem dX9_sorted_15 : decode cX9_sorted 15 = .ok (.ifCond .eq 12, 3) := by decide +kernel
theorem dX9_sorted_18 : decode cX9_sorted 18 = .ok (.iload_n 2, 1) := by decide +kernel
theorem dX9_sorted_19 : decode cX9_sorted 19 = .ok (.iconst 0, 1) := by decide +kernel
theorem dX9_sorted_20 : decode cX9_sorted 20 = .ok (.iconst 2, 1) := by decide +kernel
theorem dX9_sorted_21 : decode cX9_sorted 21 = .ok (.invokestatic 63, 3) := by decide +kernel
theorem dX9_sorted_24 : decode cX9_sorted 24 = .ok (.ifCond .ne 5, 3) := by decide +kernel
theorem dX9_sorted_27 : decode cX9_sorted 27 = .ok (.iconst (-1), 1) := by decide +kernel
theorem dX9_sorted_28 : decode cX9_sorted 28 = .ok (.ireturn, 1) := by decide +kernel
theorem dX9_sorted_29 : decode cX9_sorted 29 = .ok (.iload_n 2, 1) := by decide +kernel
theorem dX9_sorted_30 : decode cX9_sorted 30 = .ok (.ifCond .ne 12, 3) := by decide +kernel
theorem dX9_sorted_33 : decode cX9_sorted 33 = .ok (.aload_n 0, 1) := by decide +kernel
theorem dX9_sorted_34 : decode cX9_sorted 34 = .ok (.getfield 38, 3) := by decide +kernel
theorem dX9_sorted_37 : decode cX9_sorted 37 = .ok (.iload_n 1, 1) := by decide +kernel
theorem dX9_sorted_38 : decode cX9_sorted 38 = .ok (.iaload, 1) := by decide +kernel
theorem dX9_sorted_39 : decode cX9_sorted 39 = .ok (.goto 27, 3) := by decide +kernel
theorem dX9_sorted_42 : decode cX9_sorted 42 = .ok (.iload_n 2, 1) := by decide +kernel
theorem dX9_sorted_43 : decode cX9_sorted 43 = .ok (.iconst 1, 1) := by decide +kernel
theorem dX9_sorted_44 : decode cX9_sorted 44 = .ok (.if_icmp .ne 12, 3) := by decide +kernel
theorem dX9_sorted_47 : decode cX9_sorted 47 = .ok (.aload_n 0, 1) := by decide +kernel
theorem dX9_sorted_48 : decode cX9_sorted 48 = .ok (.getfield 41, 3) := by decide +kernel
theorem dX9_sorted_51 : decode cX9_sorted 51 = .ok (.iload_n 1, 1) := by decide +kernel
theorem dX9_sorted_52 : decode cX9_sorted 52 = .ok (.iaload, 1) := by decide +kernel
theorem dX9_sorted_53 : decode cX9_sorted 53 = .ok (.goto 13, 3) := by decide +kernel
theorem dX9_sorted_56 : decode cX9_sorted 56 = .ok (.aload_n 0, 1) := by decide +kernel
theorem dX9_sorted_57 : decode cX9_sorted 57 = .ok (.aload_n 0, 1) := by decide +kernel
theorem dX9_sorted_58 : decode cX9_sorted 58 = .ok (.getfield 38, 3) := by decide +kernel
theorem dX9_sorted_61 : decode cX9_sorted 61 = .ok (.iload_n 1, 1) := by decide +kernel
theorem dX9_sorted_62 : decode cX9_sorted 62 = .ok (.iaload, 1) := by decide +kernel
theorem dX9_sorted_63 : decode cX9_sorted 63 = .ok (.invokevirtual 180, 3) := by decide +kernel
theorem dX9_sorted_66 : decode cX9_sorted 66 = .ok (.ireturn, 1) := by decide +kernel
theorem dX9_beginOf_0 : decode cX9_beginOf 0 = .ok (.iload_n 1, 1) := by decide +kernel
theorem dX9_beginOf_1 : decode cX9_beginOf 1 = .ok (.iconst (-1), 1) := by decide +kernel
theorem dX9_beginOf_2 : decode cX9_beginOf 2 = .ok (.aload_n 0, 1) := by decide +kernel
theorem dX9_beginOf_3 : decode cX9_beginOf 3 = .ok (.getfield 163, 3) := by decide +kernel
theorem dX9_beginOf_6 : decode cX9_beginOf 6 = .ok (.iconst 1, 1) := by decide +kernel
theorem dX9_beginOf_7 : decode cX9_beginOf 7 = .ok (.isub, 1) := by decide +kernel
theorem dX9_beginOf_8 : decode cX9_beginOf 8 = .ok (.invokestatic 63, 3) := by decide +kernel
theorem dX9_beginOf_11 : decode cX9_beginOf 11 = .ok (.ifCond .ne 5, 3) := by decide +kernel
theorem dX9_beginOf_14 : decode cX9_beginOf 14 = .ok (.iconst (-1), 1) := by decide +kernel
theorem dX9_beginOf_15 : decode cX9_beginOf 15 = .ok (.ireturn, 1) := by decide +kernel
theorem dX9_beginOf_16 : decode cX9_beginOf 16 = .ok (.iload_n 1, 1) := by decide +kernel
theorem dX9_beginOf_17 : decode cX9_beginOf 17 = .ok (.iconst (-1), 1) := by decide +kernel
theorem dX9_beginOf_18 : decode cX9_beginOf 18 = .ok (.if_icmp .ne 10, 3) := by decide +kernel
theorem dX9_beginOf_21 : decode cX9_beginOf 21 = .ok (.aload_n 0, 1) := by decide +kernel
theorem dX9_beginOf_22 : decode cX9_beginOf 22 = .ok (.getfield 163, 3) := by decide +kernel
theorem dX9_beginOf_25 : decode cX9_beginOf 25 = .ok (.goto 14, 3) := by decide +kernel
theorem dX9_beginOf_28 : decode cX9_beginOf 28 = .ok (.aload_n 0, 1) := by decide +kernel
theorem dX9_beginOf_29 : decode cX9_beginOf 29 = .ok (.getfield 38, 3) := by decide +kernel
theorem dX9_beginOf_32 : decode cX9_beginOf 32 = .ok (.aload_n 0, 1) := by decide +kernel
theorem dX9_beginOf_33 : decode cX9_beginOf 33 = .ok (.getfield 51, 3) := by decide +kernel
theorem dX9_beginOf_36 : decode cX9_beginOf 36 = .ok (.iload_n 1, 1) := by decide +kernel
theorem dX9_beginOf_37 : decode cX9_beginOf 37 = .ok (.iaload, 1) := by decide +kernel
theorem dX9_beginOf_38 : decode cX9_beginOf 38 = .ok (.iaload, 1) := by decide +kernel
theorem dX9_beginOf_39 : decode cX9_beginOf 39 = .ok (.ireturn, 1) := by decide +kernel
theorem dX9_now_0 : decode cX9_now 0 = .ok (.aload_n 0, 1) := by decide +kernel
theorem dX9_now_1 : decode cX9_now 1 = .ok (.invokevirtual 174, 3) := by decide +kernel
theorem dX9_now_4 : decode cX9_now 4 = .ok (.aload_n 0, 1) := by decide +kernel
theorem dX9_now_5 : decode cX9_now 5 = .ok (.iload_n 1, 1) := by decide +kernel
theorem dX9_now_6 : decode cX9_now 6 = .ok (.invokevirtual 183, 3) := by decide +kernel
theorem dX9_now_9 : decode cX9_now 9 = .ok (.ireturn, 1) := by decide +kernel
theorem dX9_told_0 : decode cX9_told 0 = .ok (.lload_n 0, 1) := by decide +kernel
theorem dX9_told_1 : decode cX9_told 1 = .ok (.lstore_n 3, 1) := by decide +kernel
theorem dX9_told_2 : decode cX9_told 2 = .ok (.ldc2_w 145, 3) := by decide +kernel
theorem dX9_told_5 : decode cX9_told 5 = .ok (.lstore 5, 2) := by decide +kernel
theorem dX9_told_7 : decode cX9_told 7 = .ok (.lload 5, 2) := by decide +kernel
theorem dX9_told_9 : decode cX9_told 9 = .ok (.lconst 0, 1) := by decide +kernel
theorem dX9_told_10 : decode cX9_told 10 = .ok (.lcmp, 1) := by decide +kernel
theorem dX9_told_11 : decode cX9_told 11 = .ok (.ifCond .eq 19, 3) := by decide +kernel
theorem dX9_told_14 : decode cX9_told 14 = .ok (.lload_n 3, 1) := by decide +kernel
theorem dX9_told_15 : decode cX9_told 15 = .ok (.lload 5, 2) := by decide +kernel
theorem dX9_told_17 : decode cX9_told 17 = .ok (.lrem, 1) := by decide +kernel
theorem dX9_told_18 : decode cX9_told 18 = .ok (.lstore 7, 2) := by decide +kernel
theorem dX9_told_20 : decode cX9_told 20 = .ok (.lload 5, 2) := by decide +kernel
theorem dX9_told_22 : decode cX9_told 22 = .ok (.lstore_n 3, 1) := by decide +kernel
theorem dX9_told_23 : decode cX9_told 23 = .ok (.lload 7, 2) := by decide +kernel
theorem dX9_told_25 : decode cX9_told 25 = .ok (.lstore 5, 2) := by decide +kernel
theorem dX9_told_27 : decode cX9_told 27 = .ok (.goto (-20), 3) := by decide +kernel
theorem dX9_told_30 : decode cX9_told 30 = .ok (.iload_n 2, 1) := by decide +kernel
theorem dX9_told_31 : decode cX9_told 31 = .ok (.ifCond .ne 9, 3) := by decide +kernel
theorem dX9_told_34 : decode cX9_told 34 = .ok (.lload_n 0, 1) := by decide +kernel
theorem dX9_told_35 : decode cX9_told 35 = .ok (.lload_n 3, 1) := by decide +kernel
theorem dX9_told_36 : decode cX9_told 36 = .ok (.ldiv, 1) := by decide +kernel
theorem dX9_told_37 : decode cX9_told 37 = .ok (.goto 8, 3) := by decide +kernel
theorem dX9_told_40 : decode cX9_told 40 = .ok (.ldc2_w 145, 3) := by decide +kernel
theorem dX9_told_43 : decode cX9_told 43 = .ok (.lload_n 3, 1) := by decide +kernel
theorem dX9_told_44 : decode cX9_told 44 = .ok (.ldiv, 1) := by decide +kernel
theorem dX9_told_45 : decode cX9_told 45 = .ok (.lreturn, 1) := by decide +kernel
theorem dX9_spread_0 : decode cX9_spread 0 = .ok (.iload_n 1, 1) := by decide +kernel
theorem dX9_spread_1 : decode cX9_spread 1 = .ok (.iconst 0, 1) := by decide +kernel
theorem dX9_spread_2 : decode cX9_spread 2 = .ok (.iconst 1, 1) := by decide +kernel
theorem dX9_spread_3 : decode cX9_spread 3 = .ok (.invokestatic 63, 3) := by decide +kernel
theorem dX9_spread_6 : decode cX9_spread 6 = .ok (.ifCond .ne 7, 3) := by decide +kernel
theorem dX9_spread_9 : decode cX9_spread 9 = .ok (.ldc2_w 186, 3) := by decide +kernel
theorem dX9_spread_12 : decode cX9_spread 12 = .ok (.lreturn, 1) := by decide +kernel
theorem dX9_spread_13 : decode cX9_spread 13 = .ok (.aload_n 0, 1) := by decide +kernel
theorem dX9_spread_14 : decode cX9_spread 14 = .ok (.invokevirtual 174, 3) := by decide +kernel
theorem dX9_spread_17 : decode cX9_spread 17 = .ok (.aload_n 0, 1) := by decide +kernel
theorem dX9_spread_18 : decode cX9_spread 18 = .ok (.invokevirtual 188, 3) := by decide +kernel
theorem dX9_spread_21 : decode cX9_spread 21 = .ok (.iload_n 1, 1) := by decide +kernel
theorem dX9_spread_22 : decode cX9_spread 22 = .ok (.invokestatic 192, 3) := by decide +kernel
theorem dX9_spread_25 : decode cX9_spread 25 = .ok (.lreturn, 1) := by decide +kernel
theorem dX9_least_0 : decode cX9_least 0 = .ok (.iload_n 1, 1) := by decide +kernel
theorem dX9_least_1 : decode cX9_least 1 = .ok (.iconst 1, 1) := by decide +kernel
theorem dX9_least_2 : decode cX9_least 2 = .ok (.bipush 6, 2) := by decide +kernel
theorem dX9_least_4 : decode cX9_least 4 = .ok (.invokestatic 63, 3) := by decide +kernel
theorem dX9_least_7 : decode cX9_least 7 = .ok (.ifCond .ne 5, 3) := by decide +kernel
theorem dX9_least_10 : decode cX9_least 10 = .ok (.iconst (-1), 1) := by decide +kernel
theorem dX9_least_11 : decode cX9_least 11 = .ok (.ireturn, 1) := by decide +kernel
theorem dX9_least_12 : decode cX9_least 12 = .ok (.aload_n 0, 1) := by decide +kernel
theorem dX9_least_13 : decode cX9_least 13 = .ok (.iload_n 1, 1) := by decide +kernel
theorem dX9_least_14 : decode cX9_least 14 = .ok (.iconst 1, 1) := by decide +kernel
theorem dX9_least_15 : decode cX9_least 15 = .ok (.invokevirtual 170, 3) := by decide +kernel
theorem dX9_least_18 : decode cX9_least 18 = .ok (.aload_n 0, 1) := by decide +kernel
theorem dX9_least_19 : decode cX9_least 19 = .ok (.iload_n 2, 1) := by decide +kernel
theorem dX9_least_20 : decode cX9_least 20 = .ok (.invokevirtual 183, 3) := by decide +kernel
theorem dX9_least_23 : decode cX9_least 23 = .ok (.ireturn, 1) := by decide +kernel
theorem dX9_spreadIn_0 : decode cX9_spreadIn 0 = .ok (.aload_n 0, 1) := by decide +kernel
theorem dX9_spreadIn_1 : decode cX9_spreadIn 1 = .ok (.iload_n 1, 1) := by decide +kernel
theorem dX9_spreadIn_2 : decode cX9_spreadIn 2 = .ok (.iconst 1, 1) := by decide +kernel
theorem dX9_spreadIn_3 : decode cX9_spreadIn 3 = .ok (.invokevirtual 170, 3) := by decide +kernel
theorem dX9_spreadIn_6 : decode cX9_spreadIn 6 = .ok (.aload_n 0, 1) := by decide +kernel
theorem dX9_spreadIn_7 : decode cX9_spreadIn 7 = .ok (.invokevirtual 188, 3) := by decide +kernel
theorem dX9_spreadIn_10 : decode cX9_spreadIn 10 = .ok (.lreturn, 1) := by decide +kernel
theorem dX9_gain_0 : decode cX9_gain 0 = .ok (.iload_n 2, 1) := by decide +kernel
theorem dX9_gain_1 : decode cX9_gain 1 = .ok (.iconst 0, 1) := by decide +kernel
theorem dX9_gain_2 : decode cX9_gain 2 = .ok (.iconst 3, 1) := by decide +kernel
theorem dX9_gain_3 : decode cX9_gain 3 = .ok (.invokestatic 63, 3) := by decide +kernel
theorem dX9_gain_6 : decode cX9_gain 6 = .ok (.ifCond .eq 22, 3) := by decide +kernel
theorem dX9_gain_9 : decode cX9_gain 9 = .ok (.iload_n 1, 1) := by decide +kernel
theorem dX9_gain_10 : decode cX9_gain 10 = .ok (.iload_n 2, 1) := by decide +kernel
theorem dX9_gain_11 : decode cX9_gain 11 = .ok (.iconst 2, 1) := by decide +kernel
theorem dX9_gain_12 : decode cX9_gain 12 = .ok (.if_icmp .ge 7, 3) := by decide +kernel
theorem dX9_gain_15 : decode cX9_gain 15 = .ok (.iconst 1, 1) := by decide +kernel
theorem dX9_gain_16 : decode cX9_gain 16 = .ok (.goto 4, 3) := by decide +kernel
theorem dX9_gain_19 : decode cX9_gain 19 = .ok (.iconst 2, 1) := by decide +kernel
theorem dX9_gain_20 : decode cX9_gain 20 = .ok (.bipush 6, 2) := by decide +kernel
theorem dX9_gain_22 : decode cX9_gain 22 = .ok (.invokestatic 63, 3) := by decide +kernel
theorem dX9_gain_25 : decode cX9_gain 25 = .ok (.ifCond .ne 7, 3) := by decide +kernel
theorem dX9_gain_28 : decode cX9_gain 28 = .ok (.ldc2_w 186, 3) := by decide +kernel
theorem dX9_gain_31 : decode cX9_gain 31 = .ok (.lreturn, 1) := by decide +kernel
theorem dX9_gain_32 : decode cX9_gain 32 = .ok (.aload_n 0, 1) := by decide +kernel
theorem dX9_gain_33 : decode cX9_gain 33 = .ok (.iload_n 1, 1) := by decide +kernel
theorem dX9_gain_34 : decode cX9_gain 34 = .ok (.invokevirtual 196, 3) := by decide +kernel
theorem dX9_gain_37 : decode cX9_gain 37 = .ok (.lstore_n 3, 1) := by decide +kernel
theorem dX9_gain_38 : decode cX9_gain 38 = .ok (.iload_n 2, 1) := by decide +kernel
theorem dX9_gain_39 : decode cX9_gain 39 = .ok (.iconst 2, 1) := by decide +kernel
theorem dX9_gain_40 : decode cX9_gain 40 = .ok (.if_icmp .ge 11, 3) := by decide +kernel
theorem dX9_gain_43 : decode cX9_gain 43 = .ok (.lload_n 3, 1) := by decide +kernel
theorem dX9_gain_44 : decode cX9_gain 44 = .ok (.iload_n 2, 1) := by decide +kernel
theorem dX9_gain_45 : decode cX9_gain 45 = .ok (.invokestatic 192, 3) := by decide +kernel
theorem dX9_gain_48 : decode cX9_gain 48 = .ok (.goto 18, 3) := by decide +kernel
theorem dX9_gain_51 : decode cX9_gain 51 = .ok (.aload_n 0, 1) := by decide +kernel
theorem dX9_gain_52 : decode cX9_gain 52 = .ok (.iload_n 1, 1) := by decide +kernel
theorem dX9_gain_53 : decode cX9_gain 53 = .ok (.iconst 1, 1) := by decide +kernel
theorem dX9_gain_54 : decode cX9_gain 54 = .ok (.isub, 1) := by decide +kernel
theorem dX9_gain_55 : decode cX9_gain 55 = .ok (.invokevirtual 196, 3) := by decide +kernel
theorem dX9_gain_58 : decode cX9_gain 58 = .ok (.lload_n 3, 1) := by decide +kernel
theorem dX9_gain_59 : decode cX9_gain 59 = .ok (.lsub, 1) := by decide +kernel
theorem dX9_gain_60 : decode cX9_gain 60 = .ok (.iload_n 2, 1) := by decide +kernel
theorem dX9_gain_61 : decode cX9_gain 61 = .ok (.iconst 2, 1) := by decide +kernel
theorem dX9_gain_62 : decode cX9_gain 62 = .ok (.isub, 1) := by decide +kernel
theorem dX9_gain_63 : decode cX9_gain 63 = .ok (.invokestatic 192, 3) := by decide +kernel
theorem dX9_gain_66 : decode cX9_gain 66 = .ok (.lreturn, 1) := by decide +kernel
theorem dX9_setEnding_0 : decode cX9_setEnding 0 = .ok (.bipush 25, 2) := by decide +kernel
theorem dX9_setEnding_2 : decode cX9_setEnding 2 = .ok (.iload_n 1, 1) := by decide +kernel
theorem dX9_setEnding_3 : decode cX9_setEnding 3 = .ok (.imul, 1) := by decide +kernel
theorem dX9_setEnding_4 : decode cX9_setEnding 4 = .ok (.iload_n 2, 1) := by decide +kernel
theorem dX9_setEnding_5 : decode cX9_setEnding 5 = .ok (.iadd, 1) := by decide +kernel
theorem dX9_setEnding_6 : decode cX9_setEnding 6 = .ok (.istore_n 3, 1) := by decide +kernel
theorem dX9_setEnding_7 : decode cX9_setEnding 7 = .ok (.aload_n 0, 1) := by decide +kernel
theorem dX9_setEnding_8 : decode cX9_setEnding 8 = .ok (.getfield 54, 3) := by decide +kernel
theorem dX9_setEnding_11 : decode cX9_setEnding 11 = .ok (.iload_n 3, 1) := by decide +kernel
theorem dX9_setEnding_12 : decode cX9_setEnding 12 = .ok (.iload_n 1, 1) := by decide +kernel
theorem dX9_setEnding_13 : decode cX9_setEnding 13 = .ok (.iconst 1, 1) := by decide +kernel
theorem dX9_setEnding_14 : decode cX9_setEnding 14 = .ok (.if_icmp .ne 12, 3) := by decide +kernel
theorem dX9_setEnding_17 : decode cX9_setEnding 17 = .ok (.aload_n 0, 1) := by decide +kernel
theorem dX9_setEnding_18 : decode cX9_setEnding 18 = .ok (.iconst 0, 1) := by decide +kernel
theorem dX9_setEnding_19 : decode cX9_setEnding 19 = .ok (.iload_n 2, 1) := by decide +kernel
theorem dX9_setEnding_20 : decode cX9_setEnding 20 = .ok (.invokevirtual 152, 3) := by decide +kernel
theorem dX9_setEnding_23 : decode cX9_setEnding 23 = .ok (.goto 6, 3) := by decide +kernel
theorem dX9_setEnding_26 : decode cX9_setEnding 26 = .ok (.ldc2_w 150, 3) := by decide +kernel
theorem dX9_setEnding_29 : decode cX9_setEnding 29 = .ok (.lastore, 1) := by decide +kernel
theorem dX9_setEnding_30 : decode cX9_setEnding 30 = .ok (.aload_n 0, 1) := by decide +kernel
theorem dX9_setEnding_31 : decode cX9_setEnding 31 = .ok (.getfield 57, 3) := by decide +kernel
theorem dX9_setEnding_34 : decode cX9_setEnding 34 = .ok (.iload_n 3, 1) := by decide +kernel
theorem dX9_setEnding_35 : decode cX9_setEnding 35 = .ok (.iconst 0, 1) := by decide +kernel
theorem dX9_setEnding_36 : decode cX9_setEnding 36 = .ok (.iastore, 1) := by decide +kernel
theorem dX9_setEnding_37 : decode cX9_setEnding 37 = .ok (.iload_n 1, 1) := by decide +kernel
theorem dX9_setEnding_38 : decode cX9_setEnding 38 = .ok (.iconst 1, 1) := by decide +kernel
theorem dX9_setEnding_39 : decode cX9_setEnding 39 = .ok (.isub, 1) := by decide +kernel
theorem dX9_setEnding_40 : decode cX9_setEnding 40 = .ok (.istore 4, 2) := by decide +kernel
theorem dX9_setEnding_42 : decode cX9_setEnding 42 = .ok (.iload 4, 2) := by decide +kernel
theorem dX9_setEnding_44 : decode cX9_setEnding 44 = .ok (.iload_n 2, 1) := by decide +kernel
theorem dX9_setEnding_45 : decode cX9_setEnding 45 = .ok (.if_icmp .ge 66, 3) := by decide +kernel
theorem dX9_setEnding_48 : decode cX9_setEnding 48 = .ok (.iload_n 1, 1) := by decide +kernel
theorem dX9_setEnding_49 : decode cX9_setEnding 49 = .ok (.iconst 1, 1) := by decide +kernel
theorem dX9_setEnding_50 : decode cX9_setEnding 50 = .ok (.if_icmp .le 61, 3) := by decide +kernel
theorem dX9_setEnding_53 : decode cX9_setEnding 53 = .ok (.aload_n 0, 1) := by decide +kernel
theorem dX9_setEnding_54 : decode cX9_setEnding 54 = .ok (.getfield 54, 3) := by decide +kernel
theorem dX9_setEnding_57 : decode cX9_setEnding 57 = .ok (.bipush 25, 2) := by decide +kernel
theorem dX9_setEnding_59 : decode cX9_setEnding 59 = .ok (.iload_n 1, 1) := by decide +kernel
theorem dX9_setEnding_60 : decode cX9_setEnding 60 = .ok (.iconst 1, 1) := by decide +kernel
theorem dX9_setEnding_61 : decode cX9_setEnding 61 = .ok (.isub, 1) := by decide +kernel
theorem dX9_setEnding_62 : decode cX9_setEnding 62 = .ok (.imul, 1) := by decide +kernel
theorem dX9_setEnding_63 : decode cX9_setEnding 63 = .ok (.iload 4, 2) := by decide +kernel
theorem dX9_setEnding_65 : decode cX9_setEnding 65 = .ok (.iadd, 1) := by decide +kernel
theorem dX9_setEnding_66 : decode cX9_setEnding 66 = .ok (.laload, 1) := by decide +kernel
theorem dX9_setEnding_67 : decode cX9_setEnding 67 = .ok (.aload_n 0, 1) := by decide +kernel
theorem dX9_setEnding_68 : decode cX9_setEnding 68 = .ok (.iload 4, 2) := by decide +kernel
theorem dX9_setEnding_70 : decode cX9_setEnding 70 = .ok (.iload_n 2, 1) := by decide +kernel
theorem dX9_setEnding_71 : decode cX9_setEnding 71 = .ok (.invokevirtual 152, 3) := by decide +kernel
theorem dX9_setEnding_74 : decode cX9_setEnding 74 = .ok (.ladd, 1) := by decide +kernel
theorem dX9_setEnding_75 : decode cX9_setEnding 75 = .ok (.lstore 5, 2) := by decide +kernel
theorem dX9_setEnding_77 : decode cX9_setEnding 77 = .ok (.lload 5, 2) := by decide +kernel
theorem dX9_setEnding_79 : decode cX9_setEnding 79 = .ok (.aload_n 0, 1) := by decide +kernel
theorem dX9_setEnding_80 : decode cX9_setEnding 80 = .ok (.getfield 54, 3) := by decide +kernel
theorem dX9_setEnding_83 : decode cX9_setEnding 83 = .ok (.iload_n 3, 1) := by decide +kernel
theorem dX9_setEnding_84 : decode cX9_setEnding 84 = .ok (.laload, 1) := by decide +kernel
theorem dX9_setEnding_85 : decode cX9_setEnding 85 = .ok (.lcmp, 1) := by decide +kernel
theorem dX9_setEnding_86 : decode cX9_setEnding 86 = .ok (.ifCond .ge 19, 3) := by decide +kernel
theorem dX9_setEnding_89 : decode cX9_setEnding 89 = .ok (.aload_n 0, 1) := by decide +kernel
theorem dX9_setEnding_90 : decode cX9_setEnding 90 = .ok (.getfield 54, 3) := by decide +kernel
theorem dX9_setEnding_93 : decode cX9_setEnding 93 = .ok (.iload_n 3, 1) := by decide +kernel
theorem dX9_setEnding_94 : decode cX9_setEnding 94 = .ok (.lload 5, 2) := by decide +kernel
theorem dX9_setEnding_96 : decode cX9_setEnding 96 = .ok (.lastore, 1) := by decide +kernel
theorem dX9_setEnding_97 : decode cX9_setEnding 97 = .ok (.aload_n 0, 1) := by decide +kernel
theorem dX9_setEnding_98 : decode cX9_setEnding 98 = .ok (.getfield 57, 3) := by decide +kernel
theorem dX9_setEnding_101 : decode cX9_setEnding 101 = .ok (.iload_n 3, 1) := by decide +kernel
theorem dX9_setEnding_102 : decode cX9_setEnding 102 = .ok (.iload 4, 2) := by decide +kernel
theorem dX9_setEnding_104 : decode cX9_setEnding 104 = .ok (.iastore, 1) := by decide +kernel
theorem dX9_setEnding_105 : decode cX9_setEnding 105 = .ok (.iinc 4 1, 3) := by decide +kernel
theorem dX9_setEnding_108 : decode cX9_setEnding 108 = .ok (.goto (-66), 3) := by decide +kernel
theorem dX9_setEnding_111 : decode cX9_setEnding 111 = .ok (.return_, 1) := by decide +kernel
theorem dX9_last_0 : decode cX9_last 0 = .ok (.aload_n 0, 1) := by decide +kernel
theorem dX9_last_1 : decode cX9_last 1 = .ok (.invokevirtual 160, 3) := by decide +kernel
theorem dX9_last_4 : decode cX9_last 4 = .ok (.iload_n 1, 1) := by decide +kernel
theorem dX9_last_5 : decode cX9_last 5 = .ok (.iconst 1, 1) := by decide +kernel
theorem dX9_last_6 : decode cX9_last 6 = .ok (.bipush 6, 2) := by decide +kernel
theorem dX9_last_8 : decode cX9_last 8 = .ok (.invokestatic 63, 3) := by decide +kernel
theorem dX9_last_11 : decode cX9_last 11 = .ok (.ifCond .eq 15, 3) := by decide +kernel
theorem dX9_last_14 : decode cX9_last 14 = .ok (.iload_n 2, 1) := by decide +kernel
theorem dX9_last_15 : decode cX9_last 15 = .ok (.iconst 1, 1) := by decide +kernel
theorem dX9_last_16 : decode cX9_last 16 = .ok (.aload_n 0, 1) := by decide +kernel
theorem dX9_last_17 : decode cX9_last 17 = .ok (.getfield 142, 3) := by decide +kernel
theorem dX9_last_20 : decode cX9_last 20 = .ok (.invokestatic 63, 3) := by decide +kernel
theorem dX9_last_23 : decode cX9_last 23 = .ok (.ifCond .ne 5, 3) := by decide +kernel
theorem dX9_last_26 : decode cX9_last 26 = .ok (.iconst (-1), 1) := by decide +kernel
theorem dX9_last_27 : decode cX9_last 27 = .ok (.ireturn, 1) := by decide +kernel
theorem dX9_last_28 : decode cX9_last 28 = .ok (.iload_n 2, 1) := by decide +kernel
theorem dX9_last_29 : decode cX9_last 29 = .ok (.iload_n 1, 1) := by decide +kernel
theorem dX9_last_30 : decode cX9_last 30 = .ok (.if_icmp .ge 6, 3) := by decide +kernel
theorem dX9_last_33 : decode cX9_last 33 = .ok (.bipush (-9), 2) := by decide +kernel
theorem dX9_last_35 : decode cX9_last 35 = .ok (.ireturn, 1) := by decide +kernel
theorem dX9_last_36 : decode cX9_last 36 = .ok (.iconst 1, 1) := by decide +kernel
theorem dX9_last_37 : decode cX9_last 37 = .ok (.istore_n 3, 1) := by decide +kernel
theorem dX9_last_38 : decode cX9_last 38 = .ok (.iload_n 3, 1) := by decide +kernel
theorem dX9_last_39 : decode cX9_last 39 = .ok (.iload_n 1, 1) := by decide +kernel
theorem dX9_last_40 : decode cX9_last 40 = .ok (.if_icmp .gt 31, 3) := by decide +kernel
theorem dX9_last_43 : decode cX9_last 43 = .ok (.iload_n 3, 1) := by decide +kernel
theorem dX9_last_44 : decode cX9_last 44 = .ok (.istore 4, 2) := by decide +kernel
theorem dX9_last_46 : decode cX9_last 46 = .ok (.iload 4, 2) := by decide +kernel
theorem dX9_last_48 : decode cX9_last 48 = .ok (.iload_n 2, 1) := by decide +kernel
theorem dX9_last_49 : decode cX9_last 49 = .ok (.if_icmp .gt 16, 3) := by decide +kernel
theorem dX9_last_52 : decode cX9_last 52 = .ok (.aload_n 0, 1) := by decide +kernel
theorem dX9_last_53 : decode cX9_last 53 = .ok (.iload_n 3, 1) := by decide +kernel
theorem dX9_last_54 : decode cX9_last 54 = .ok (.iload 4, 2) := by decide +kernel
theorem dX9_last_56 : decode cX9_last 56 = .ok (.invokevirtual 200, 3) := by decide +kernel
theorem dX9_last_59 : decode cX9_last 59 = .ok (.iinc 4 1, 3) := by decide +kernel
theorem dX9_last_62 : decode cX9_last 62 = .ok (.goto (-16), 3) := by decide +kernel
theorem dX9_last_65 : decode cX9_last 65 = .ok (.iinc 3 1, 3) := by decide +kernel
theorem dX9_last_68 : decode cX9_last 68 = .ok (.goto (-30), 3) := by decide +kernel
theorem dX9_last_71 : decode cX9_last 71 = .ok (.aload_n 0, 1) := by decide +kernel
theorem dX9_last_72 : decode cX9_last 72 = .ok (.getfield 57, 3) := by decide +kernel
theorem dX9_last_75 : decode cX9_last 75 = .ok (.bipush 25, 2) := by decide +kernel
theorem dX9_last_77 : decode cX9_last 77 = .ok (.iload_n 1, 1) := by decide +kernel
theorem dX9_last_78 : decode cX9_last 78 = .ok (.imul, 1) := by decide +kernel
theorem dX9_last_79 : decode cX9_last 79 = .ok (.iload_n 2, 1) := by decide +kernel
theorem dX9_last_80 : decode cX9_last 80 = .ok (.iadd, 1) := by decide +kernel
theorem dX9_last_81 : decode cX9_last 81 = .ok (.iaload, 1) := by decide +kernel
theorem dX9_last_82 : decode cX9_last 82 = .ok (.ireturn, 1) := by decide +kernel
theorem dX9_enough_0 : decode cX9_enough 0 = .ok (.iload_n 1, 1) := by decide +kernel
theorem dX9_enough_1 : decode cX9_enough 1 = .ok (.iconst 0, 1) := by decide +kernel
theorem dX9_enough_2 : decode cX9_enough 2 = .ok (.bipush 100, 2) := by decide +kernel
theorem dX9_enough_4 : decode cX9_enough 4 = .ok (.invokestatic 63, 3) := by decide +kernel
theorem dX9_enough_7 : decode cX9_enough 7 = .ok (.ifCond .ne 5, 3) := by decide +kernel
theorem dX9_enough_10 : decode cX9_enough 10 = .ok (.iconst (-1), 1) := by decide +kernel
theorem dX9_enough_11 : decode cX9_enough 11 = .ok (.ireturn, 1) := by decide +kernel
theorem dX9_enough_12 : decode cX9_enough 12 = .ok (.aload_n 0, 1) := by decide +kernel
theorem dX9_enough_13 : decode cX9_enough 13 = .ok (.iconst 1, 1) := by decide +kernel
theorem dX9_enough_14 : decode cX9_enough 14 = .ok (.invokevirtual 196, 3) := by decide +kernel
theorem dX9_enough_17 : decode cX9_enough 17 = .ok (.lstore_n 2, 1) := by decide +kernel
theorem dX9_enough_18 : decode cX9_enough 18 = .ok (.iconst 1, 1) := by decide +kernel
theorem dX9_enough_19 : decode cX9_enough 19 = .ok (.istore 4, 2) := by decide +kernel
theorem dX9_enough_21 : decode cX9_enough 21 = .ok (.iload 4, 2) := by decide +kernel
theorem dX9_enough_23 : decode cX9_enough 23 = .ok (.bipush 7, 2) := by decide +kernel
theorem dX9_enough_25 : decode cX9_enough 25 = .ok (.if_icmp .ge 26, 3) := by decide +kernel
theorem dX9_enough_28 : decode cX9_enough 28 = .ok (.aload_n 0, 1) := by decide +kernel
theorem dX9_enough_29 : decode cX9_enough 29 = .ok (.iload 4, 2) := by decide +kernel
theorem dX9_enough_31 : decode cX9_enough 31 = .ok (.invokevirtual 196, 3) := by decide +kernel
theorem dX9_enough_34 : decode cX9_enough 34 = .ok (.lload_n 2, 1) := by decide +kernel
theorem dX9_enough_35 : decode cX9_enough 35 = .ok (.iload_n 1, 1) := by decide +kernel
theorem dX9_enough_36 : decode cX9_enough 36 = .ok (.invokestatic 204, 3) := by decide +kernel
theorem dX9_enough_39 : decode cX9_enough 39 = .ok (.ifCond .eq 6, 3) := by decide +kernel
theorem dX9_enough_42 : decode cX9_enough 42 = .ok (.iload 4, 2) := by decide +kernel
theorem dX9_enough_44 : decode cX9_enough 44 = .ok (.ireturn, 1) := by decide +kernel
theorem dX9_enough_45 : decode cX9_enough 45 = .ok (.iinc 4 1, 3) := by decide +kernel
theorem dX9_enough_48 : decode cX9_enough 48 = .ok (.goto (-27), 3) := by decide +kernel
theorem dX9_enough_51 : decode cX9_enough 51 = .ok (.bipush (-9), 2) := by decide +kernel
theorem dX9_enough_53 : decode cX9_enough 53 = .ok (.ireturn, 1) := by decide +kernel
theorem dX9_isNoMore_0 : decode cX9_isNoMore 0 = .ok (.lload_n 2, 1) := by decide +kernel
theorem dX9_isNoMore_1 : decode cX9_isNoMore 1 = .ok (.ldc2_w 208, 3) := by decide +kernel
theorem dX9_isNoMore_4 : decode cX9_isNoMore 4 = .ok (.ldiv, 1) := by decide +kernel
theorem dX9_isNoMore_5 : decode cX9_isNoMore 5 = .ok (.iload 4, 2) := by decide +kernel
theorem dX9_isNoMore_7 : decode cX9_isNoMore 7 = .ok (.i2l, 1) := by decide +kernel
theorem dX9_isNoMore_8 : decode cX9_isNoMore 8 = .ok (.lmul, 1) := by decide +kernel
theorem dX9_isNoMore_9 : decode cX9_isNoMore 9 = .ok (.lstore 5, 2) := by decide +kernel
theorem dX9_isNoMore_11 : decode cX9_isNoMore 11 = .ok (.lload_n 2, 1) := by decide +kernel
theorem dX9_isNoMore_12 : decode cX9_isNoMore 12 = .ok (.ldc2_w 208, 3) := by decide +kernel
theorem dX9_isNoMore_15 : decode cX9_isNoMore 15 = .ok (.lrem, 1) := by decide +kernel
theorem dX9_isNoMore_16 : decode cX9_isNoMore 16 = .ok (.iload 4, 2) := by decide +kernel
theorem dX9_isNoMore_18 : decode cX9_isNoMore 18 = .ok (.i2l, 1) := by decide +kernel
theorem dX9_isNoMore_19 : decode cX9_isNoMore 19 = .ok (.lmul, 1) := by decide +kernel
theorem dX9_isNoMore_20 : decode cX9_isNoMore 20 = .ok (.lstore 7, 2) := by decide +kernel
theorem dX9_isNoMore_22 : decode cX9_isNoMore 22 = .ok (.lload_n 0, 1) := by decide +kernel
theorem dX9_isNoMore_23 : decode cX9_isNoMore 23 = .ok (.lload 5, 2) := by decide +kernel
theorem dX9_isNoMore_25 : decode cX9_isNoMore 25 = .ok (.lcmp, 1) := by decide +kernel
theorem dX9_isNoMore_26 : decode cX9_isNoMore 26 = .ok (.ifCond .lt 17, 3) := by decide +kernel
theorem dX9_isNoMore_29 : decode cX9_isNoMore 29 = .ok (.lload_n 0, 1) := by decide +kernel
theorem dX9_isNoMore_30 : decode cX9_isNoMore 30 = .ok (.lload 5, 2) := by decide +kernel
theorem dX9_isNoMore_32 : decode cX9_isNoMore 32 = .ok (.lsub, 1) := by decide +kernel
theorem dX9_isNoMore_33 : decode cX9_isNoMore 33 = .ok (.lload 7, 2) := by decide +kernel
theorem dX9_isNoMore_35 : decode cX9_isNoMore 35 = .ok (.ldc2_w 208, 3) := by decide +kernel
theorem dX9_isNoMore_38 : decode cX9_isNoMore 38 = .ok (.ldiv, 1) := by decide +kernel
theorem dX9_isNoMore_39 : decode cX9_isNoMore 39 = .ok (.lcmp, 1) := by decide +kernel
theorem dX9_isNoMore_40 : decode cX9_isNoMore 40 = .ok (.ifCond .gt 7, 3) := by decide +kernel
theorem dX9_isNoMore_43 : decode cX9_isNoMore 43 = .ok (.iconst 1, 1) := by decide +kernel
theorem dX9_isNoMore_44 : decode cX9_isNoMore 44 = .ok (.goto 4, 3) := by decide +kernel
theorem dX9_isNoMore_47 : decode cX9_isNoMore 47 = .ok (.iconst 0, 1) := by decide +kernel
theorem dX9_isNoMore_48 : decode cX9_isNoMore 48 = .ok (.ireturn, 1) := by decide +kernel
theorem dX9_keep_0 : decode cX9_keep 0 = .ok (.iload_n 1, 1) := by decide +kernel
theorem dX9_keep_1 : decode cX9_keep 1 = .ok (.iconst 0, 1) := by decide +kernel
theorem dX9_keep_2 : decode cX9_keep 2 = .ok (.iconst 1, 1) := by decide +kernel
theorem dX9_keep_3 : decode cX9_keep 3 = .ok (.invokestatic 63, 3) := by decide +kernel
theorem dX9_keep_6 : decode cX9_keep 6 = .ok (.ifCond .ne 5, 3) := by decide +kernel
theorem dX9_keep_9 : decode cX9_keep 9 = .ok (.iconst (-1), 1) := by decide +kernel
theorem dX9_keep_10 : decode cX9_keep 10 = .ok (.ireturn, 1) := by decide +kernel
theorem dX9_keep_11 : decode cX9_keep 11 = .ok (.aload_n 0, 1) := by decide +kernel
theorem dX9_keep_12 : decode cX9_keep 12 = .ok (.getfield 35, 3) := by decide +kernel
theorem dX9_keep_15 : decode cX9_keep 15 = .ok (.bipush 58, 2) := by decide +kernel
theorem dX9_keep_17 : decode cX9_keep 17 = .ok (.iload_n 1, 1) := by decide +kernel
theorem dX9_keep_18 : decode cX9_keep 18 = .ok (.imul, 1) := by decide +kernel
theorem dX9_keep_19 : decode cX9_keep 19 = .ok (.iconst 1, 1) := by decide +kernel
theorem dX9_keep_20 : decode cX9_keep 20 = .ok (.iastore, 1) := by decide +kernel
theorem dX9_keep_21 : decode cX9_keep 21 = .ok (.aload_n 0, 1) := by decide +kernel
theorem dX9_keep_22 : decode cX9_keep 22 = .ok (.aload_n 0, 1) := by decide +kernel
theorem dX9_keep_23 : decode cX9_keep 23 = .ok (.getfield 35, 3) := by decide +kernel
theorem dX9_keep_26 : decode cX9_keep 26 = .ok (.bipush 58, 2) := by decide +kernel
theorem dX9_keep_28 : decode cX9_keep 28 = .ok (.iload_n 1, 1) := by decide +kernel
theorem dX9_keep_29 : decode cX9_keep 29 = .ok (.imul, 1) := by decide +kernel
theorem dX9_keep_30 : decode cX9_keep 30 = .ok (.iconst 1, 1) := by decide +kernel
theorem dX9_keep_31 : decode cX9_keep 31 = .ok (.iadd, 1) := by decide +kernel
theorem dX9_keep_32 : decode cX9_keep 32 = .ok (.invokevirtual 125, 3) := by decide +kernel
theorem dX9_keep_35 : decode cX9_keep 35 = .ok (.aload_n 0, 1) := by decide +kernel
theorem dX9_keep_36 : decode cX9_keep 36 = .ok (.getfield 60, 3) := by decide +kernel
theorem dX9_keep_39 : decode cX9_keep 39 = .ok (.ireturn, 1) := by decide +kernel
theorem dX9_back_0 : decode cX9_back 0 = .ok (.iload_n 1, 1) := by decide +kernel
theorem dX9_back_1 : decode cX9_back 1 = .ok (.iconst 0, 1) := by decide +kernel
theorem dX9_back_2 : decode cX9_back 2 = .ok (.iconst 1, 1) := by decide +kernel
theorem dX9_back_3 : decode cX9_back 3 = .ok (.invokestatic 63, 3) := by decide +kernel
theorem dX9_back_6 : decode cX9_back 6 = .ok (.ifCond .ne 5, 3) := by decide +kernel
theorem dX9_back_9 : decode cX9_back 9 = .ok (.iconst (-1), 1) := by decide +kernel
theorem dX9_back_10 : decode cX9_back 10 = .ok (.ireturn, 1) := by decide +kernel
theorem dX9_back_11 : decode cX9_back 11 = .ok (.aload_n 0, 1) := by decide +kernel
theorem dX9_back_12 : decode cX9_back 12 = .ok (.getfield 35, 3) := by decide +kernel
theorem dX9_back_15 : decode cX9_back 15 = .ok (.bipush 58, 2) := by decide +kernel
theorem dX9_back_17 : decode cX9_back 17 = .ok (.iload_n 1, 1) := by decide +kernel
theorem dX9_back_18 : decode cX9_back 18 = .ok (.imul, 1) := by decide +kernel
theorem dX9_back_19 : decode cX9_back 19 = .ok (.iaload, 1) := by decide +kernel
theorem dX9_back_20 : decode cX9_back 20 = .ok (.ifCond .ne 6, 3) := by decide +kernel
theorem dX9_back_23 : decode cX9_back 23 = .ok (.bipush (-2), 2) := by decide +kernel
theorem dX9_back_25 : decode cX9_back 25 = .ok (.ireturn, 1) := by decide +kernel
theorem dX9_back_26 : decode cX9_back 26 = .ok (.aload_n 0, 1) := by decide +kernel
theorem dX9_back_27 : decode cX9_back 27 = .ok (.aload_n 0, 1) := by decide +kernel
theorem dX9_back_28 : decode cX9_back 28 = .ok (.getfield 35, 3) := by decide +kernel
theorem dX9_back_31 : decode cX9_back 31 = .ok (.bipush 58, 2) := by decide +kernel
theorem dX9_back_33 : decode cX9_back 33 = .ok (.iload_n 1, 1) := by decide +kernel
theorem dX9_back_34 : decode cX9_back 34 = .ok (.imul, 1) := by decide +kernel
theorem dX9_back_35 : decode cX9_back 35 = .ok (.iconst 1, 1) := by decide +kernel
theorem dX9_back_36 : decode cX9_back 36 = .ok (.iadd, 1) := by decide +kernel
theorem dX9_back_37 : decode cX9_back 37 = .ok (.invokevirtual 139, 3) := by decide +kernel
theorem dX9_back_40 : decode cX9_back 40 = .ok (.aload_n 0, 1) := by decide +kernel
theorem dX9_back_41 : decode cX9_back 41 = .ok (.iconst 0, 1) := by decide +kernel
theorem dX9_back_42 : decode cX9_back 42 = .ok (.putfield 122, 3) := by decide +kernel
theorem dX9_back_45 : decode cX9_back 45 = .ok (.aload_n 0, 1) := by decide +kernel
theorem dX9_back_46 : decode cX9_back 46 = .ok (.getfield 60, 3) := by decide +kernel
theorem dX9_back_49 : decode cX9_back 49 = .ok (.ireturn, 1) := by decide +kernel
theorem dX9_sum_0 : decode cX9_sum 0 = .ok (.iconst 0, 1) := by decide +kernel
theorem dX9_sum_1 : decode cX9_sum 1 = .ok (.istore_n 1, 1) := by decide +kernel
theorem dX9_sum_2 : decode cX9_sum 2 = .ok (.iconst 0, 1) := by decide +kernel
theorem dX9_sum_3 : decode cX9_sum 3 = .ok (.istore_n 2, 1) := by decide +kernel
theorem dX9_sum_4 : decode cX9_sum 4 = .ok (.iload_n 2, 1) := by decide +kernel
theorem dX9_sum_5 : decode cX9_sum 5 = .ok (.aload_n 0, 1) := by decide +kernel
theorem dX9_sum_6 : decode cX9_sum 6 = .ok (.getfield 60, 3) := by decide +kernel
theorem dX9_sum_9 : decode cX9_sum 9 = .ok (.if_icmp .ge 18, 3) := by decide +kernel
theorem dX9_sum_12 : decode cX9_sum 12 = .ok (.iload_n 1, 1) := by decide +kernel
theorem dX9_sum_13 : decode cX9_sum 13 = .ok (.aload_n 0, 1) := by decide +kernel
theorem dX9_sum_14 : decode cX9_sum 14 = .ok (.getfield 17, 3) := by decide +kernel
theorem dX9_sum_17 : decode cX9_sum 17 = .ok (.iload_n 2, 1) := by decide +kernel
theorem dX9_sum_18 : decode cX9_sum 18 = .ok (.iaload, 1) := by decide +kernel
theorem dX9_sum_19 : decode cX9_sum 19 = .ok (.iadd, 1) := by decide +kernel
theorem dX9_sum_20 : decode cX9_sum 20 = .ok (.istore_n 1, 1) := by decide +kernel
theorem dX9_sum_21 : decode cX9_sum 21 = .ok (.iinc 2 1, 3) := by decide +kernel
theorem dX9_sum_24 : decode cX9_sum 24 = .ok (.goto (-20), 3) := by decide +kernel
theorem dX9_sum_27 : decode cX9_sum 27 = .ok (.iload_n 1, 1) := by decide +kernel
theorem dX9_sum_28 : decode cX9_sum 28 = .ok (.ireturn, 1) := by decide +kernel
theorem dX9_count_0 : decode cX9_count 0 = .ok (.iload_n 1, 1) := by decide +kernel
theorem dX9_count_1 : decode cX9_count 1 = .ok (.iconst 0, 1) := by decide +kernel
theorem dX9_count_2 : decode cX9_count 2 = .ok (.bipush 7, 2) := by decide +kernel
theorem dX9_count_4 : decode cX9_count 4 = .ok (.invokestatic 63, 3) := by decide +kernel
theorem dX9_count_7 : decode cX9_count 7 = .ok (.ifCond .ne 5, 3) := by decide +kernel
theorem dX9_count_10 : decode cX9_count 10 = .ok (.iconst (-1), 1) := by decide +kernel
theorem dX9_count_11 : decode cX9_count 11 = .ok (.ireturn, 1) := by decide +kernel
theorem dX9_count_12 : decode cX9_count 12 = .ok (.iload_n 1, 1) := by decide +kernel
theorem dX9_count_13 : decode cX9_count 13 = .ok (.tableswitch 96 0 6 #[43, 48, 57, 62, 67, 86, 91], 43) := by decide +kernel
theorem dX9_count_56 : decode cX9_count 56 = .ok (.aload_n 0, 1) := by decide +kernel
theorem dX9_count_57 : decode cX9_count 57 = .ok (.getfield 60, 3) := by decide +kernel
theorem dX9_count_60 : decode cX9_count 60 = .ok (.ireturn, 1) := by decide +kernel
theorem dX9_count_61 : decode cX9_count 61 = .ok (.aload_n 0, 1) := by decide +kernel
theorem dX9_count_62 : decode cX9_count 62 = .ok (.invokevirtual 160, 3) := by decide +kernel
theorem dX9_count_65 : decode cX9_count 65 = .ok (.aload_n 0, 1) := by decide +kernel
theorem dX9_count_66 : decode cX9_count 66 = .ok (.getfield 142, 3) := by decide +kernel
theorem dX9_count_69 : decode cX9_count 69 = .ok (.ireturn, 1) := by decide +kernel
theorem dX9_count_70 : decode cX9_count 70 = .ok (.aload_n 0, 1) := by decide +kernel
theorem dX9_count_71 : decode cX9_count 71 = .ok (.getfield 7, 3) := by decide +kernel
theorem dX9_count_74 : decode cX9_count 74 = .ok (.ireturn, 1) := by decide +kernel
theorem dX9_count_75 : decode cX9_count 75 = .ok (.aload_n 0, 1) := by decide +kernel
theorem dX9_count_76 : decode cX9_count 76 = .ok (.getfield 116, 3) := by decide +kernel
theorem dX9_count_79 : decode cX9_count 79 = .ok (.ireturn, 1) := by decide +kernel
theorem dX9_count_80 : decode cX9_count 80 = .ok (.aload_n 0, 1) := by decide +kernel
theorem dX9_count_81 : decode cX9_count 81 = .ok (.getfield 119, 3) := by decide +kernel
theorem dX9_count_84 : decode cX9_count 84 = .ok (.ifCond .ne 8, 3) := by decide +kernel
theorem dX9_count_87 : decode cX9_count 87 = .ok (.bipush (-9), 2) := by decide +kernel
theorem dX9_count_89 : decode cX9_count 89 = .ok (.goto 9, 3) := by decide +kernel
theorem dX9_count_92 : decode cX9_count 92 = .ok (.aload_n 0, 1) := by decide +kernel
theorem dX9_count_93 : decode cX9_count 93 = .ok (.getfield 119, 3) := by decide +kernel
theorem dX9_count_96 : decode cX9_count 96 = .ok (.iconst 1, 1) := by decide +kernel
theorem dX9_count_97 : decode cX9_count 97 = .ok (.isub, 1) := by decide +kernel
theorem dX9_count_98 : decode cX9_count 98 = .ok (.ireturn, 1) := by decide +kernel
theorem dX9_count_99 : decode cX9_count 99 = .ok (.aload_n 0, 1) := by decide +kernel
theorem dX9_count_100 : decode cX9_count 100 = .ok (.invokevirtual 210, 3) := by decide +kernel
theorem dX9_count_103 : decode cX9_count 103 = .ok (.ireturn, 1) := by decide +kernel
theorem dX9_count_104 : decode cX9_count 104 = .ok (.aload_n 0, 1) := by decide +kernel
theorem dX9_count_105 : decode cX9_count 105 = .ok (.getfield 122, 3) := by decide +kernel
theorem dX9_count_108 : decode cX9_count 108 = .ok (.ireturn, 1) := by decide +kernel
theorem dX9_count_109 : decode cX9_count 109 = .ok (.aload_n 0, 1) := by decide +kernel
theorem dX9_count_110 : decode cX9_count 110 = .ok (.getfield 67, 3) := by decide +kernel
theorem dX9_count_113 : decode cX9_count 113 = .ok (.ireturn, 1) := by decide +kernel
theorem dL_law_0 : decode cL_law 0 = .ok (.new 7, 3) := by decide +kernel
theorem dL_law_3 : decode cL_law 3 = .ok (.dup, 1) := by decide +kernel
theorem dL_law_4 : decode cL_law 4 = .ok (.invokespecial 9, 3) := by decide +kernel
theorem dL_law_7 : decode cL_law 7 = .ok (.astore_n 1, 1) := by decide +kernel
theorem dL_law_8 : decode cL_law 8 = .ok (.new 10, 3) := by decide +kernel
theorem dL_law_11 : decode cL_law 11 = .ok (.dup, 1) := by decide +kernel
theorem dL_law_12 : decode cL_law 12 = .ok (.invokespecial 12, 3) := by decide +kernel
theorem dL_law_15 : decode cL_law 15 = .ok (.astore_n 2, 1) := by decide +kernel
theorem dL_law_16 : decode cL_law 16 = .ok (.iconst 0, 1) := by decide +kernel
theorem dL_law_17 : decode cL_law 17 = .ok (.istore_n 3, 1) := by decide +kernel
theorem dL_law_18 : decode cL_law 18 = .ok (.iload_n 3, 1) := by decide +kernel
theorem dL_law_19 : decode cL_law 19 = .ok (.aload_n 0, 1) := by decide +kernel
theorem dL_law_20 : decode cL_law 20 = .ok (.arraylength, 1) := by decide +kernel
theorem dL_law_21 : decode cL_law 21 = .ok (.iconst 4, 1) := by decide +kernel
theorem dL_law_22 : decode cL_law 22 = .ok (.isub, 1) := by decide +kernel
theorem dL_law_23 : decode cL_law 23 = .ok (.if_icmp .gt 640, 3) := by decide +kernel
theorem dL_law_26 : decode cL_law 26 = .ok (.aload_n 0, 1) := by decide +kernel
theorem dL_law_27 : decode cL_law 27 = .ok (.iload_n 3, 1) := by decide +kernel
theorem dL_law_28 : decode cL_law 28 = .ok (.iaload, 1) := by decide +kernel
theorem dL_law_29 : decode cL_law 29 = .ok (.bipush 31, 2) := by decide +kernel
theorem dL_law_31 : decode cL_law 31 = .ok (.iand, 1) := by decide +kernel
theorem dL_law_32 : decode cL_law 32 = .ok (.tableswitch 625 0 20 #[100, 123, 136, 149, 192, 225, 248, 271, 284, 297, 340, 373, 396, 420, 433, 466, 500, 533, 556, 579, 602], 100) := by decide +kernel
theorem dL_law_132 : decode cL_law 132 = .ok (.aload_n 1, 1) := by decide +kernel
theorem dL_law_133 : decode cL_law 133 = .ok (.aload_n 0, 1) := by decide +kernel
theorem dL_law_134 : decode cL_law 134 = .ok (.iload_n 3, 1) := by decide +kernel
theorem dL_law_135 : decode cL_law 135 = .ok (.iconst 1, 1) := by decide +kernel
theorem dL_law_136 : decode cL_law 136 = .ok (.iadd, 1) := by decide +kernel
theorem dL_law_137 : decode cL_law 137 = .ok (.iaload, 1) := by decide +kernel
theorem dL_law_138 : decode cL_law 138 = .ok (.invokevirtual 13, 3) := by decide +kernel
theorem dL_law_141 : decode cL_law 141 = .ok (.aload_n 2, 1) := by decide +kernel
theorem dL_law_142 : decode cL_law 142 = .ok (.aload_n 0, 1) := by decide +kernel
theorem dL_law_143 : decode cL_law 143 = .ok (.iload_n 3, 1) := by decide +kernel
theorem dL_law_144 : decode cL_law 144 = .ok (.iconst 1, 1) := by decide +kernel
theorem dL_law_145 : decode cL_law 145 = .ok (.iadd, 1) := by decide +kernel
theorem dL_law_146 : decode cL_law 146 = .ok (.iaload, 1) := by decide +kernel
theorem dL_law_147 : decode cL_law 147 = .ok (.invokevirtual 17, 3) := by decide +kernel
theorem dL_law_150 : decode cL_law 150 = .ok (.if_icmp .eq 507, 3) := by decide +kernel
theorem dL_law_153 : decode cL_law 153 = .ok (.iconst 0, 1) := by decide +kernel
theorem dL_law_154 : decode cL_law 154 = .ok (.ireturn, 1) := by decide +kernel
theorem dL_law_155 : decode cL_law 155 = .ok (.aload_n 1, 1) := by decide +kernel
theorem dL_law_156 : decode cL_law 156 = .ok (.invokevirtual 18, 3) := by decide +kernel
theorem dL_law_159 : decode cL_law 159 = .ok (.aload_n 2, 1) := by decide +kernel
theorem dL_law_160 : decode cL_law 160 = .ok (.invokevirtual 22, 3) := by decide +kernel
theorem dL_law_163 : decode cL_law 163 = .ok (.if_icmp .eq 494, 3) := by decide +kernel
theorem dL_law_166 : decode cL_law 166 = .ok (.iconst 0, 1) := by decide +kernel
theorem dL_law_167 : decode cL_law 167 = .ok (.ireturn, 1) := by decide +kernel
theorem dL_law_168 : decode cL_law 168 = .ok (.aload_n 1, 1) := by decide +kernel
theorem dL_law_169 : decode cL_law 169 = .ok (.invokevirtual 23, 3) := by decide +kernel
theorem dL_law_172 : decode cL_law 172 = .ok (.aload_n 2, 1) := by decide +kernel
theorem dL_law_173 : decode cL_law 173 = .ok (.invokevirtual 26, 3) := by decide +kernel
theorem dL_law_176 : decode cL_law 176 = .ok (.if_icmp .eq 481, 3) := by decide +kernel
theorem dL_law_179 : decode cL_law 179 = .ok (.iconst 0, 1) := by decide +kernel
theorem dL_law_180 : decode cL_law 180 = .ok (.ireturn, 1) := by decide +kernel
theorem dL_law_181 : decode cL_law 181 = .ok (.aload_n 1, 1) := by decide +kernel
theorem dL_law_182 : decode cL_law 182 = .ok (.aload_n 0, 1) := by decide +kernel
theorem dL_law_183 : decode cL_law 183 = .ok (.iload_n 3, 1) := by decide +kernel
theorem dL_law_184 : decode cL_law 184 = .ok (.iconst 1, 1) := by decide +kernel
theorem dL_law_185 : decode cL_law 185 = .ok (.iadd, 1) := by decide +kernel
theorem dL_law_186 : decode cL_law 186 = .ok (.iaload, 1) := by decide +kernel
theorem dL_law_187 : decode cL_law 187 = .ok (.aload_n 0, 1) := by decide +kernel
theorem dL_law_188 : decode cL_law 188 = .ok (.iload_n 3, 1) := by decide +kernel
theorem dL_law_189 : decode cL_law 189 = .ok (.iconst 2, 1) := by decide +kernel
theorem dL_law_190 : decode cL_law 190 = .ok (.iadd, 1) := by decide +kernel
theorem dL_law_191 : decode cL_law 191 = .ok (.iaload, 1) := by decide +kernel
theorem dL_law_192 : decode cL_law 192 = .ok (.aload_n 0, 1) := by decide +kernel
theorem dL_law_193 : decode cL_law 193 = .ok (.iload_n 3, 1) := by decide +kernel
theorem dL_law_194 : decode cL_law 194 = .ok (.iconst 3, 1) := by decide +kernel
theorem dL_law_195 : decode cL_law 195 = .ok (.iadd, 1) := by decide +kernel
theorem dL_law_196 : decode cL_law 196 = .ok (.iaload, 1) := by decide +kernel
theorem dL_law_197 : decode cL_law 197 = .ok (.invokevirtual 27, 3) := by decide +kernel
theorem dL_law_200 : decode cL_law 200 = .ok (.aload_n 2, 1) := by decide +kernel
theorem dL_law_201 : decode cL_law 201 = .ok (.aload_n 0, 1) := by decide +kernel
theorem dL_law_202 : decode cL_law 202 = .ok (.iload_n 3, 1) := by decide +kernel
theorem dL_law_203 : decode cL_law 203 = .ok (.iconst 1, 1) := by decide +kernel
theorem dL_law_204 : decode cL_law 204 = .ok (.iadd, 1) := by decide +kernel
theorem dL_law_205 : decode cL_law 205 = .ok (.iaload, 1) := by decide +kernel
theorem dL_law_206 : decode cL_law 206 = .ok (.aload_n 0, 1) := by decide +kernel
theorem dL_law_207 : decode cL_law 207 = .ok (.iload_n 3, 1) := by decide +kernel
theorem dL_law_208 : decode cL_law 208 = .ok (.iconst 2, 1) := by decide +kernel
theorem dL_law_209 : decode cL_law 209 = .ok (.iadd, 1) := by decide +kernel
theorem dL_law_210 : decode cL_law 210 = .ok (.iaload, 1) := by decide +kernel
theorem dL_law_211 : decode cL_law 211 = .ok (.aload_n 0, 1) := by decide +kernel
theorem dL_law_212 : decode cL_law 212 = .ok (.iload_n 3, 1) := by decide +kernel
theorem dL_law_213 : decode cL_law 213 = .ok (.iconst 3, 1) := by decide +kernel
theorem dL_law_214 : decode cL_law 214 = .ok (.iadd, 1) := by decide +kernel
theorem dL_law_215 : decode cL_law 215 = .ok (.iaload, 1) := by decide +kernel
theorem dL_law_216 : decode cL_law 216 = .ok (.invokevirtual 31, 3) := by decide +kernel
theorem dL_law_219 : decode cL_law 219 = .ok (.if_icmp .eq 438, 3) := by decide +kernel
theorem dL_law_222 : decode cL_law 222 = .ok (.iconst 0, 1) := by decide +kernel
theorem dL_law_223 : decode cL_law 223 = .ok (.ireturn, 1) := by decide +kernel
theorem dL_law_224 : decode cL_law 224 = .ok (.aload_n 1, 1) := by decide +kernel
theorem dL_law_225 : decode cL_law 225 = .ok (.aload_n 0, 1) := by decide +kernel
theorem dL_law_226 : decode cL_law 226 = .ok (.iload_n 3, 1) := by decide +kernel
theorem dL_law_227 : decode cL_law 227 = .ok (.iconst 1, 1) := by decide +kernel
theorem dL_law_228 : decode cL_law 228 = .ok (.iadd, 1) := by decide +kernel
theorem dL_law_229 : decode cL_law 229 = .ok (.iaload, 1) := by decide +kernel
theorem dL_law_230 : decode cL_law 230 = .ok (.aload_n 0, 1) := by decide +kernel
theorem dL_law_231 : decode cL_law 231 = .ok (.iload_n 3, 1) := by decide +kernel
theorem dL_law_232 : decode cL_law 232 = .ok (.iconst 2, 1) := by decide +kernel
theorem dL_law_233 : decode cL_law 233 = .ok (.iadd, 1) := by decide +kernel
theorem dL_law_234 : decode cL_law 234 = .ok (.iaload, 1) := by decide +kernel
theorem dL_law_235 : decode cL_law 235 = .ok (.invokevirtual 32, 3) := by decide +kernel
theorem dL_law_238 : decode cL_law 238 = .ok (.aload_n 2, 1) := by decide +kernel
theorem dL_law_239 : decode cL_law 239 = .ok (.aload_n 0, 1) := by decide +kernel
theorem dL_law_240 : decode cL_law 240 = .ok (.iload_n 3, 1) := by decide +kernel
theorem dL_law_241 : decode cL_law 241 = .ok (.iconst 1, 1) := by decide +kernel
theorem dL_law_242 : decode cL_law 242 = .ok (.iadd, 1) := by decide +kernel
theorem dL_law_243 : decode cL_law 243 = .ok (.iaload, 1) := by decide +kernel
theorem dL_law_244 : decode cL_law 244 = .ok (.aload_n 0, 1) := by decide +kernel
theorem dL_law_245 : decode cL_law 245 = .ok (.iload_n 3, 1) := by decide +kernel
theorem dL_law_246 : decode cL_law 246 = .ok (.iconst 2, 1) := by decide +kernel
theorem dL_law_247 : decode cL_law 247 = .ok (.iadd, 1) := by decide +kernel
theorem dL_law_248 : decode cL_law 248 = .ok (.iaload, 1) := by decide +kernel
theorem dL_law_249 : decode cL_law 249 = .ok (.invokevirtual 36, 3) := by decide +kernel
theorem dL_law_252 : decode cL_law 252 = .ok (.if_icmp .eq 405, 3) := by decide +kernel
theorem dL_law_255 : decode cL_law 255 = .ok (.iconst 0, 1) := by decide +kernel
theorem dL_law_256 : decode cL_law 256 = .ok (.ireturn, 1) := by decide +kernel
theorem dL_law_257 : decode cL_law 257 = .ok (.aload_n 1, 1) := by decide +kernel
theorem dL_law_258 : decode cL_law 258 = .ok (.aload_n 0, 1) := by decide +kernel
theorem dL_law_259 : decode cL_law 259 = .ok (.iload_n 3, 1) := by decide +kernel
theorem dL_law_260 : decode cL_law 260 = .ok (.iconst 1, 1) := by decide +kernel
theorem dL_law_261 : decode cL_law 261 = .ok (.iadd, 1) := by decide +kernel
theorem dL_law_262 : decode cL_law 262 = .ok (.iaload, 1) := by decide +kernel
theorem dL_law_263 : decode cL_law 263 = .ok (.invokevirtual 37, 3) := by decide +kernel
theorem dL_law_266 : decode cL_law 266 = .ok (.aload_n 2, 1) := by decide +kernel
theorem dL_law_267 : decode cL_law 267 = .ok (.aload_n 0, 1) := by decide +kernel
theorem dL_law_268 : decode cL_law 268 = .ok (.iload_n 3, 1) := by decide +kernel
theorem dL_law_269 : decode cL_law 269 = .ok (.iconst 1, 1) := by decide +kernel
theorem dL_law_270 : decode cL_law 270 = .ok (.iadd, 1) := by decide +kernel
theorem dL_law_271 : decode cL_law 271 = .ok (.iaload, 1) := by decide +kernel
theorem dL_law_272 : decode cL_law 272 = .ok (.invokevirtual 40, 3) := by decide +kernel
theorem dL_law_275 : decode cL_law 275 = .ok (.if_icmp .eq 382, 3) := by decide +kernel
theorem dL_law_278 : decode cL_law 278 = .ok (.iconst 0, 1) := by decide +kernel
theorem dL_law_279 : decode cL_law 279 = .ok (.ireturn, 1) := by decide +kernel
theorem dL_law_280 : decode cL_law 280 = .ok (.aload_n 1, 1) := by decide +kernel
theorem dL_law_281 : decode cL_law 281 = .ok (.aload_n 0, 1) := by decide +kernel
theorem dL_law_282 : decode cL_law 282 = .ok (.iload_n 3, 1) := by decide +kernel
theorem dL_law_283 : decode cL_law 283 = .ok (.iconst 1, 1) := by decide +kernel
theorem dL_law_284 : decode cL_law 284 = .ok (.iadd, 1) := by decide +kernel
theorem dL_law_285 : decode cL_law 285 = .ok (.iaload, 1) := by decide +kernel
theorem dL_law_286 : decode cL_law 286 = .ok (.invokevirtual 41, 3) := by decide +kernel
theorem dL_law_289 : decode cL_law 289 = .ok (.aload_n 2, 1) := by decide +kernel
theorem dL_law_290 : decode cL_law 290 = .ok (.aload_n 0, 1) := by decide +kernel
theorem dL_law_291 : decode cL_law 291 = .ok (.iload_n 3, 1) := by decide +kernel
theorem dL_law_292 : decode cL_law 292 = .ok (.iconst 1, 1) := by decide +kernel
theorem dL_law_293 : decode cL_law 293 = .ok (.iadd, 1) := by decide +kernel
theorem dL_law_294 : decode cL_law 294 = .ok (.iaload, 1) := by decide +kernel
theorem dL_law_295 : decode cL_law 295 = .ok (.invokevirtual 44, 3) := by decide +kernel
theorem dL_law_298 : decode cL_law 298 = .ok (.if_icmp .eq 359, 3) := by decide +kernel
theorem dL_law_301 : decode cL_law 301 = .ok (.iconst 0, 1) := by decide +kernel
theorem dL_law_302 : decode cL_law 302 = .ok (.ireturn, 1) := by decide +kernel
theorem dL_law_303 : decode cL_law 303 = .ok (.aload_n 1, 1) := by decide +kernel
theorem dL_law_304 : decode cL_law 304 = .ok (.invokevirtual 45, 3) := by decide +kernel
theorem dL_law_307 : decode cL_law 307 = .ok (.aload_n 2, 1) := by decide +kernel
theorem dL_law_308 : decode cL_law 308 = .ok (.invokevirtual 48, 3) := by decide +kernel
theorem dL_law_311 : decode cL_law 311 = .ok (.if_icmp .eq 346, 3) := by decide +kernel
theorem dL_law_314 : decode cL_law 314 = .ok (.iconst 0, 1) := by decide +kernel
theorem dL_law_315 : decode cL_law 315 = .ok (.ireturn, 1) := by decide +kernel
theorem dL_law_316 : decode cL_law 316 = .ok (.aload_n 1, 1) := by decide +kernel
theorem dL_law_317 : decode cL_law 317 = .ok (.invokevirtual 49, 3) := by decide +kernel
theorem dL_law_320 : decode cL_law 320 = .ok (.aload_n 2, 1) := by decide +kernel
theorem dL_law_321 : decode cL_law 321 = .ok (.invokevirtual 52, 3) := by decide +kernel
theorem dL_law_324 : decode cL_law 324 = .ok (.if_icmp .eq 333, 3) := by decide +kernel
theorem dL_law_327 : decode cL_law 327 = .ok (.iconst 0, 1) := by decide +kernel
theorem dL_law_328 : decode cL_law 328 = .ok (.ireturn, 1) := by decide +kernel
theorem dL_law_329 : decode cL_law 329 = .ok (.aload_n 1, 1) := by decide +kernel
theorem dL_law_330 : decode cL_law 330 = .ok (.aload_n 0, 1) := by decide +kernel
theorem dL_law_331 : decode cL_law 331 = .ok (.iload_n 3, 1) := by decide +kernel
theorem dL_law_332 : decode cL_law 332 = .ok (.iconst 1, 1) := by decide +kernel
theorem dL_law_333 : decode cL_law 333 = .ok (.iadd, 1) := by decide +kernel
theorem dL_law_334 : decode cL_law 334 = .ok (.iaload, 1) := by decide +kernel
theorem dL_law_335 : decode cL_law 335 = .ok (.aload_n 0, 1) := by decide +kernel
theorem dL_law_336 : decode cL_law 336 = .ok (.iload_n 3, 1) := by decide +kernel
theorem dL_law_337 : decode cL_law 337 = .ok (.iconst 2, 1) := by decide +kernel
theorem dL_law_338 : decode cL_law 338 = .ok (.iadd, 1) := by decide +kernel
theorem dL_law_339 : decode cL_law 339 = .ok (.iaload, 1) := by decide +kernel
theorem dL_law_340 : decode cL_law 340 = .ok (.aload_n 0, 1) := by decide +kernel
theorem dL_law_341 : decode cL_law 341 = .ok (.iload_n 3, 1) := by decide +kernel
theorem dL_law_342 : decode cL_law 342 = .ok (.iconst 3, 1) := by decide +kernel
theorem dL_law_343 : decode cL_law 343 = .ok (.iadd, 1) := by decide +kernel
theorem dL_law_344 : decode cL_law 344 = .ok (.iaload, 1) := by decide +kernel
theorem dL_law_345 : decode cL_law 345 = .ok (.invokevirtual 53, 3) := by decide +kernel
theorem dL_law_348 : decode cL_law 348 = .ok (.aload_n 2, 1) := by decide +kernel
theorem dL_law_349 : decode cL_law 349 = .ok (.aload_n 0, 1) := by decide +kernel
theorem dL_law_350 : decode cL_law 350 = .ok (.iload_n 3, 1) := by decide +kernel
theorem dL_law_351 : decode cL_law 351 = .ok (.iconst 1, 1) := by decide +kernel
theorem dL_law_352 : decode cL_law 352 = .ok (.iadd, 1) := by decide +kernel
theorem dL_law_353 : decode cL_law 353 = .ok (.iaload, 1) := by decide +kernel
theorem dL_law_354 : decode cL_law 354 = .ok (.aload_n 0, 1) := by decide +kernel
theorem dL_law_355 : decode cL_law 355 = .ok (.iload_n 3, 1) := by decide +kernel
theorem dL_law_356 : decode cL_law 356 = .ok (.iconst 2, 1) := by decide +kernel
theorem dL_law_357 : decode cL_law 357 = .ok (.iadd, 1) := by decide +kernel
theorem dL_law_358 : decode cL_law 358 = .ok (.iaload, 1) := by decide +kernel
theorem dL_law_359 : decode cL_law 359 = .ok (.aload_n 0, 1) := by decide +kernel
theorem dL_law_360 : decode cL_law 360 = .ok (.iload_n 3, 1) := by decide +kernel
theorem dL_law_361 : decode cL_law 361 = .ok (.iconst 3, 1) := by decide +kernel
theorem dL_law_362 : decode cL_law 362 = .ok (.iadd, 1) := by decide +kernel
theorem dL_law_363 : decode cL_law 363 = .ok (.iaload, 1) := by decide +kernel
theorem dL_law_364 : decode cL_law 364 = .ok (.invokevirtual 56, 3) := by decide +kernel
theorem dL_law_367 : decode cL_law 367 = .ok (.if_icmp .eq 290, 3) := by decide +kernel
theorem dL_law_370 : decode cL_law 370 = .ok (.iconst 0, 1) := by decide +kernel
theorem dL_law_371 : decode cL_law 371 = .ok (.ireturn, 1) := by decide +kernel
theorem dL_law_372 : decode cL_law 372 = .ok (.aload_n 1, 1) := by decide +kernel
theorem dL_law_373 : decode cL_law 373 = .ok (.aload_n 0, 1) := by decide +kernel
theorem dL_law_374 : decode cL_law 374 = .ok (.iload_n 3, 1) := by decide +kernel
theorem dL_law_375 : decode cL_law 375 = .ok (.iconst 1, 1) := by decide +kernel
theorem dL_law_376 : decode cL_law 376 = .ok (.iadd, 1) := by decide +kernel
theorem dL_law_377 : decode cL_law 377 = .ok (.iaload, 1) := by decide +kernel
theorem dL_law_378 : decode cL_law 378 = .ok (.aload_n 0, 1) := by decide +kernel
theorem dL_law_379 : decode cL_law 379 = .ok (.iload_n 3, 1) := by decide +kernel
theorem dL_law_380 : decode cL_law 380 = .ok (.iconst 2, 1) := by decide +kernel
theorem dL_law_381 : decode cL_law 381 = .ok (.iadd, 1) := by decide +kernel
theorem dL_law_382 : decode cL_law 382 = .ok (.iaload, 1) := by decide +kernel
theorem dL_law_383 : decode cL_law 383 = .ok (.invokevirtual 57, 3) := by decide +kernel
theorem dL_law_386 : decode cL_law 386 = .ok (.aload_n 2, 1) := by decide +kernel
theorem dL_law_387 : decode cL_law 387 = .ok (.aload_n 0, 1) := by decide +kernel
theorem dL_law_388 : decode cL_law 388 = .ok (.iload_n 3, 1) := by decide +kernel
theorem dL_law_389 : decode cL_law 389 = .ok (.iconst 1, 1) := by decide +kernel
theorem dL_law_390 : decode cL_law 390 = .ok (.iadd, 1) := by decide +kernel
theorem dL_law_391 : decode cL_law 391 = .ok (.iaload, 1) := by decide +kernel
theorem dL_law_392 : decode cL_law 392 = .ok (.aload_n 0, 1) := by decide +kernel
theorem dL_law_393 : decode cL_law 393 = .ok (.iload_n 3, 1) := by decide +kernel
theorem dL_law_394 : decode cL_law 394 = .ok (.iconst 2, 1) := by decide +kernel
theorem dL_law_395 : decode cL_law 395 = .ok (.iadd, 1) := by decide +kernel
theorem dL_law_396 : decode cL_law 396 = .ok (.iaload, 1) := by decide +kernel
theorem dL_law_397 : decode cL_law 397 = .ok (.invokevirtual 60, 3) := by decide +kernel
theorem dL_law_400 : decode cL_law 400 = .ok (.if_icmp .eq 257, 3) := by decide +kernel
theorem dL_law_403 : decode cL_law 403 = .ok (.iconst 0, 1) := by decide +kernel
theorem dL_law_404 : decode cL_law 404 = .ok (.ireturn, 1) := by decide +kernel
theorem dL_law_405 : decode cL_law 405 = .ok (.aload_n 1, 1) := by decide +kernel
theorem dL_law_406 : decode cL_law 406 = .ok (.aload_n 0, 1) := by decide +kernel
theorem dL_law_407 : decode cL_law 407 = .ok (.iload_n 3, 1) := by decide +kernel
theorem dL_law_408 : decode cL_law 408 = .ok (.iconst 1, 1) := by decide +kernel
theorem dL_law_409 : decode cL_law 409 = .ok (.iadd, 1) := by decide +kernel
theorem dL_law_410 : decode cL_law 410 = .ok (.iaload, 1) := by decide +kernel
theorem dL_law_411 : decode cL_law 411 = .ok (.invokevirtual 61, 3) := by decide +kernel
theorem dL_law_414 : decode cL_law 414 = .ok (.aload_n 2, 1) := by decide +kernel
theorem dL_law_415 : decode cL_law 415 = .ok (.aload_n 0, 1) := by decide +kernel
theorem dL_law_416 : decode cL_law 416 = .ok (.iload_n 3, 1) := by decide +kernel
theorem dL_law_417 : decode cL_law 417 = .ok (.iconst 1, 1) := by decide +kernel
theorem dL_law_418 : decode cL_law 418 = .ok (.iadd, 1) := by decide +kernel
theorem dL_law_419 : decode cL_law 419 = .ok (.iaload, 1) := by decide +kernel
theorem dL_law_420 : decode cL_law 420 = .ok (.invokevirtual 64, 3) := by decide +kernel
theorem dL_law_423 : decode cL_law 423 = .ok (.if_icmp .eq 234, 3) := by decide +kernel
theorem dL_law_426 : decode cL_law 426 = .ok (.iconst 0, 1) := by decide +kernel
theorem dL_law_427 : decode cL_law 427 = .ok (.ireturn, 1) := by decide +kernel
theorem dL_law_428 : decode cL_law 428 = .ok (.aload_n 1, 1) := by decide +kernel
theorem dL_law_429 : decode cL_law 429 = .ok (.aload_n 0, 1) := by decide +kernel
theorem dL_law_430 : decode cL_law 430 = .ok (.iload_n 3, 1) := by decide +kernel
theorem dL_law_431 : decode cL_law 431 = .ok (.iconst 1, 1) := by decide +kernel
theorem dL_law_432 : decode cL_law 432 = .ok (.iadd, 1) := by decide +kernel
theorem dL_law_433 : decode cL_law 433 = .ok (.iaload, 1) := by decide +kernel
theorem dL_law_434 : decode cL_law 434 = .ok (.invokevirtual 65, 3) := by decide +kernel
theorem dL_law_437 : decode cL_law 437 = .ok (.aload_n 2, 1) := by decide +kernel
theorem dL_law_438 : decode cL_law 438 = .ok (.aload_n 0, 1) := by decide +kernel
theorem dL_law_439 : decode cL_law 439 = .ok (.iload_n 3, 1) := by decide +kernel
theorem dL_law_440 : decode cL_law 440 = .ok (.iconst 1, 1) := by decide +kernel
theorem dL_law_441 : decode cL_law 441 = .ok (.iadd, 1) := by decide +kernel
theorem dL_law_442 : decode cL_law 442 = .ok (.iaload, 1) := by decide +kernel
theorem dL_law_443 : decode cL_law 443 = .ok (.invokevirtual 69, 3) := by decide +kernel
theorem dL_law_446 : decode cL_law 446 = .ok (.lcmp, 1) := by decide +kernel
theorem dL_law_447 : decode cL_law 447 = .ok (.ifCond .eq 210, 3) := by decide +kernel
theorem dL_law_450 : decode cL_law 450 = .ok (.iconst 0, 1) := by decide +kernel
theorem dL_law_451 : decode cL_law 451 = .ok (.ireturn, 1) := by decide +kernel
theorem dL_law_452 : decode cL_law 452 = .ok (.aload_n 1, 1) := by decide +kernel
theorem dL_law_453 : decode cL_law 453 = .ok (.invokevirtual 70, 3) := by decide +kernel
theorem dL_law_456 : decode cL_law 456 = .ok (.aload_n 2, 1) := by decide +kernel
theorem dL_law_457 : decode cL_law 457 = .ok (.invokevirtual 73, 3) := by decide +kernel
theorem dL_law_460 : decode cL_law 460 = .ok (.if_icmp .eq 197, 3) := by decide +kernel
theorem dL_law_463 : decode cL_law 463 = .ok (.iconst 0, 1) := by decide +kernel
theorem dL_law_464 : decode cL_law 464 = .ok (.ireturn, 1) := by decide +kernel
theorem dL_law_465 : decode cL_law 465 = .ok (.aload_n 1, 1) := by decide +kernel
theorem dL_law_466 : decode cL_law 466 = .ok (.aload_n 0, 1) := by decide +kernel
theorem dL_law_467 : decode cL_law 467 = .ok (.iload_n 3, 1) := by decide +kernel
theorem dL_law_468 : decode cL_law 468 = .ok (.iconst 1, 1) := by decide +kernel
theorem dL_law_469 : decode cL_law 469 = .ok (.iadd, 1) := by decide +kernel
theorem dL_law_470 : decode cL_law 470 = .ok (.iaload, 1) := by decide +kernel
theorem dL_law_471 : decode cL_law 471 = .ok (.aload_n 0, 1) := by decide +kernel
theorem dL_law_472 : decode cL_law 472 = .ok (.iload_n 3, 1) := by decide +kernel
theorem dL_law_473 : decode cL_law 473 = .ok (.iconst 2, 1) := by decide +kernel
theorem dL_law_474 : decode cL_law 474 = .ok (.iadd, 1) := by decide +kernel
theorem dL_law_475 : decode cL_law 475 = .ok (.iaload, 1) := by decide +kernel
theorem dL_law_476 : decode cL_law 476 = .ok (.invokevirtual 74, 3) := by decide +kernel
theorem dL_law_479 : decode cL_law 479 = .ok (.aload_n 2, 1) := by decide +kernel
theorem dL_law_480 : decode cL_law 480 = .ok (.aload_n 0, 1) := by decide +kernel
theorem dL_law_481 : decode cL_law 481 = .ok (.iload_n 3, 1) := by decide +kernel
theorem dL_law_482 : decode cL_law 482 = .ok (.iconst 1, 1) := by decide +kernel
theorem dL_law_483 : decode cL_law 483 = .ok (.iadd, 1) := by decide +kernel
theorem dL_law_484 : decode cL_law 484 = .ok (.iaload, 1) := by decide +kernel
theorem dL_law_485 : decode cL_law 485 = .ok (.aload_n 0, 1) := by decide +kernel
theorem dL_law_486 : decode cL_law 486 = .ok (.iload_n 3, 1) := by decide +kernel
theorem dL_law_487 : decode cL_law 487 = .ok (.iconst 2, 1) := by decide +kernel
theorem dL_law_488 : decode cL_law 488 = .ok (.iadd, 1) := by decide +kernel
theorem dL_law_489 : decode cL_law 489 = .ok (.iaload, 1) := by decide +kernel
theorem dL_law_490 : decode cL_law 490 = .ok (.invokevirtual 77, 3) := by decide +kernel
theorem dL_law_493 : decode cL_law 493 = .ok (.if_icmp .eq 164, 3) := by decide +kernel
theorem dL_law_496 : decode cL_law 496 = .ok (.iconst 0, 1) := by decide +kernel
theorem dL_law_497 : decode cL_law 497 = .ok (.ireturn, 1) := by decide +kernel
theorem dL_law_498 : decode cL_law 498 = .ok (.aload_n 1, 1) := by decide +kernel
theorem dL_law_499 : decode cL_law 499 = .ok (.aload_n 0, 1) := by decide +kernel
theorem dL_law_500 : decode cL_law 500 = .ok (.iload_n 3, 1) := by decide +kernel
theorem dL_law_501 : decode cL_law 501 = .ok (.iconst 1, 1) := by decide +kernel
theorem dL_law_502 : decode cL_law 502 = .ok (.iadd, 1) := by decide +kernel
theorem dL_law_503 : decode cL_law 503 = .ok (.iaload, 1) := by decide +kernel
theorem dL_law_504 : decode cL_law 504 = .ok (.aload_n 0, 1) := by decide +kernel
theorem dL_law_505 : decode cL_law 505 = .ok (.iload_n 3, 1) := by decide +kernel
theorem dL_law_506 : decode cL_law 506 = .ok (.iconst 2, 1) := by decide +kernel
theorem dL_law_507 : decode cL_law 507 = .ok (.iadd, 1) := by decide +kernel
theorem dL_law_508 : decode cL_law 508 = .ok (.iaload, 1) := by decide +kernel
theorem dL_law_509 : decode cL_law 509 = .ok (.invokevirtual 78, 3) := by decide +kernel
theorem dL_law_512 : decode cL_law 512 = .ok (.aload_n 2, 1) := by decide +kernel
theorem dL_law_513 : decode cL_law 513 = .ok (.aload_n 0, 1) := by decide +kernel
theorem dL_law_514 : decode cL_law 514 = .ok (.iload_n 3, 1) := by decide +kernel
theorem dL_law_515 : decode cL_law 515 = .ok (.iconst 1, 1) := by decide +kernel
theorem dL_law_516 : decode cL_law 516 = .ok (.iadd, 1) := by decide +kernel
theorem dL_law_517 : decode cL_law 517 = .ok (.iaload, 1) := by decide +kernel
theorem dL_law_518 : decode cL_law 518 = .ok (.aload_n 0, 1) := by decide +kernel
theorem dL_law_519 : decode cL_law 519 = .ok (.iload_n 3, 1) := by decide +kernel
theorem dL_law_520 : decode cL_law 520 = .ok (.iconst 2, 1) := by decide +kernel
theorem dL_law_521 : decode cL_law 521 = .ok (.iadd, 1) := by decide +kernel
theorem dL_law_522 : decode cL_law 522 = .ok (.iaload, 1) := by decide +kernel
theorem dL_law_523 : decode cL_law 523 = .ok (.invokevirtual 82, 3) := by decide +kernel
theorem dL_law_526 : decode cL_law 526 = .ok (.lcmp, 1) := by decide +kernel
theorem dL_law_527 : decode cL_law 527 = .ok (.ifCond .eq 130, 3) := by decide +kernel
theorem dL_law_530 : decode cL_law 530 = .ok (.iconst 0, 1) := by decide +kernel
theorem dL_law_531 : decode cL_law 531 = .ok (.ireturn, 1) := by decide +kernel
theorem dL_law_532 : decode cL_law 532 = .ok (.aload_n 1, 1) := by decide +kernel
theorem dL_law_533 : decode cL_law 533 = .ok (.aload_n 0, 1) := by decide +kernel
theorem dL_law_534 : decode cL_law 534 = .ok (.iload_n 3, 1) := by decide +kernel
theorem dL_law_535 : decode cL_law 535 = .ok (.iconst 1, 1) := by decide +kernel
theorem dL_law_536 : decode cL_law 536 = .ok (.iadd, 1) := by decide +kernel
theorem dL_law_537 : decode cL_law 537 = .ok (.iaload, 1) := by decide +kernel
theorem dL_law_538 : decode cL_law 538 = .ok (.aload_n 0, 1) := by decide +kernel
theorem dL_law_539 : decode cL_law 539 = .ok (.iload_n 3, 1) := by decide +kernel
theorem dL_law_540 : decode cL_law 540 = .ok (.iconst 2, 1) := by decide +kernel
theorem dL_law_541 : decode cL_law 541 = .ok (.iadd, 1) := by decide +kernel
theorem dL_law_542 : decode cL_law 542 = .ok (.iaload, 1) := by decide +kernel
theorem dL_law_543 : decode cL_law 543 = .ok (.invokevirtual 83, 3) := by decide +kernel
theorem dL_law_546 : decode cL_law 546 = .ok (.aload_n 2, 1) := by decide +kernel
theorem dL_law_547 : decode cL_law 547 = .ok (.aload_n 0, 1) := by decide +kernel
theorem dL_law_548 : decode cL_law 548 = .ok (.iload_n 3, 1) := by decide +kernel
theorem dL_law_549 : decode cL_law 549 = .ok (.iconst 1, 1) := by decide +kernel
theorem dL_law_550 : decode cL_law 550 = .ok (.iadd, 1) := by decide +kernel
theorem dL_law_551 : decode cL_law 551 = .ok (.iaload, 1) := by decide +kernel
theorem dL_law_552 : decode cL_law 552 = .ok (.aload_n 0, 1) := by decide +kernel
theorem dL_law_553 : decode cL_law 553 = .ok (.iload_n 3, 1) := by decide +kernel
theorem dL_law_554 : decode cL_law 554 = .ok (.iconst 2, 1) := by decide +kernel
theorem dL_law_555 : decode cL_law 555 = .ok (.iadd, 1) := by decide +kernel
theorem dL_law_556 : decode cL_law 556 = .ok (.iaload, 1) := by decide +kernel
theorem dL_law_557 : decode cL_law 557 = .ok (.invokevirtual 86, 3) := by decide +kernel
theorem dL_law_560 : decode cL_law 560 = .ok (.if_icmp .eq 97, 3) := by decide +kernel
theorem dL_law_563 : decode cL_law 563 = .ok (.iconst 0, 1) := by decide +kernel
theorem dL_law_564 : decode cL_law 564 = .ok (.ireturn, 1) := by decide +kernel
theorem dL_law_565 : decode cL_law 565 = .ok (.aload_n 1, 1) := by decide +kernel
theorem dL_law_566 : decode cL_law 566 = .ok (.aload_n 0, 1) := by decide +kernel
theorem dL_law_567 : decode cL_law 567 = .ok (.iload_n 3, 1) := by decide +kernel
theorem dL_law_568 : decode cL_law 568 = .ok (.iconst 1, 1) := by decide +kernel
theorem dL_law_569 : decode cL_law 569 = .ok (.iadd, 1) := by decide +kernel
theorem dL_law_570 : decode cL_law 570 = .ok (.iaload, 1) := by decide +kernel
theorem dL_law_571 : decode cL_law 571 = .ok (.invokevirtual 87, 3) := by decide +kernel
theorem dL_law_574 : decode cL_law 574 = .ok (.aload_n 2, 1) := by decide +kernel
theorem dL_law_575 : decode cL_law 575 = .ok (.aload_n 0, 1) := by decide +kernel
theorem dL_law_576 : decode cL_law 576 = .ok (.iload_n 3, 1) := by decide +kernel
theorem dL_law_577 : decode cL_law 577 = .ok (.iconst 1, 1) := by decide +kernel
theorem dL_law_578 : decode cL_law 578 = .ok (.iadd, 1) := by decide +kernel
theorem dL_law_579 : decode cL_law 579 = .ok (.iaload, 1) := by decide +kernel
theorem dL_law_580 : decode cL_law 580 = .ok (.invokevirtual 90, 3) := by decide +kernel
theorem dL_law_583 : decode cL_law 583 = .ok (.if_icmp .eq 74, 3) := by decide +kernel
theorem dL_law_586 : decode cL_law 586 = .ok (.iconst 0, 1) := by decide +kernel
theorem dL_law_587 : decode cL_law 587 = .ok (.ireturn, 1) := by decide +kernel
theorem dL_law_588 : decode cL_law 588 = .ok (.aload_n 1, 1) := by decide +kernel
theorem dL_law_589 : decode cL_law 589 = .ok (.aload_n 0, 1) := by decide +kernel
theorem dL_law_590 : decode cL_law 590 = .ok (.iload_n 3, 1) := by decide +kernel
theorem dL_law_591 : decode cL_law 591 = .ok (.iconst 1, 1) := by decide +kernel
theorem dL_law_592 : decode cL_law 592 = .ok (.iadd, 1) := by decide +kernel
theorem dL_law_593 : decode cL_law 593 = .ok (.iaload, 1) := by decide +kernel
theorem dL_law_594 : decode cL_law 594 = .ok (.invokevirtual 91, 3) := by decide +kernel
theorem dL_law_597 : decode cL_law 597 = .ok (.aload_n 2, 1) := by decide +kernel
theorem dL_law_598 : decode cL_law 598 = .ok (.aload_n 0, 1) := by decide +kernel
theorem dL_law_599 : decode cL_law 599 = .ok (.iload_n 3, 1) := by decide +kernel
theorem dL_law_600 : decode cL_law 600 = .ok (.iconst 1, 1) := by decide +kernel
theorem dL_law_601 : decode cL_law 601 = .ok (.iadd, 1) := by decide +kernel
theorem dL_law_602 : decode cL_law 602 = .ok (.iaload, 1) := by decide +kernel
theorem dL_law_603 : decode cL_law 603 = .ok (.invokevirtual 94, 3) := by decide +kernel
theorem dL_law_606 : decode cL_law 606 = .ok (.if_icmp .eq 51, 3) := by decide +kernel
theorem dL_law_609 : decode cL_law 609 = .ok (.iconst 0, 1) := by decide +kernel
theorem dL_law_610 : decode cL_law 610 = .ok (.ireturn, 1) := by decide +kernel
theorem dL_law_611 : decode cL_law 611 = .ok (.aload_n 1, 1) := by decide +kernel
theorem dL_law_612 : decode cL_law 612 = .ok (.aload_n 0, 1) := by decide +kernel
theorem dL_law_613 : decode cL_law 613 = .ok (.iload_n 3, 1) := by decide +kernel
theorem dL_law_614 : decode cL_law 614 = .ok (.iconst 1, 1) := by decide +kernel
theorem dL_law_615 : decode cL_law 615 = .ok (.iadd, 1) := by decide +kernel
theorem dL_law_616 : decode cL_law 616 = .ok (.iaload, 1) := by decide +kernel
theorem dL_law_617 : decode cL_law 617 = .ok (.invokevirtual 95, 3) := by decide +kernel
theorem dL_law_620 : decode cL_law 620 = .ok (.aload_n 2, 1) := by decide +kernel
theorem dL_law_621 : decode cL_law 621 = .ok (.aload_n 0, 1) := by decide +kernel
theorem dL_law_622 : decode cL_law 622 = .ok (.iload_n 3, 1) := by decide +kernel
theorem dL_law_623 : decode cL_law 623 = .ok (.iconst 1, 1) := by decide +kernel
theorem dL_law_624 : decode cL_law 624 = .ok (.iadd, 1) := by decide +kernel
theorem dL_law_625 : decode cL_law 625 = .ok (.iaload, 1) := by decide +kernel
theorem dL_law_626 : decode cL_law 626 = .ok (.invokevirtual 98, 3) := by decide +kernel
theorem dL_law_629 : decode cL_law 629 = .ok (.if_icmp .eq 28, 3) := by decide +kernel
theorem dL_law_632 : decode cL_law 632 = .ok (.iconst 0, 1) := by decide +kernel
theorem dL_law_633 : decode cL_law 633 = .ok (.ireturn, 1) := by decide +kernel
theorem dL_law_634 : decode cL_law 634 = .ok (.aload_n 1, 1) := by decide +kernel
theorem dL_law_635 : decode cL_law 635 = .ok (.aload_n 0, 1) := by decide +kernel
theorem dL_law_636 : decode cL_law 636 = .ok (.iload_n 3, 1) := by decide +kernel
theorem dL_law_637 : decode cL_law 637 = .ok (.iconst 1, 1) := by decide +kernel
theorem dL_law_638 : decode cL_law 638 = .ok (.iadd, 1) := by decide +kernel
theorem dL_law_639 : decode cL_law 639 = .ok (.iaload, 1) := by decide +kernel
theorem dL_law_640 : decode cL_law 640 = .ok (.invokevirtual 99, 3) := by decide +kernel
theorem dL_law_643 : decode cL_law 643 = .ok (.aload_n 2, 1) := by decide +kernel
theorem dL_law_644 : decode cL_law 644 = .ok (.aload_n 0, 1) := by decide +kernel
theorem dL_law_645 : decode cL_law 645 = .ok (.iload_n 3, 1) := by decide +kernel
theorem dL_law_646 : decode cL_law 646 = .ok (.iconst 1, 1) := by decide +kernel
theorem dL_law_647 : decode cL_law 647 = .ok (.iadd, 1) := by decide +kernel
theorem dL_law_648 : decode cL_law 648 = .ok (.iaload, 1) := by decide +kernel
theorem dL_law_649 : decode cL_law 649 = .ok (.invokevirtual 102, 3) := by decide +kernel
theorem dL_law_652 : decode cL_law 652 = .ok (.if_icmp .eq 5, 3) := by decide +kernel
theorem dL_law_655 : decode cL_law 655 = .ok (.iconst 0, 1) := by decide +kernel
theorem dL_law_656 : decode cL_law 656 = .ok (.ireturn, 1) := by decide +kernel
theorem dL_law_657 : decode cL_law 657 = .ok (.iinc 3 4, 3) := by decide +kernel
theorem dL_law_660 : decode cL_law 660 = .ok (.goto (-642), 3) := by decide +kernel
theorem dL_law_663 : decode cL_law 663 = .ok (.iconst 1, 1) := by decide +kernel
theorem dL_law_664 : decode cL_law 664 = .ok (.ireturn, 1) := by decide +kernel
end
section
/-! the words that are good in every later state, and what an instruction needs of them -/
def gT : List Cond := lw_tbl.filter goodWord
theorem gin {w : Cond} (i : Nat) (h : lw_tbl[i]? = some w) (hg : goodWord w = true) : w ∈ gT := List.mem_filter.mpr ⟨List.mem_of_getElem? h, hg⟩
theorem gT_good : ∀ w ∈ gT, (w.onTables && w.keeps) = true ∨ ∃ ty, w = .arrayClass ty := fun w h => good_of_word (List.mem_filter.mp h).2
/-- a field by its class's number and its place there -/
def gFl (own : String) (idx ci k : Nat) : Prop := ∃ (C : String) (T : u_T) (n : Nat), vwCl[ci]? = some (C, T, n) ∧ k < n ∧ Cond.fieldLink own idx (T k).1 (T k).2.1 (T k).2.2.1 ∈ gT
/-- a method: its code, its class -/
def gMd (y : MethodName) (bytes : ByteArray) (maxL : Nat) (ret : Option FieldType) (n : Nat) : Prop := Cond.code y bytes maxL ret ∈ gT ∧ Cond.initialized y.cls ∈ gT ∧ (y.cls ≠ "java/lang/invoke/MethodHandle" ∧ y.cls ≠ "java/lang/invoke/VarHandle" ∧ (parseMethodDescriptor y.desc).map (fun d => d.parameters.length) = some n) ∧ plainName y.cls = true ∧ maxL ≤ 14
def gIv (own : String) (idx : Nat) (y : MethodName) : Prop := Cond.methodLink own idx y ∈ gT ∧ Cond.instanceMethod y ∈ gT ∧ Cond.selects y.cls y y ∈ gT
def gIs (own : String) (idx : Nat) (y : MethodName) : Prop := Cond.methodLink own idx y ∈ gT ∧ Cond.static y ∈ gT
def gIi (own : String) (idx : Nat) (y : MethodName) : Prop := Cond.methodLink own idx y ∈ gT ∧ Cond.instanceMethod y ∈ gT ∧ y.name = "<init>"
/-- links among nest mates: these are carried beside the words -/
def gNs : List (String × Nat × MethodName × String) := [(RX8, 33, yX4_init, RX8), (RX6, 11, yX2_init, RX8), (RX6, 20, yX7_init, RX8), (RX6, 30, yX3_init, RX8), (RX6, 37, yX5_init, RX8), (RX4, 101, yX8_isSide, RX8), (RX4, 107, yX8_cellOf, RX8), (RX4, 116, yX8_isClasses, RX8), (RX6, 108, yX8_isClasses, RX8)]
theorem gNs_in : ∀ q ∈ gNs, Cond.methodLinkNest q.1 q.2.1 q.2.2.1 q.2.2.2 ∈ lw_tbl := by
  intro q hq
  simp only [gNs, List.mem_cons, List.not_mem_nil, or_false] at hq
  rcases hq with rfl | rfl | rfl | rfl | rfl | rfl | rfl | rfl | rfl
  · exact List.mem_of_getElem? (i := 133) (by decide +kernel)
  · exact List.mem_of_getElem? (i := 181) (by decide +kernel)
  · exact List.mem_of_getElem? (i := 210) (by decide +kernel)
  · exact List.mem_of_getElem? (i := 230) (by decide +kernel)
  · exact List.mem_of_getElem? (i := 246) (by decide +kernel)
  · exact List.mem_of_getElem? (i := 385) (by decide +kernel)
  · exact List.mem_of_getElem? (i := 392) (by decide +kernel)
  · exact List.mem_of_getElem? (i := 404) (by decide +kernel)
  · exact List.mem_of_getElem? (i := 611) (by decide +kernel)
def gIsN (own : String) (idx : Nat) (y : MethodName) : Prop := (∃ host, (own, idx, y, host) ∈ gNs) ∧ Cond.static y ∈ gT
def gIiN (own : String) (idx : Nat) (y : MethodName) : Prop := (∃ host, (own, idx, y, host) ∈ gNs) ∧ Cond.instanceMethod y ∈ gT ∧ y.name = "<init>"
theorem fX0_9 : gFl RX0 9 0 0 := ⟨_, _, _, rfl, by decide, gin 84 (by decide +kernel) (by decide +kernel)⟩
theorem fX2_27 : gFl RX2 27 0 0 := ⟨_, _, _, rfl, by decide, gin 85 (by decide +kernel) (by decide +kernel)⟩
theorem fX8_71 : gFl RX8 71 0 0 := ⟨_, _, _, rfl, by decide, gin 86 (by decide +kernel) (by decide +kernel)⟩
theorem fX4_110 : gFl RX4 110 0 0 := ⟨_, _, _, rfl, by decide, gin 87 (by decide +kernel) (by decide +kernel)⟩
theorem fX0_15 : gFl RX0 15 0 1 := ⟨_, _, _, rfl, by decide, gin 88 (by decide +kernel) (by decide +kernel)⟩
theorem fX8_115 : gFl RX8 115 0 1 := ⟨_, _, _, rfl, by decide, gin 89 (by decide +kernel) (by decide +kernel)⟩
theorem fX0_27 : gFl RX0 27 0 2 := ⟨_, _, _, rfl, by decide, gin 90 (by decide +kernel) (by decide +kernel)⟩
theorem fX8_112 : gFl RX8 112 0 2 := ⟨_, _, _, rfl, by decide, gin 91 (by decide +kernel) (by decide +kernel)⟩
theorem fX0_31 : gFl RX0 31 0 3 := ⟨_, _, _, rfl, by decide, gin 92 (by decide +kernel) (by decide +kernel)⟩
theorem fX6_89 : gFl RX6 89 0 3 := ⟨_, _, _, rfl, by decide, gin 93 (by decide +kernel) (by decide +kernel)⟩
theorem fX8_84 : gFl RX8 84 0 3 := ⟨_, _, _, rfl, by decide, gin 94 (by decide +kernel) (by decide +kernel)⟩
theorem fX4_119 : gFl RX4 119 0 3 := ⟨_, _, _, rfl, by decide, gin 95 (by decide +kernel) (by decide +kernel)⟩
theorem fX0_34 : gFl RX0 34 0 4 := ⟨_, _, _, rfl, by decide, gin 96 (by decide +kernel) (by decide +kernel)⟩
theorem fX8_87 : gFl RX8 87 0 4 := ⟨_, _, _, rfl, by decide, gin 97 (by decide +kernel) (by decide +kernel)⟩
theorem fX4_122 : gFl RX4 122 0 4 := ⟨_, _, _, rfl, by decide, gin 98 (by decide +kernel) (by decide +kernel)⟩
theorem fX1_11 : gFl RX1 11 1 0 := ⟨_, _, _, rfl, by decide, gin 120 (by decide +kernel) (by decide +kernel)⟩
theorem fX1_18 : gFl RX1 18 1 1 := ⟨_, _, _, rfl, by decide, gin 121 (by decide +kernel) (by decide +kernel)⟩
theorem fX1_26 : gFl RX1 26 1 2 := ⟨_, _, _, rfl, by decide, gin 122 (by decide +kernel) (by decide +kernel)⟩
theorem fX8_127 : gFl RX8 127 1 2 := ⟨_, _, _, rfl, by decide, gin 123 (by decide +kernel) (by decide +kernel)⟩
theorem fX4_9 : gFl RX4 9 4 0 := ⟨_, _, _, rfl, by decide, gin 139 (by decide +kernel) (by decide +kernel)⟩
theorem fX4_18 : gFl RX4 18 4 1 := ⟨_, _, _, rfl, by decide, gin 140 (by decide +kernel) (by decide +kernel)⟩
theorem fX8_59 : gFl RX8 59 4 1 := ⟨_, _, _, rfl, by decide, gin 141 (by decide +kernel) (by decide +kernel)⟩
theorem fX4_22 : gFl RX4 22 4 2 := ⟨_, _, _, rfl, by decide, gin 142 (by decide +kernel) (by decide +kernel)⟩
theorem fX8_51 : gFl RX8 51 4 2 := ⟨_, _, _, rfl, by decide, gin 143 (by decide +kernel) (by decide +kernel)⟩
theorem fX4_37 : gFl RX4 37 4 3 := ⟨_, _, _, rfl, by decide, gin 144 (by decide +kernel) (by decide +kernel)⟩
theorem fX4_40 : gFl RX4 40 4 4 := ⟨_, _, _, rfl, by decide, gin 145 (by decide +kernel) (by decide +kernel)⟩
theorem fX4_46 : gFl RX4 46 4 5 := ⟨_, _, _, rfl, by decide, gin 146 (by decide +kernel) (by decide +kernel)⟩
theorem fX4_49 : gFl RX4 49 4 6 := ⟨_, _, _, rfl, by decide, gin 147 (by decide +kernel) (by decide +kernel)⟩
theorem fX4_53 : gFl RX4 53 4 7 := ⟨_, _, _, rfl, by decide, gin 148 (by decide +kernel) (by decide +kernel)⟩
theorem fX4_104 : gFl RX4 104 4 8 := ⟨_, _, _, rfl, by decide, gin 149 (by decide +kernel) (by decide +kernel)⟩
theorem fX4_113 : gFl RX4 113 4 9 := ⟨_, _, _, rfl, by decide, gin 150 (by decide +kernel) (by decide +kernel)⟩
theorem fX2_9 : gFl RX2 9 2 0 := ⟨_, _, _, rfl, by decide, gin 187 (by decide +kernel) (by decide +kernel)⟩
theorem fX6_79 : gFl RX6 79 2 0 := ⟨_, _, _, rfl, by decide, gin 188 (by decide +kernel) (by decide +kernel)⟩
theorem fX2_15 : gFl RX2 15 2 1 := ⟨_, _, _, rfl, by decide, gin 189 (by decide +kernel) (by decide +kernel)⟩
theorem fX2_20 : gFl RX2 20 2 2 := ⟨_, _, _, rfl, by decide, gin 190 (by decide +kernel) (by decide +kernel)⟩
theorem fX3_27 : gFl RX3 27 2 2 := ⟨_, _, _, rfl, by decide, gin 191 (by decide +kernel) (by decide +kernel)⟩
theorem fX7_31 : gFl RX7 31 2 2 := ⟨_, _, _, rfl, by decide, gin 192 (by decide +kernel) (by decide +kernel)⟩
theorem fX7_25 : gFl RX7 25 2 3 := ⟨_, _, _, rfl, by decide, gin 193 (by decide +kernel) (by decide +kernel)⟩
theorem fX2_23 : gFl RX2 23 2 3 := ⟨_, _, _, rfl, by decide, gin 194 (by decide +kernel) (by decide +kernel)⟩
theorem fX3_21 : gFl RX3 21 2 3 := ⟨_, _, _, rfl, by decide, gin 195 (by decide +kernel) (by decide +kernel)⟩
theorem fX6_71 : gFl RX6 71 2 3 := ⟨_, _, _, rfl, by decide, gin 196 (by decide +kernel) (by decide +kernel)⟩
theorem fX8_142 : gFl RX8 142 2 3 := ⟨_, _, _, rfl, by decide, gin 197 (by decide +kernel) (by decide +kernel)⟩
theorem fX7_11 : gFl RX7 11 7 0 := ⟨_, _, _, rfl, by decide, gin 217 (by decide +kernel) (by decide +kernel)⟩
theorem fX7_18 : gFl RX7 18 7 1 := ⟨_, _, _, rfl, by decide, gin 218 (by decide +kernel) (by decide +kernel)⟩
theorem fX7_21 : gFl RX7 21 7 2 := ⟨_, _, _, rfl, by decide, gin 219 (by decide +kernel) (by decide +kernel)⟩
theorem fX6_75 : gFl RX6 75 7 2 := ⟨_, _, _, rfl, by decide, gin 220 (by decide +kernel) (by decide +kernel)⟩
theorem fX3_11 : gFl RX3 11 3 0 := ⟨_, _, _, rfl, by decide, gin 236 (by decide +kernel) (by decide +kernel)⟩
theorem fX3_18 : gFl RX3 18 3 1 := ⟨_, _, _, rfl, by decide, gin 237 (by decide +kernel) (by decide +kernel)⟩
theorem fX6_115 : gFl RX6 115 3 1 := ⟨_, _, _, rfl, by decide, gin 238 (by decide +kernel) (by decide +kernel)⟩
theorem fX5_9 : gFl RX5 9 5 0 := ⟨_, _, _, rfl, by decide, gin 250 (by decide +kernel) (by decide +kernel)⟩
theorem fX7_57 : gFl RX7 57 5 0 := ⟨_, _, _, rfl, by decide, gin 251 (by decide +kernel) (by decide +kernel)⟩
theorem fX5_15 : gFl RX5 15 5 1 := ⟨_, _, _, rfl, by decide, gin 252 (by decide +kernel) (by decide +kernel)⟩
theorem fX7_48 : gFl RX7 48 5 1 := ⟨_, _, _, rfl, by decide, gin 253 (by decide +kernel) (by decide +kernel)⟩
theorem fX8_102 : gFl RX8 102 5 1 := ⟨_, _, _, rfl, by decide, gin 254 (by decide +kernel) (by decide +kernel)⟩
theorem fX7_53 : gFl RX7 53 5 2 := ⟨_, _, _, rfl, by decide, gin 255 (by decide +kernel) (by decide +kernel)⟩
theorem fX8_154 : gFl RX8 154 5 2 := ⟨_, _, _, rfl, by decide, gin 256 (by decide +kernel) (by decide +kernel)⟩
theorem fX6_46 : gFl RX6 46 6 0 := ⟨_, _, _, rfl, by decide, gin 265 (by decide +kernel) (by decide +kernel)⟩
theorem fX6_12 : gFl RX6 12 6 1 := ⟨_, _, _, rfl, by decide, gin 266 (by decide +kernel) (by decide +kernel)⟩
theorem fX6_21 : gFl RX6 21 6 2 := ⟨_, _, _, rfl, by decide, gin 267 (by decide +kernel) (by decide +kernel)⟩
theorem fX6_25 : gFl RX6 25 6 3 := ⟨_, _, _, rfl, by decide, gin 268 (by decide +kernel) (by decide +kernel)⟩
theorem fX6_31 : gFl RX6 31 6 4 := ⟨_, _, _, rfl, by decide, gin 269 (by decide +kernel) (by decide +kernel)⟩
theorem fX6_38 : gFl RX6 38 6 5 := ⟨_, _, _, rfl, by decide, gin 270 (by decide +kernel) (by decide +kernel)⟩
theorem fX6_42 : gFl RX6 42 6 6 := ⟨_, _, _, rfl, by decide, gin 271 (by decide +kernel) (by decide +kernel)⟩
theorem fX6_50 : gFl RX6 50 6 7 := ⟨_, _, _, rfl, by decide, gin 272 (by decide +kernel) (by decide +kernel)⟩
theorem fX6_54 : gFl RX6 54 6 8 := ⟨_, _, _, rfl, by decide, gin 273 (by decide +kernel) (by decide +kernel)⟩
theorem fX6_57 : gFl RX6 57 6 9 := ⟨_, _, _, rfl, by decide, gin 274 (by decide +kernel) (by decide +kernel)⟩
theorem fX6_60 : gFl RX6 60 6 10 := ⟨_, _, _, rfl, by decide, gin 275 (by decide +kernel) (by decide +kernel)⟩
theorem fX8_10 : gFl RX8 10 8 0 := ⟨_, _, _, rfl, by decide, gin 299 (by decide +kernel) (by decide +kernel)⟩
theorem fX8_19 : gFl RX8 19 8 1 := ⟨_, _, _, rfl, by decide, gin 300 (by decide +kernel) (by decide +kernel)⟩
theorem fX8_23 : gFl RX8 23 8 2 := ⟨_, _, _, rfl, by decide, gin 301 (by decide +kernel) (by decide +kernel)⟩
theorem fX8_27 : gFl RX8 27 8 3 := ⟨_, _, _, rfl, by decide, gin 302 (by decide +kernel) (by decide +kernel)⟩
theorem fX8_34 : gFl RX8 34 8 4 := ⟨_, _, _, rfl, by decide, gin 303 (by decide +kernel) (by decide +kernel)⟩
theorem fX8_43 : gFl RX8 43 8 5 := ⟨_, _, _, rfl, by decide, gin 304 (by decide +kernel) (by decide +kernel)⟩
theorem fX9_60 : gFl RX9 60 9 0 := ⟨_, _, _, rfl, by decide, gin 648 (by decide +kernel) (by decide +kernel)⟩
theorem fX9_7 : gFl RX9 7 9 1 := ⟨_, _, _, rfl, by decide, gin 649 (by decide +kernel) (by decide +kernel)⟩
theorem fX9_116 : gFl RX9 116 9 2 := ⟨_, _, _, rfl, by decide, gin 650 (by decide +kernel) (by decide +kernel)⟩
theorem fX9_119 : gFl RX9 119 9 3 := ⟨_, _, _, rfl, by decide, gin 651 (by decide +kernel) (by decide +kernel)⟩
theorem fX9_13 : gFl RX9 13 9 4 := ⟨_, _, _, rfl, by decide, gin 652 (by decide +kernel) (by decide +kernel)⟩
theorem fX9_17 : gFl RX9 17 9 5 := ⟨_, _, _, rfl, by decide, gin 653 (by decide +kernel) (by decide +kernel)⟩
theorem fX9_20 : gFl RX9 20 9 6 := ⟨_, _, _, rfl, by decide, gin 654 (by decide +kernel) (by decide +kernel)⟩
theorem fX9_23 : gFl RX9 23 9 7 := ⟨_, _, _, rfl, by decide, gin 655 (by decide +kernel) (by decide +kernel)⟩
theorem fX9_67 : gFl RX9 67 9 8 := ⟨_, _, _, rfl, by decide, gin 656 (by decide +kernel) (by decide +kernel)⟩
theorem fX9_70 : gFl RX9 70 9 9 := ⟨_, _, _, rfl, by decide, gin 657 (by decide +kernel) (by decide +kernel)⟩
theorem fX9_83 : gFl RX9 83 9 10 := ⟨_, _, _, rfl, by decide, gin 658 (by decide +kernel) (by decide +kernel)⟩
theorem fX9_98 : gFl RX9 98 9 11 := ⟨_, _, _, rfl, by decide, gin 659 (by decide +kernel) (by decide +kernel)⟩
theorem fX9_101 : gFl RX9 101 9 12 := ⟨_, _, _, rfl, by decide, gin 660 (by decide +kernel) (by decide +kernel)⟩
theorem fX9_80 : gFl RX9 80 9 13 := ⟨_, _, _, rfl, by decide, gin 661 (by decide +kernel) (by decide +kernel)⟩
theorem fX9_26 : gFl RX9 26 9 14 := ⟨_, _, _, rfl, by decide, gin 662 (by decide +kernel) (by decide +kernel)⟩
theorem fX9_29 : gFl RX9 29 9 15 := ⟨_, _, _, rfl, by decide, gin 663 (by decide +kernel) (by decide +kernel)⟩
theorem fX9_32 : gFl RX9 32 9 16 := ⟨_, _, _, rfl, by decide, gin 664 (by decide +kernel) (by decide +kernel)⟩
theorem fX9_122 : gFl RX9 122 9 17 := ⟨_, _, _, rfl, by decide, gin 665 (by decide +kernel) (by decide +kernel)⟩
theorem fX9_35 : gFl RX9 35 9 18 := ⟨_, _, _, rfl, by decide, gin 666 (by decide +kernel) (by decide +kernel)⟩
theorem fX9_142 : gFl RX9 142 9 19 := ⟨_, _, _, rfl, by decide, gin 667 (by decide +kernel) (by decide +kernel)⟩
theorem fX9_38 : gFl RX9 38 9 20 := ⟨_, _, _, rfl, by decide, gin 668 (by decide +kernel) (by decide +kernel)⟩
theorem fX9_41 : gFl RX9 41 9 21 := ⟨_, _, _, rfl, by decide, gin 669 (by decide +kernel) (by decide +kernel)⟩
theorem fX9_44 : gFl RX9 44 9 22 := ⟨_, _, _, rfl, by decide, gin 670 (by decide +kernel) (by decide +kernel)⟩
theorem fX9_48 : gFl RX9 48 9 23 := ⟨_, _, _, rfl, by decide, gin 671 (by decide +kernel) (by decide +kernel)⟩
theorem fX9_163 : gFl RX9 163 9 24 := ⟨_, _, _, rfl, by decide, gin 672 (by decide +kernel) (by decide +kernel)⟩
theorem fX9_51 : gFl RX9 51 9 25 := ⟨_, _, _, rfl, by decide, gin 673 (by decide +kernel) (by decide +kernel)⟩
theorem fX9_54 : gFl RX9 54 9 26 := ⟨_, _, _, rfl, by decide, gin 674 (by decide +kernel) (by decide +kernel)⟩
theorem fX9_57 : gFl RX9 57 9 27 := ⟨_, _, _, rfl, by decide, gin 675 (by decide +kernel) (by decide +kernel)⟩
theorem mX8_init : gMd yX8_init cX8_init 2 none 0 := ⟨gin 67 (by decide +kernel) (by decide +kernel), gin 50 (by decide +kernel) (by decide +kernel), ⟨by decide +kernel, by decide +kernel, by decide +kernel⟩, by decide +kernel, by decide⟩
theorem o_code : Cond.code objectInit ⟨#[0xb1]⟩ 1 none ∈ gT := gin 70 (by decide +kernel) (by decide +kernel)
theorem o_inst : Cond.instanceMethod objectInit ∈ gT := gin 69 (by decide +kernel) (by decide +kernel)
theorem mX0_init : gMd yX0_init cX0_init 1 none 0 := ⟨gin 75 (by decide +kernel) (by decide +kernel), gin 51 (by decide +kernel) (by decide +kernel), ⟨by decide +kernel, by decide +kernel, by decide +kernel⟩, by decide +kernel, by decide⟩
theorem mX0_empty : gMd yX0_empty cX0_empty 1 none 0 := ⟨gin 80 (by decide +kernel) (by decide +kernel), gin 51 (by decide +kernel) (by decide +kernel), ⟨by decide +kernel, by decide +kernel, by decide +kernel⟩, by decide +kernel, by decide⟩
theorem mJ7_fill_53178 : gMd yJ7_fill_53178 cJ7_fill_53178 4 none 2 := ⟨gin 83 (by decide +kernel) (by decide +kernel), gin 52 (by decide +kernel) (by decide +kernel), ⟨by decide +kernel, by decide +kernel, by decide +kernel⟩, by decide +kernel, by decide⟩
theorem mX1_init : gMd yX1_init cX1_init 2 none 0 := ⟨gin 115 (by decide +kernel) (by decide +kernel), gin 53 (by decide +kernel) (by decide +kernel), ⟨by decide +kernel, by decide +kernel, by decide +kernel⟩, by decide +kernel, by decide⟩
theorem mX4_init : gMd yX4_init cX4_init 1 none 0 := ⟨gin 135 (by decide +kernel) (by decide +kernel), gin 54 (by decide +kernel) (by decide +kernel), ⟨by decide +kernel, by decide +kernel, by decide +kernel⟩, by decide +kernel, by decide⟩
theorem mX6_init : gMd yX6_init cX6_init 3 none 1 := ⟨gin 177 (by decide +kernel) (by decide +kernel), gin 55 (by decide +kernel) (by decide +kernel), ⟨by decide +kernel, by decide +kernel, by decide +kernel⟩, by decide +kernel, by decide⟩
theorem mX2_init : gMd yX2_init cX2_init 1 none 0 := ⟨gin 183 (by decide +kernel) (by decide +kernel), gin 56 (by decide +kernel) (by decide +kernel), ⟨by decide +kernel, by decide +kernel, by decide +kernel⟩, by decide +kernel, by decide⟩
theorem mX7_init : gMd yX7_init cX7_init 1 none 0 := ⟨gin 212 (by decide +kernel) (by decide +kernel), gin 57 (by decide +kernel) (by decide +kernel), ⟨by decide +kernel, by decide +kernel, by decide +kernel⟩, by decide +kernel, by decide⟩
theorem mX3_init : gMd yX3_init cX3_init 1 none 0 := ⟨gin 232 (by decide +kernel) (by decide +kernel), gin 58 (by decide +kernel) (by decide +kernel), ⟨by decide +kernel, by decide +kernel, by decide +kernel⟩, by decide +kernel, by decide⟩
theorem mX5_init : gMd yX5_init cX5_init 1 none 0 := ⟨gin 248 (by decide +kernel) (by decide +kernel), gin 59 (by decide +kernel) (by decide +kernel), ⟨by decide +kernel, by decide +kernel, by decide +kernel⟩, by decide +kernel, by decide⟩
theorem mX8_type : gMd yX8_type cX8_type 2 (some FieldType.int) 1 := ⟨gin 321 (by decide +kernel) (by decide +kernel), gin 50 (by decide +kernel) (by decide +kernel), ⟨by decide +kernel, by decide +kernel, by decide +kernel⟩, by decide +kernel, by decide⟩
theorem mX4_append : gMd yX4_append cX4_append 2 (some FieldType.boolean) 1 := ⟨gin 325 (by decide +kernel) (by decide +kernel), gin 54 (by decide +kernel) (by decide +kernel), ⟨by decide +kernel, by decide +kernel, by decide +kernel⟩, by decide +kernel, by decide⟩
theorem mX8_clear : gMd yX8_clear cX8_clear 2 (some FieldType.int) 0 := ⟨gin 329 (by decide +kernel) (by decide +kernel), gin 50 (by decide +kernel) (by decide +kernel), ⟨by decide +kernel, by decide +kernel, by decide +kernel⟩, by decide +kernel, by decide⟩
theorem mX8_map : gMd yX8_map cX8_map 3 (some FieldType.int) 0 := ⟨gin 333 (by decide +kernel) (by decide +kernel), gin 50 (by decide +kernel) (by decide +kernel), ⟨by decide +kernel, by decide +kernel, by decide +kernel⟩, by decide +kernel, by decide⟩
theorem mX4_read : gMd yX4_read cX4_read 4 (some FieldType.int) 0 := ⟨gin 337 (by decide +kernel) (by decide +kernel), gin 54 (by decide +kernel) (by decide +kernel), ⟨by decide +kernel, by decide +kernel, by decide +kernel⟩, by decide +kernel, by decide⟩
theorem mX4_begin : gMd yX4_begin cX4_begin 1 none 0 := ⟨gin 341 (by decide +kernel) (by decide +kernel), gin 54 (by decide +kernel) (by decide +kernel), ⟨by decide +kernel, by decide +kernel, by decide +kernel⟩, by decide +kernel, by decide⟩
theorem mX4_tokenEnd : gMd yX4_tokenEnd cX4_tokenEnd 4 (some FieldType.int) 1 := ⟨gin 346 (by decide +kernel) (by decide +kernel), gin 54 (by decide +kernel) (by decide +kernel), ⟨by decide +kernel, by decide +kernel, by decide +kernel⟩, by decide +kernel, by decide⟩
theorem mX4_isLetter : gMd yX4_isLetter cX4_isLetter 1 (some FieldType.boolean) 1 := ⟨gin 349 (by decide +kernel) (by decide +kernel), gin 54 (by decide +kernel) (by decide +kernel), ⟨by decide +kernel, by decide +kernel, by decide +kernel⟩, by decide +kernel, by decide⟩
theorem mX4_isDigit : gMd yX4_isDigit cX4_isDigit 1 (some FieldType.boolean) 1 := ⟨gin 352 (by decide +kernel) (by decide +kernel), gin 54 (by decide +kernel) (by decide +kernel), ⟨by decide +kernel, by decide +kernel, by decide +kernel⟩, by decide +kernel, by decide⟩
theorem mX4_takes : gMd yX4_takes cX4_takes 3 (some FieldType.boolean) 2 := ⟨gin 356 (by decide +kernel) (by decide +kernel), gin 54 (by decide +kernel) (by decide +kernel), ⟨by decide +kernel, by decide +kernel, by decide +kernel⟩, by decide +kernel, by decide⟩
theorem mX4_takesLetter : gMd yX4_takesLetter cX4_takesLetter 2 (some FieldType.boolean) 1 := ⟨gin 360 (by decide +kernel) (by decide +kernel), gin 54 (by decide +kernel) (by decide +kernel), ⟨by decide +kernel, by decide +kernel, by decide +kernel⟩, by decide +kernel, by decide⟩
theorem mX4_beginsPlace : gMd yX4_beginsPlace cX4_beginsPlace 1 (some FieldType.boolean) 0 := ⟨gin 364 (by decide +kernel) (by decide +kernel), gin 54 (by decide +kernel) (by decide +kernel), ⟨by decide +kernel, by decide +kernel, by decide +kernel⟩, by decide +kernel, by decide⟩
theorem mX4_beginsClasses : gMd yX4_beginsClasses cX4_beginsClasses 1 (some FieldType.boolean) 0 := ⟨gin 368 (by decide +kernel) (by decide +kernel), gin 54 (by decide +kernel) (by decide +kernel), ⟨by decide +kernel, by decide +kernel, by decide +kernel⟩, by decide +kernel, by decide⟩
theorem mX4_beginsCost : gMd yX4_beginsCost cX4_beginsCost 1 (some FieldType.boolean) 0 := ⟨gin 372 (by decide +kernel) (by decide +kernel), gin 54 (by decide +kernel) (by decide +kernel), ⟨by decide +kernel, by decide +kernel, by decide +kernel⟩, by decide +kernel, by decide⟩
theorem mX4_numeral : gMd yX4_numeral cX4_numeral 5 (some FieldType.int) 2 := ⟨gin 376 (by decide +kernel) (by decide +kernel), gin 54 (by decide +kernel) (by decide +kernel), ⟨by decide +kernel, by decide +kernel, by decide +kernel⟩, by decide +kernel, by decide⟩
theorem mX4_takesNumeral : gMd yX4_takesNumeral cX4_takesNumeral 2 (some FieldType.boolean) 1 := ⟨gin 380 (by decide +kernel) (by decide +kernel), gin 54 (by decide +kernel) (by decide +kernel), ⟨by decide +kernel, by decide +kernel, by decide +kernel⟩, by decide +kernel, by decide⟩
theorem mX4_takesRow : gMd yX4_takesRow cX4_takesRow 2 (some FieldType.boolean) 1 := ⟨gin 384 (by decide +kernel) (by decide +kernel), gin 54 (by decide +kernel) (by decide +kernel), ⟨by decide +kernel, by decide +kernel, by decide +kernel⟩, by decide +kernel, by decide⟩
theorem mX8_isSide : gMd yX8_isSide cX8_isSide 1 (some FieldType.boolean) 1 := ⟨gin 387 (by decide +kernel) (by decide +kernel), gin 50 (by decide +kernel) (by decide +kernel), ⟨by decide +kernel, by decide +kernel, by decide +kernel⟩, by decide +kernel, by decide⟩
theorem mX4_takesColumn : gMd yX4_takesColumn cX4_takesColumn 3 (some FieldType.boolean) 1 := ⟨gin 391 (by decide +kernel) (by decide +kernel), gin 54 (by decide +kernel) (by decide +kernel), ⟨by decide +kernel, by decide +kernel, by decide +kernel⟩, by decide +kernel, by decide⟩
theorem mX8_cellOf : gMd yX8_cellOf cX8_cellOf 2 (some FieldType.int) 2 := ⟨gin 394 (by decide +kernel) (by decide +kernel), gin 50 (by decide +kernel) (by decide +kernel), ⟨by decide +kernel, by decide +kernel, by decide +kernel⟩, by decide +kernel, by decide⟩
theorem mX4_takesNumber : gMd yX4_takesNumber cX4_takesNumber 2 (some FieldType.boolean) 1 := ⟨gin 399 (by decide +kernel) (by decide +kernel), gin 54 (by decide +kernel) (by decide +kernel), ⟨by decide +kernel, by decide +kernel, by decide +kernel⟩, by decide +kernel, by decide⟩
theorem mX4_takesClasses : gMd yX4_takesClasses cX4_takesClasses 2 (some FieldType.boolean) 1 := ⟨gin 403 (by decide +kernel) (by decide +kernel), gin 54 (by decide +kernel) (by decide +kernel), ⟨by decide +kernel, by decide +kernel, by decide +kernel⟩, by decide +kernel, by decide⟩
theorem mX8_isClasses : gMd yX8_isClasses cX8_isClasses 1 (some FieldType.boolean) 1 := ⟨gin 406 (by decide +kernel) (by decide +kernel), gin 50 (by decide +kernel) (by decide +kernel), ⟨by decide +kernel, by decide +kernel, by decide +kernel⟩, by decide +kernel, by decide⟩
theorem mX4_takesCost : gMd yX4_takesCost cX4_takesCost 2 (some FieldType.boolean) 1 := ⟨gin 410 (by decide +kernel) (by decide +kernel), gin 54 (by decide +kernel) (by decide +kernel), ⟨by decide +kernel, by decide +kernel, by decide +kernel⟩, by decide +kernel, by decide⟩
theorem mX4_takesEnd : gMd yX4_takesEnd cX4_takesEnd 1 (some FieldType.boolean) 0 := ⟨gin 414 (by decide +kernel) (by decide +kernel), gin 54 (by decide +kernel) (by decide +kernel), ⟨by decide +kernel, by decide +kernel, by decide +kernel⟩, by decide +kernel, by decide⟩
theorem mX0_become : gMd yX0_become cX0_become 2 none 1 := ⟨gin 418 (by decide +kernel) (by decide +kernel), gin 51 (by decide +kernel) (by decide +kernel), ⟨by decide +kernel, by decide +kernel, by decide +kernel⟩, by decide +kernel, by decide⟩
theorem mX1_forget : gMd yX1_forget cX1_forget 1 none 0 := ⟨gin 425 (by decide +kernel) (by decide +kernel), gin 53 (by decide +kernel) (by decide +kernel), ⟨by decide +kernel, by decide +kernel, by decide +kernel⟩, by decide +kernel, by decide⟩
theorem mX6_forget : gMd yX6_forget cX6_forget 1 none 0 := ⟨gin 429 (by decide +kernel) (by decide +kernel), gin 55 (by decide +kernel) (by decide +kernel), ⟨by decide +kernel, by decide +kernel, by decide +kernel⟩, by decide +kernel, by decide⟩
theorem mX8_puts : gMd yX8_puts cX8_puts 6 (some FieldType.int) 3 := ⟨gin 433 (by decide +kernel) (by decide +kernel), gin 50 (by decide +kernel) (by decide +kernel), ⟨by decide +kernel, by decide +kernel, by decide +kernel⟩, by decide +kernel, by decide⟩
theorem mX0_places : gMd yX0_places cX0_places 6 (some FieldType.int) 0 := ⟨gin 438 (by decide +kernel) (by decide +kernel), gin 51 (by decide +kernel) (by decide +kernel), ⟨by decide +kernel, by decide +kernel, by decide +kernel⟩, by decide +kernel, by decide⟩
theorem mX8_aheadOfChange : gMd yX8_aheadOfChange cX8_aheadOfChange 1 none 0 := ⟨gin 442 (by decide +kernel) (by decide +kernel), gin 50 (by decide +kernel) (by decide +kernel), ⟨by decide +kernel, by decide +kernel, by decide +kernel⟩, by decide +kernel, by decide⟩
theorem mX1_remember : gMd yX1_remember cX1_remember 2 none 1 := ⟨gin 446 (by decide +kernel) (by decide +kernel), gin 53 (by decide +kernel) (by decide +kernel), ⟨by decide +kernel, by decide +kernel, by decide +kernel⟩, by decide +kernel, by decide⟩
theorem x_min : Cond.code Lib.Math.min.name Lib.Math.min.code 2 (some .int) ∈ gT := gin 450 (by decide +kernel) (by decide +kernel)
theorem mX8_drops : gMd yX8_drops cX8_drops 5 (some FieldType.int) 2 := ⟨gin 454 (by decide +kernel) (by decide +kernel), gin 50 (by decide +kernel) (by decide +kernel), ⟨by decide +kernel, by decide +kernel, by decide +kernel⟩, by decide +kernel, by decide⟩
theorem mX8_asks : gMd yX8_asks cX8_asks 3 (some FieldType.int) 1 := ⟨gin 458 (by decide +kernel) (by decide +kernel), gin 50 (by decide +kernel) (by decide +kernel), ⟨by decide +kernel, by decide +kernel, by decide +kernel⟩, by decide +kernel, by decide⟩
theorem mX8_costs : gMd yX8_costs cX8_costs 3 (some FieldType.int) 1 := ⟨gin 463 (by decide +kernel) (by decide +kernel), gin 50 (by decide +kernel) (by decide +kernel), ⟨by decide +kernel, by decide +kernel, by decide +kernel⟩, by decide +kernel, by decide⟩
theorem mX8_closes : gMd yX8_closes cX8_closes 5 (some FieldType.int) 0 := ⟨gin 467 (by decide +kernel) (by decide +kernel), gin 50 (by decide +kernel) (by decide +kernel), ⟨by decide +kernel, by decide +kernel, by decide +kernel⟩, by decide +kernel, by decide⟩
theorem mX6_ofNow : gMd yX6_ofNow cX6_ofNow 2 (some (FieldType.object "ShadeClasses$Parting")) 0 := ⟨gin 471 (by decide +kernel) (by decide +kernel), gin 55 (by decide +kernel) (by decide +kernel), ⟨by decide +kernel, by decide +kernel, by decide +kernel⟩, by decide +kernel, by decide⟩
theorem mX6_rungs : gMd yX6_rungs cX6_rungs 1 (some (FieldType.object "ShadeClasses$Ladder")) 0 := ⟨gin 475 (by decide +kernel) (by decide +kernel), gin 55 (by decide +kernel) (by decide +kernel), ⟨by decide +kernel, by decide +kernel, by decide +kernel⟩, by decide +kernel, by decide⟩
theorem mX2_build : gMd yX2_build cX2_build 6 none 1 := ⟨gin 479 (by decide +kernel) (by decide +kernel), gin 56 (by decide +kernel) (by decide +kernel), ⟨by decide +kernel, by decide +kernel, by decide +kernel⟩, by decide +kernel, by decide⟩
theorem mX2_add : gMd yX2_add cX2_add 3 none 1 := ⟨gin 483 (by decide +kernel) (by decide +kernel), gin 56 (by decide +kernel) (by decide +kernel), ⟨by decide +kernel, by decide +kernel, by decide +kernel⟩, by decide +kernel, by decide⟩
theorem mX2_rankOf : gMd yX2_rankOf cX2_rankOf 3 (some FieldType.int) 1 := ⟨gin 487 (by decide +kernel) (by decide +kernel), gin 56 (by decide +kernel) (by decide +kernel), ⟨by decide +kernel, by decide +kernel, by decide +kernel⟩, by decide +kernel, by decide⟩
theorem mX2_measureFrom : gMd yX2_measureFrom cX2_measureFrom 9 none 1 := ⟨gin 492 (by decide +kernel) (by decide +kernel), gin 56 (by decide +kernel) (by decide +kernel), ⟨by decide +kernel, by decide +kernel, by decide +kernel⟩, by decide +kernel, by decide⟩
theorem mX0_feeOf : gMd yX0_feeOf cX0_feeOf 2 (some FieldType.long) 1 := ⟨gin 497 (by decide +kernel) (by decide +kernel), gin 51 (by decide +kernel) (by decide +kernel), ⟨by decide +kernel, by decide +kernel, by decide +kernel⟩, by decide +kernel, by decide⟩
theorem mX0_isOld : gMd yX0_isOld cX0_isOld 3 (some FieldType.boolean) 1 := ⟨gin 501 (by decide +kernel) (by decide +kernel), gin 51 (by decide +kernel) (by decide +kernel), ⟨by decide +kernel, by decide +kernel, by decide +kernel⟩, by decide +kernel, by decide⟩
theorem mX7_build : gMd yX7_build cX7_build 6 none 2 := ⟨gin 506 (by decide +kernel) (by decide +kernel), gin 57 (by decide +kernel) (by decide +kernel), ⟨by decide +kernel, by decide +kernel, by decide +kernel⟩, by decide +kernel, by decide⟩
theorem mX7_choose : gMd yX7_choose cX7_choose 10 none 3 := ⟨gin 510 (by decide +kernel) (by decide +kernel), gin 57 (by decide +kernel) (by decide +kernel), ⟨by decide +kernel, by decide +kernel, by decide +kernel⟩, by decide +kernel, by decide⟩
theorem mX7_follow : gMd yX7_follow cX7_follow 8 none 3 := ⟨gin 515 (by decide +kernel) (by decide +kernel), gin 57 (by decide +kernel) (by decide +kernel), ⟨by decide +kernel, by decide +kernel, by decide +kernel⟩, by decide +kernel, by decide⟩
theorem mX8_strangeBorders : gMd yX8_strangeBorders cX8_strangeBorders 5 (some FieldType.int) 2 := ⟨gin 521 (by decide +kernel) (by decide +kernel), gin 50 (by decide +kernel) (by decide +kernel), ⟨by decide +kernel, by decide +kernel, by decide +kernel⟩, by decide +kernel, by decide⟩
theorem mX5_beginOf : gMd yX5_beginOf cX5_beginOf 2 (some FieldType.int) 1 := ⟨gin 525 (by decide +kernel) (by decide +kernel), gin 59 (by decide +kernel) (by decide +kernel), ⟨by decide +kernel, by decide +kernel, by decide +kernel⟩, by decide +kernel, by decide⟩
theorem mX2_numberAt : gMd yX2_numberAt cX2_numberAt 2 (some FieldType.int) 1 := ⟨gin 529 (by decide +kernel) (by decide +kernel), gin 56 (by decide +kernel) (by decide +kernel), ⟨by decide +kernel, by decide +kernel, by decide +kernel⟩, by decide +kernel, by decide⟩
theorem x_max : Cond.code Lib.Math.max.name Lib.Math.max.code 2 (some .int) ∈ gT := gin 533 (by decide +kernel) (by decide +kernel)
theorem mX8_undo : gMd yX8_undo cX8_undo 1 (some FieldType.int) 0 := ⟨gin 537 (by decide +kernel) (by decide +kernel), gin 50 (by decide +kernel) (by decide +kernel), ⟨by decide +kernel, by decide +kernel, by decide +kernel⟩, by decide +kernel, by decide⟩
theorem mX1_recall : gMd yX1_recall cX1_recall 2 none 1 := ⟨gin 541 (by decide +kernel) (by decide +kernel), gin 53 (by decide +kernel) (by decide +kernel), ⟨by decide +kernel, by decide +kernel, by decide +kernel⟩, by decide +kernel, by decide⟩
theorem mX8_place : gMd yX8_place cX8_place 8 (some FieldType.int) 3 := ⟨gin 546 (by decide +kernel) (by decide +kernel), gin 50 (by decide +kernel) (by decide +kernel), ⟨by decide +kernel, by decide +kernel, by decide +kernel⟩, by decide +kernel, by decide⟩
theorem mX5_runOf : gMd yX5_runOf cX5_runOf 3 (some FieldType.int) 1 := ⟨gin 551 (by decide +kernel) (by decide +kernel), gin 59 (by decide +kernel) (by decide +kernel), ⟨by decide +kernel, by decide +kernel, by decide +kernel⟩, by decide +kernel, by decide⟩
theorem mX8_tintOf : gMd yX8_tintOf cX8_tintOf 2 (some FieldType.int) 2 := ⟨gin 555 (by decide +kernel) (by decide +kernel), gin 50 (by decide +kernel) (by decide +kernel), ⟨by decide +kernel, by decide +kernel, by decide +kernel⟩, by decide +kernel, by decide⟩
theorem mX8_sorted : gMd yX8_sorted cX8_sorted 4 (some FieldType.int) 2 := ⟨gin 560 (by decide +kernel) (by decide +kernel), gin 50 (by decide +kernel) (by decide +kernel), ⟨by decide +kernel, by decide +kernel, by decide +kernel⟩, by decide +kernel, by decide⟩
theorem mX2_weightAt : gMd yX2_weightAt cX2_weightAt 2 (some FieldType.int) 1 := ⟨gin 564 (by decide +kernel) (by decide +kernel), gin 56 (by decide +kernel) (by decide +kernel), ⟨by decide +kernel, by decide +kernel, by decide +kernel⟩, by decide +kernel, by decide⟩
theorem mX8_now : gMd yX8_now cX8_now 2 (some FieldType.int) 1 := ⟨gin 568 (by decide +kernel) (by decide +kernel), gin 50 (by decide +kernel) (by decide +kernel), ⟨by decide +kernel, by decide +kernel, by decide +kernel⟩, by decide +kernel, by decide⟩
theorem mX8_beginning : gMd yX8_beginning cX8_beginning 3 (some FieldType.int) 2 := ⟨gin 572 (by decide +kernel) (by decide +kernel), gin 50 (by decide +kernel) (by decide +kernel), ⟨by decide +kernel, by decide +kernel, by decide +kernel⟩, by decide +kernel, by decide⟩
theorem mX8_spread : gMd yX8_spread cX8_spread 2 (some FieldType.long) 1 := ⟨gin 576 (by decide +kernel) (by decide +kernel), gin 50 (by decide +kernel) (by decide +kernel), ⟨by decide +kernel, by decide +kernel, by decide +kernel⟩, by decide +kernel, by decide⟩
theorem mX8_inLeastTerms : gMd yX8_inLeastTerms cX8_inLeastTerms 5 (some FieldType.long) 2 := ⟨gin 580 (by decide +kernel) (by decide +kernel), gin 50 (by decide +kernel) (by decide +kernel), ⟨by decide +kernel, by decide +kernel, by decide +kernel⟩, by decide +kernel, by decide⟩
theorem mX8_commonDivisor : gMd yX8_commonDivisor cX8_commonDivisor 11 (some FieldType.long) 2 := ⟨gin 584 (by decide +kernel) (by decide +kernel), gin 50 (by decide +kernel) (by decide +kernel), ⟨by decide +kernel, by decide +kernel, by decide +kernel⟩, by decide +kernel, by decide⟩
theorem mX8_moved : gMd yX8_moved cX8_moved 1 (some FieldType.int) 0 := ⟨gin 588 (by decide +kernel) (by decide +kernel), gin 50 (by decide +kernel) (by decide +kernel), ⟨by decide +kernel, by decide +kernel, by decide +kernel⟩, by decide +kernel, by decide⟩
theorem mX8_least : gMd yX8_least cX8_least 3 (some FieldType.int) 2 := ⟨gin 592 (by decide +kernel) (by decide +kernel), gin 50 (by decide +kernel) (by decide +kernel), ⟨by decide +kernel, by decide +kernel, by decide +kernel⟩, by decide +kernel, by decide⟩
theorem mX6_leastIn : gMd yX6_leastIn cX6_leastIn 3 (some (FieldType.object "ShadeClasses$Parting")) 1 := ⟨gin 596 (by decide +kernel) (by decide +kernel), gin 55 (by decide +kernel) (by decide +kernel), ⟨by decide +kernel, by decide +kernel, by decide +kernel⟩, by decide +kernel, by decide⟩
theorem mX8_gain : gMd yX8_gain cX8_gain 7 (some FieldType.long) 2 := ⟨gin 602 (by decide +kernel) (by decide +kernel), gin 50 (by decide +kernel) (by decide +kernel), ⟨by decide +kernel, by decide +kernel, by decide +kernel⟩, by decide +kernel, by decide⟩
theorem mX8_last : gMd yX8_last cX8_last 3 (some FieldType.int) 2 := ⟨gin 606 (by decide +kernel) (by decide +kernel), gin 50 (by decide +kernel) (by decide +kernel), ⟨by decide +kernel, by decide +kernel, by decide +kernel⟩, by decide +kernel, by decide⟩
theorem mX6_lastBegin : gMd yX6_lastBegin cX6_lastBegin 3 (some FieldType.int) 2 := ⟨gin 610 (by decide +kernel) (by decide +kernel), gin 55 (by decide +kernel) (by decide +kernel), ⟨by decide +kernel, by decide +kernel, by decide +kernel⟩, by decide +kernel, by decide⟩
theorem mX3_build : gMd yX3_build cX3_build 4 none 1 := ⟨gin 615 (by decide +kernel) (by decide +kernel), gin 58 (by decide +kernel) (by decide +kernel), ⟨by decide +kernel, by decide +kernel, by decide +kernel⟩, by decide +kernel, by decide⟩
theorem mX3_choose : gMd yX3_choose cX3_choose 10 none 3 := ⟨gin 619 (by decide +kernel) (by decide +kernel), gin 58 (by decide +kernel) (by decide +kernel), ⟨by decide +kernel, by decide +kernel, by decide +kernel⟩, by decide +kernel, by decide⟩
theorem mX8_enough : gMd yX8_enough cX8_enough 5 (some FieldType.int) 1 := ⟨gin 624 (by decide +kernel) (by decide +kernel), gin 50 (by decide +kernel) (by decide +kernel), ⟨by decide +kernel, by decide +kernel, by decide +kernel⟩, by decide +kernel, by decide⟩
theorem mX8_keep : gMd yX8_keep cX8_keep 2 (some FieldType.int) 1 := ⟨gin 629 (by decide +kernel) (by decide +kernel), gin 50 (by decide +kernel) (by decide +kernel), ⟨by decide +kernel, by decide +kernel, by decide +kernel⟩, by decide +kernel, by decide⟩
theorem mX8_back : gMd yX8_back cX8_back 2 (some FieldType.int) 1 := ⟨gin 633 (by decide +kernel) (by decide +kernel), gin 50 (by decide +kernel) (by decide +kernel), ⟨by decide +kernel, by decide +kernel, by decide +kernel⟩, by decide +kernel, by decide⟩
theorem mX8_count : gMd yX8_count cX8_count 2 (some FieldType.int) 1 := ⟨gin 637 (by decide +kernel) (by decide +kernel), gin 50 (by decide +kernel) (by decide +kernel), ⟨by decide +kernel, by decide +kernel, by decide +kernel⟩, by decide +kernel, by decide⟩
theorem mX0_sum : gMd yX0_sum cX0_sum 6 (some FieldType.int) 0 := ⟨gin 641 (by decide +kernel) (by decide +kernel), gin 51 (by decide +kernel) (by decide +kernel), ⟨by decide +kernel, by decide +kernel, by decide +kernel⟩, by decide +kernel, by decide⟩
theorem mX9_init : gMd yX9_init cX9_init 1 none 0 := ⟨gin 646 (by decide +kernel) (by decide +kernel), gin 60 (by decide +kernel) (by decide +kernel), ⟨by decide +kernel, by decide +kernel, by decide +kernel⟩, by decide +kernel, by decide⟩
theorem mX9_type : gMd yX9_type cX9_type 2 (some FieldType.int) 1 := ⟨gin 736 (by decide +kernel) (by decide +kernel), gin 60 (by decide +kernel) (by decide +kernel), ⟨by decide +kernel, by decide +kernel, by decide +kernel⟩, by decide +kernel, by decide⟩
theorem mX9_in : gMd yX9_in cX9_in 3 (some FieldType.boolean) 3 := ⟨gin 739 (by decide +kernel) (by decide +kernel), gin 60 (by decide +kernel) (by decide +kernel), ⟨by decide +kernel, by decide +kernel, by decide +kernel⟩, by decide +kernel, by decide⟩
theorem mX9_clear : gMd yX9_clear cX9_clear 2 (some FieldType.int) 0 := ⟨gin 743 (by decide +kernel) (by decide +kernel), gin 60 (by decide +kernel) (by decide +kernel), ⟨by decide +kernel, by decide +kernel, by decide +kernel⟩, by decide +kernel, by decide⟩
theorem mX9_map : gMd yX9_map cX9_map 3 (some FieldType.int) 0 := ⟨gin 747 (by decide +kernel) (by decide +kernel), gin 60 (by decide +kernel) (by decide +kernel), ⟨by decide +kernel, by decide +kernel, by decide +kernel⟩, by decide +kernel, by decide⟩
theorem mX9_skip : gMd yX9_skip cX9_skip 1 none 0 := ⟨gin 751 (by decide +kernel) (by decide +kernel), gin 60 (by decide +kernel) (by decide +kernel), ⟨by decide +kernel, by decide +kernel, by decide +kernel⟩, by decide +kernel, by decide⟩
theorem mX9_here : gMd yX9_here cX9_here 1 (some FieldType.int) 0 := ⟨gin 755 (by decide +kernel) (by decide +kernel), gin 60 (by decide +kernel) (by decide +kernel), ⟨by decide +kernel, by decide +kernel, by decide +kernel⟩, by decide +kernel, by decide⟩
theorem mX9_readsItem : gMd yX9_readsItem cX9_readsItem 4 (some FieldType.boolean) 0 := ⟨gin 759 (by decide +kernel) (by decide +kernel), gin 60 (by decide +kernel) (by decide +kernel), ⟨by decide +kernel, by decide +kernel, by decide +kernel⟩, by decide +kernel, by decide⟩
theorem mX9_readsPlace : gMd yX9_readsPlace cX9_readsPlace 4 (some FieldType.boolean) 0 := ⟨gin 763 (by decide +kernel) (by decide +kernel), gin 60 (by decide +kernel) (by decide +kernel), ⟨by decide +kernel, by decide +kernel, by decide +kernel⟩, by decide +kernel, by decide⟩
theorem mX9_number : gMd yX9_number cX9_number 5 (some FieldType.boolean) 2 := ⟨gin 767 (by decide +kernel) (by decide +kernel), gin 60 (by decide +kernel) (by decide +kernel), ⟨by decide +kernel, by decide +kernel, by decide +kernel⟩, by decide +kernel, by decide⟩
theorem mX9_isTold : gMd yX9_isTold cX9_isTold 4 (some FieldType.boolean) 1 := ⟨gin 771 (by decide +kernel) (by decide +kernel), gin 60 (by decide +kernel) (by decide +kernel), ⟨by decide +kernel, by decide +kernel, by decide +kernel⟩, by decide +kernel, by decide⟩
theorem mX9_ends : gMd yX9_ends cX9_ends 1 (some FieldType.boolean) 0 := ⟨gin 775 (by decide +kernel) (by decide +kernel), gin 60 (by decide +kernel) (by decide +kernel), ⟨by decide +kernel, by decide +kernel, by decide +kernel⟩, by decide +kernel, by decide⟩
theorem mX9_readsAsked : gMd yX9_readsAsked cX9_readsAsked 1 (some FieldType.boolean) 0 := ⟨gin 779 (by decide +kernel) (by decide +kernel), gin 60 (by decide +kernel) (by decide +kernel), ⟨by decide +kernel, by decide +kernel, by decide +kernel⟩, by decide +kernel, by decide⟩
theorem mX9_readsCost : gMd yX9_readsCost cX9_readsCost 1 (some FieldType.boolean) 0 := ⟨gin 783 (by decide +kernel) (by decide +kernel), gin 60 (by decide +kernel) (by decide +kernel), ⟨by decide +kernel, by decide +kernel, by decide +kernel⟩, by decide +kernel, by decide⟩
theorem mX9_puts : gMd yX9_puts cX9_puts 6 (some FieldType.int) 3 := ⟨gin 787 (by decide +kernel) (by decide +kernel), gin 60 (by decide +kernel) (by decide +kernel), ⟨by decide +kernel, by decide +kernel, by decide +kernel⟩, by decide +kernel, by decide⟩
theorem mX9_isWhere : gMd yX9_isWhere cX9_isWhere 2 (some FieldType.boolean) 2 := ⟨gin 790 (by decide +kernel) (by decide +kernel), gin 60 (by decide +kernel) (by decide +kernel), ⟨by decide +kernel, by decide +kernel, by decide +kernel⟩, by decide +kernel, by decide⟩
theorem mX9_placeAt : gMd yX9_placeAt cX9_placeAt 4 (some FieldType.int) 1 := ⟨gin 794 (by decide +kernel) (by decide +kernel), gin 60 (by decide +kernel) (by decide +kernel), ⟨by decide +kernel, by decide +kernel, by decide +kernel⟩, by decide +kernel, by decide⟩
theorem mX9_notes : gMd yX9_notes cX9_notes 2 none 0 := ⟨gin 798 (by decide +kernel) (by decide +kernel), gin 60 (by decide +kernel) (by decide +kernel), ⟨by decide +kernel, by decide +kernel, by decide +kernel⟩, by decide +kernel, by decide⟩
theorem mX9_writes : gMd yX9_writes cX9_writes 4 none 2 := ⟨gin 802 (by decide +kernel) (by decide +kernel), gin 60 (by decide +kernel) (by decide +kernel), ⟨by decide +kernel, by decide +kernel, by decide +kernel⟩, by decide +kernel, by decide⟩
theorem mX9_drops : gMd yX9_drops cX9_drops 5 (some FieldType.int) 2 := ⟨gin 806 (by decide +kernel) (by decide +kernel), gin 60 (by decide +kernel) (by decide +kernel), ⟨by decide +kernel, by decide +kernel, by decide +kernel⟩, by decide +kernel, by decide⟩
theorem mX9_asks : gMd yX9_asks cX9_asks 3 (some FieldType.int) 1 := ⟨gin 810 (by decide +kernel) (by decide +kernel), gin 60 (by decide +kernel) (by decide +kernel), ⟨by decide +kernel, by decide +kernel, by decide +kernel⟩, by decide +kernel, by decide⟩
theorem mX9_costs : gMd yX9_costs cX9_costs 3 (some FieldType.int) 1 := ⟨gin 814 (by decide +kernel) (by decide +kernel), gin 60 (by decide +kernel) (by decide +kernel), ⟨by decide +kernel, by decide +kernel, by decide +kernel⟩, by decide +kernel, by decide⟩
theorem mX9_undo : gMd yX9_undo cX9_undo 1 (some FieldType.int) 0 := ⟨gin 818 (by decide +kernel) (by decide +kernel), gin 60 (by decide +kernel) (by decide +kernel), ⟨by decide +kernel, by decide +kernel, by decide +kernel⟩, by decide +kernel, by decide⟩
theorem mX9_readsBack : gMd yX9_readsBack cX9_readsBack 4 none 2 := ⟨gin 822 (by decide +kernel) (by decide +kernel), gin 60 (by decide +kernel) (by decide +kernel), ⟨by decide +kernel, by decide +kernel, by decide +kernel⟩, by decide +kernel, by decide⟩
theorem mX9_closes : gMd yX9_closes cX9_closes 3 (some FieldType.int) 0 := ⟨gin 826 (by decide +kernel) (by decide +kernel), gin 60 (by decide +kernel) (by decide +kernel), ⟨by decide +kernel, by decide +kernel, by decide +kernel⟩, by decide +kernel, by decide⟩
theorem mX9_partsNow : gMd yX9_partsNow cX9_partsNow 1 none 0 := ⟨gin 830 (by decide +kernel) (by decide +kernel), gin 60 (by decide +kernel) (by decide +kernel), ⟨by decide +kernel, by decide +kernel, by decide +kernel⟩, by decide +kernel, by decide⟩
theorem mX9_parts : gMd yX9_parts cX9_parts 5 none 2 := ⟨gin 834 (by decide +kernel) (by decide +kernel), gin 60 (by decide +kernel) (by decide +kernel), ⟨by decide +kernel, by decide +kernel, by decide +kernel⟩, by decide +kernel, by decide⟩
theorem mX9_setSorted : gMd yX9_setSorted cX9_setSorted 7 none 0 := ⟨gin 838 (by decide +kernel) (by decide +kernel), gin 60 (by decide +kernel) (by decide +kernel), ⟨by decide +kernel, by decide +kernel, by decide +kernel⟩, by decide +kernel, by decide⟩
theorem mX9_setFrom : gMd yX9_setFrom cX9_setFrom 8 none 3 := ⟨gin 842 (by decide +kernel) (by decide +kernel), gin 60 (by decide +kernel) (by decide +kernel), ⟨by decide +kernel, by decide +kernel, by decide +kernel⟩, by decide +kernel, by decide⟩
theorem mX9_spreadOf : gMd yX9_spreadOf cX9_spreadOf 9 (some FieldType.long) 2 := ⟨gin 847 (by decide +kernel) (by decide +kernel), gin 60 (by decide +kernel) (by decide +kernel), ⟨by decide +kernel, by decide +kernel, by decide +kernel⟩, by decide +kernel, by decide⟩
theorem mX9_borderAt : gMd yX9_borderAt cX9_borderAt 3 (some FieldType.long) 2 := ⟨gin 852 (by decide +kernel) (by decide +kernel), gin 60 (by decide +kernel) (by decide +kernel), ⟨by decide +kernel, by decide +kernel, by decide +kernel⟩, by decide +kernel, by decide⟩
theorem mX9_isOld : gMd yX9_isOld cX9_isOld 4 (some FieldType.boolean) 1 := ⟨gin 856 (by decide +kernel) (by decide +kernel), gin 60 (by decide +kernel) (by decide +kernel), ⟨by decide +kernel, by decide +kernel, by decide +kernel⟩, by decide +kernel, by decide⟩
theorem mX9_movedMany : gMd yX9_movedMany cX9_movedMany 3 (some FieldType.int) 0 := ⟨gin 860 (by decide +kernel) (by decide +kernel), gin 60 (by decide +kernel) (by decide +kernel), ⟨by decide +kernel, by decide +kernel, by decide +kernel⟩, by decide +kernel, by decide⟩
theorem mX9_moved : gMd yX9_moved cX9_moved 1 (some FieldType.int) 0 := ⟨gin 864 (by decide +kernel) (by decide +kernel), gin 60 (by decide +kernel) (by decide +kernel), ⟨by decide +kernel, by decide +kernel, by decide +kernel⟩, by decide +kernel, by decide⟩
theorem mX9_place : gMd yX9_place cX9_place 6 (some FieldType.int) 3 := ⟨gin 868 (by decide +kernel) (by decide +kernel), gin 60 (by decide +kernel) (by decide +kernel), ⟨by decide +kernel, by decide +kernel, by decide +kernel⟩, by decide +kernel, by decide⟩
theorem mX9_runOf : gMd yX9_runOf cX9_runOf 3 (some FieldType.int) 1 := ⟨gin 872 (by decide +kernel) (by decide +kernel), gin 60 (by decide +kernel) (by decide +kernel), ⟨by decide +kernel, by decide +kernel, by decide +kernel⟩, by decide +kernel, by decide⟩
theorem mX9_sorted : gMd yX9_sorted cX9_sorted 3 (some FieldType.int) 2 := ⟨gin 876 (by decide +kernel) (by decide +kernel), gin 60 (by decide +kernel) (by decide +kernel), ⟨by decide +kernel, by decide +kernel, by decide +kernel⟩, by decide +kernel, by decide⟩
theorem mX9_now : gMd yX9_now cX9_now 2 (some FieldType.int) 1 := ⟨gin 880 (by decide +kernel) (by decide +kernel), gin 60 (by decide +kernel) (by decide +kernel), ⟨by decide +kernel, by decide +kernel, by decide +kernel⟩, by decide +kernel, by decide⟩
theorem mX9_beginOf : gMd yX9_beginOf cX9_beginOf 2 (some FieldType.int) 1 := ⟨gin 884 (by decide +kernel) (by decide +kernel), gin 60 (by decide +kernel) (by decide +kernel), ⟨by decide +kernel, by decide +kernel, by decide +kernel⟩, by decide +kernel, by decide⟩
theorem mX9_spread : gMd yX9_spread cX9_spread 2 (some FieldType.long) 1 := ⟨gin 888 (by decide +kernel) (by decide +kernel), gin 60 (by decide +kernel) (by decide +kernel), ⟨by decide +kernel, by decide +kernel, by decide +kernel⟩, by decide +kernel, by decide⟩
theorem mX9_spreadOfRuns : gMd yX9_spreadOfRuns cX9_spreadOfRuns 4 (some FieldType.long) 0 := ⟨gin 893 (by decide +kernel) (by decide +kernel), gin 60 (by decide +kernel) (by decide +kernel), ⟨by decide +kernel, by decide +kernel, by decide +kernel⟩, by decide +kernel, by decide⟩
theorem mX9_told : gMd yX9_told cX9_told 9 (some FieldType.long) 2 := ⟨gin 896 (by decide +kernel) (by decide +kernel), gin 60 (by decide +kernel) (by decide +kernel), ⟨by decide +kernel, by decide +kernel, by decide +kernel⟩, by decide +kernel, by decide⟩
theorem mX9_least : gMd yX9_least cX9_least 3 (some FieldType.int) 2 := ⟨gin 900 (by decide +kernel) (by decide +kernel), gin 60 (by decide +kernel) (by decide +kernel), ⟨by decide +kernel, by decide +kernel, by decide +kernel⟩, by decide +kernel, by decide⟩
theorem mX9_gain : gMd yX9_gain cX9_gain 5 (some FieldType.long) 2 := ⟨gin 904 (by decide +kernel) (by decide +kernel), gin 60 (by decide +kernel) (by decide +kernel), ⟨by decide +kernel, by decide +kernel, by decide +kernel⟩, by decide +kernel, by decide⟩
theorem mX9_spreadIn : gMd yX9_spreadIn cX9_spreadIn 2 (some FieldType.long) 1 := ⟨gin 908 (by decide +kernel) (by decide +kernel), gin 60 (by decide +kernel) (by decide +kernel), ⟨by decide +kernel, by decide +kernel, by decide +kernel⟩, by decide +kernel, by decide⟩
theorem mX9_last : gMd yX9_last cX9_last 5 (some FieldType.int) 2 := ⟨gin 912 (by decide +kernel) (by decide +kernel), gin 60 (by decide +kernel) (by decide +kernel), ⟨by decide +kernel, by decide +kernel, by decide +kernel⟩, by decide +kernel, by decide⟩
theorem mX9_setEnding : gMd yX9_setEnding cX9_setEnding 7 none 2 := ⟨gin 916 (by decide +kernel) (by decide +kernel), gin 60 (by decide +kernel) (by decide +kernel), ⟨by decide +kernel, by decide +kernel, by decide +kernel⟩, by decide +kernel, by decide⟩
theorem mX9_enough : gMd yX9_enough cX9_enough 5 (some FieldType.int) 1 := ⟨gin 920 (by decide +kernel) (by decide +kernel), gin 60 (by decide +kernel) (by decide +kernel), ⟨by decide +kernel, by decide +kernel, by decide +kernel⟩, by decide +kernel, by decide⟩
theorem mX9_isNoMore : gMd yX9_isNoMore cX9_isNoMore 9 (some FieldType.boolean) 3 := ⟨gin 923 (by decide +kernel) (by decide +kernel), gin 60 (by decide +kernel) (by decide +kernel), ⟨by decide +kernel, by decide +kernel, by decide +kernel⟩, by decide +kernel, by decide⟩
theorem mX9_keep : gMd yX9_keep cX9_keep 2 (some FieldType.int) 1 := ⟨gin 928 (by decide +kernel) (by decide +kernel), gin 60 (by decide +kernel) (by decide +kernel), ⟨by decide +kernel, by decide +kernel, by decide +kernel⟩, by decide +kernel, by decide⟩
theorem mX9_back : gMd yX9_back cX9_back 2 (some FieldType.int) 1 := ⟨gin 932 (by decide +kernel) (by decide +kernel), gin 60 (by decide +kernel) (by decide +kernel), ⟨by decide +kernel, by decide +kernel, by decide +kernel⟩, by decide +kernel, by decide⟩
theorem mX9_count : gMd yX9_count cX9_count 2 (some FieldType.int) 1 := ⟨gin 936 (by decide +kernel) (by decide +kernel), gin 60 (by decide +kernel) (by decide +kernel), ⟨by decide +kernel, by decide +kernel, by decide +kernel⟩, by decide +kernel, by decide⟩
theorem mX9_sum : gMd yX9_sum cX9_sum 3 (some FieldType.int) 0 := ⟨gin 940 (by decide +kernel) (by decide +kernel), gin 60 (by decide +kernel) (by decide +kernel), ⟨by decide +kernel, by decide +kernel, by decide +kernel⟩, by decide +kernel, by decide⟩
theorem iL_9 : gIi RL 9 yX8_init := ⟨gin 65 (by decide +kernel) (by decide +kernel), gin 66 (by decide +kernel) (by decide +kernel), rfl⟩
theorem oX8 : Cond.methodLink RX8 1 objectInit ∈ gT := gin 68 (by decide +kernel) (by decide +kernel)
theorem iX8_9 : gIi RX8 9 yX0_init := ⟨gin 73 (by decide +kernel) (by decide +kernel), gin 74 (by decide +kernel) (by decide +kernel), rfl⟩
theorem oX0 : Cond.methodLink RX0 3 objectInit ∈ gT := gin 76 (by decide +kernel) (by decide +kernel)
theorem iX0_18 : gIv RX0 18 yX0_empty := ⟨gin 77 (by decide +kernel) (by decide +kernel), gin 78 (by decide +kernel) (by decide +kernel), gin 79 (by decide +kernel) (by decide +kernel)⟩
theorem iX0_21 : gIs RX0 21 yJ7_fill_53178 := ⟨gin 81 (by decide +kernel) (by decide +kernel), gin 82 (by decide +kernel) (by decide +kernel)⟩
theorem iX8_18 : gIi RX8 18 yX1_init := ⟨gin 113 (by decide +kernel) (by decide +kernel), gin 114 (by decide +kernel) (by decide +kernel), rfl⟩
theorem oX1 : Cond.methodLink RX1 3 objectInit ∈ gT := gin 116 (by decide +kernel) (by decide +kernel)
theorem iX1_17 : gIi RX1 17 yX0_init := ⟨gin 119 (by decide +kernel) (by decide +kernel), gin 74 (by decide +kernel) (by decide +kernel), rfl⟩
theorem oX4 : Cond.methodLink RX4 3 objectInit ∈ gT := gin 136 (by decide +kernel) (by decide +kernel)
theorem iX4_17 : gIi RX4 17 yX0_init := ⟨gin 138 (by decide +kernel) (by decide +kernel), gin 74 (by decide +kernel) (by decide +kernel), rfl⟩
theorem iX8_40 : gIi RX8 40 yX6_init := ⟨gin 175 (by decide +kernel) (by decide +kernel), gin 176 (by decide +kernel) (by decide +kernel), rfl⟩
theorem oX6 : Cond.methodLink RX6 3 objectInit ∈ gT := gin 178 (by decide +kernel) (by decide +kernel)
theorem oX2 : Cond.methodLink RX2 3 objectInit ∈ gT := gin 184 (by decide +kernel) (by decide +kernel)
theorem oX7 : Cond.methodLink RX7 3 objectInit ∈ gT := gin 213 (by decide +kernel) (by decide +kernel)
theorem oX3 : Cond.methodLink RX3 3 objectInit ∈ gT := gin 233 (by decide +kernel) (by decide +kernel)
theorem oX5 : Cond.methodLink RX5 3 objectInit ∈ gT := gin 249 (by decide +kernel) (by decide +kernel)
theorem iL_13 : gIv RL 13 yX8_type := ⟨gin 318 (by decide +kernel) (by decide +kernel), gin 319 (by decide +kernel) (by decide +kernel), gin 320 (by decide +kernel) (by decide +kernel)⟩
theorem iX8_47 : gIv RX8 47 yX4_append := ⟨gin 322 (by decide +kernel) (by decide +kernel), gin 323 (by decide +kernel) (by decide +kernel), gin 324 (by decide +kernel) (by decide +kernel)⟩
theorem iL_18 : gIv RL 18 yX8_clear := ⟨gin 326 (by decide +kernel) (by decide +kernel), gin 327 (by decide +kernel) (by decide +kernel), gin 328 (by decide +kernel) (by decide +kernel)⟩
theorem iL_23 : gIv RL 23 yX8_map := ⟨gin 330 (by decide +kernel) (by decide +kernel), gin 331 (by decide +kernel) (by decide +kernel), gin 332 (by decide +kernel) (by decide +kernel)⟩
theorem iX8_55 : gIv RX8 55 yX4_read := ⟨gin 334 (by decide +kernel) (by decide +kernel), gin 335 (by decide +kernel) (by decide +kernel), gin 336 (by decide +kernel) (by decide +kernel)⟩
theorem iX4_26 : gIv RX4 26 yX4_begin := ⟨gin 338 (by decide +kernel) (by decide +kernel), gin 340 (by decide +kernel) (by decide +kernel), gin 0 (by decide +kernel) (by decide +kernel)⟩
theorem iX4_43 : gIv RX4 43 yX0_empty := ⟨gin 342 (by decide +kernel) (by decide +kernel), gin 78 (by decide +kernel) (by decide +kernel), gin 79 (by decide +kernel) (by decide +kernel)⟩
theorem iX4_29 : gIv RX4 29 yX4_tokenEnd := ⟨gin 343 (by decide +kernel) (by decide +kernel), gin 345 (by decide +kernel) (by decide +kernel), gin 1 (by decide +kernel) (by decide +kernel)⟩
theorem iX4_56 : gIs RX4 56 yX4_isLetter := ⟨gin 347 (by decide +kernel) (by decide +kernel), gin 348 (by decide +kernel) (by decide +kernel)⟩
theorem iX4_60 : gIs RX4 60 yX4_isDigit := ⟨gin 350 (by decide +kernel) (by decide +kernel), gin 351 (by decide +kernel) (by decide +kernel)⟩
theorem iX4_33 : gIv RX4 33 yX4_takes := ⟨gin 353 (by decide +kernel) (by decide +kernel), gin 355 (by decide +kernel) (by decide +kernel), gin 2 (by decide +kernel) (by decide +kernel)⟩
theorem iX4_63 : gIv RX4 63 yX4_takesLetter := ⟨gin 357 (by decide +kernel) (by decide +kernel), gin 359 (by decide +kernel) (by decide +kernel), gin 3 (by decide +kernel) (by decide +kernel)⟩
theorem iX4_77 : gIv RX4 77 yX4_beginsPlace := ⟨gin 361 (by decide +kernel) (by decide +kernel), gin 363 (by decide +kernel) (by decide +kernel), gin 4 (by decide +kernel) (by decide +kernel)⟩
theorem iX4_80 : gIv RX4 80 yX4_beginsClasses := ⟨gin 365 (by decide +kernel) (by decide +kernel), gin 367 (by decide +kernel) (by decide +kernel), gin 5 (by decide +kernel) (by decide +kernel)⟩
theorem iX4_83 : gIv RX4 83 yX4_beginsCost := ⟨gin 369 (by decide +kernel) (by decide +kernel), gin 371 (by decide +kernel) (by decide +kernel), gin 6 (by decide +kernel) (by decide +kernel)⟩
theorem iX4_66 : gIv RX4 66 yX4_numeral := ⟨gin 373 (by decide +kernel) (by decide +kernel), gin 375 (by decide +kernel) (by decide +kernel), gin 7 (by decide +kernel) (by decide +kernel)⟩
theorem iX4_70 : gIv RX4 70 yX4_takesNumeral := ⟨gin 377 (by decide +kernel) (by decide +kernel), gin 379 (by decide +kernel) (by decide +kernel), gin 8 (by decide +kernel) (by decide +kernel)⟩
theorem iX4_86 : gIv RX4 86 yX4_takesRow := ⟨gin 381 (by decide +kernel) (by decide +kernel), gin 383 (by decide +kernel) (by decide +kernel), gin 9 (by decide +kernel) (by decide +kernel)⟩
theorem iX4_89 : gIv RX4 89 yX4_takesColumn := ⟨gin 388 (by decide +kernel) (by decide +kernel), gin 390 (by decide +kernel) (by decide +kernel), gin 10 (by decide +kernel) (by decide +kernel)⟩
theorem iX8_180 : gIs RX8 180 yX8_isSide := ⟨gin 395 (by decide +kernel) (by decide +kernel), gin 386 (by decide +kernel) (by decide +kernel)⟩
theorem iX4_92 : gIv RX4 92 yX4_takesNumber := ⟨gin 396 (by decide +kernel) (by decide +kernel), gin 398 (by decide +kernel) (by decide +kernel), gin 11 (by decide +kernel) (by decide +kernel)⟩
theorem iX4_95 : gIv RX4 95 yX4_takesClasses := ⟨gin 400 (by decide +kernel) (by decide +kernel), gin 402 (by decide +kernel) (by decide +kernel), gin 12 (by decide +kernel) (by decide +kernel)⟩
theorem iX4_98 : gIv RX4 98 yX4_takesCost := ⟨gin 407 (by decide +kernel) (by decide +kernel), gin 409 (by decide +kernel) (by decide +kernel), gin 13 (by decide +kernel) (by decide +kernel)⟩
theorem iX4_73 : gIv RX4 73 yX4_takesEnd := ⟨gin 411 (by decide +kernel) (by decide +kernel), gin 413 (by decide +kernel) (by decide +kernel), gin 14 (by decide +kernel) (by decide +kernel)⟩
theorem iX8_60 : gIv RX8 60 yX0_become := ⟨gin 415 (by decide +kernel) (by decide +kernel), gin 416 (by decide +kernel) (by decide +kernel), gin 417 (by decide +kernel) (by decide +kernel)⟩
theorem aX0_37 : Cond.methodLink RX0 37 arraycopyName ∈ gT := gin 419 (by decide +kernel) (by decide +kernel)
theorem iX8_63 : gIv RX8 63 yX1_forget := ⟨gin 422 (by decide +kernel) (by decide +kernel), gin 423 (by decide +kernel) (by decide +kernel), gin 424 (by decide +kernel) (by decide +kernel)⟩
theorem iX8_66 : gIv RX8 66 yX6_forget := ⟨gin 426 (by decide +kernel) (by decide +kernel), gin 427 (by decide +kernel) (by decide +kernel), gin 428 (by decide +kernel) (by decide +kernel)⟩
theorem iL_27 : gIv RL 27 yX8_puts := ⟨gin 430 (by decide +kernel) (by decide +kernel), gin 431 (by decide +kernel) (by decide +kernel), gin 432 (by decide +kernel) (by decide +kernel)⟩
theorem iX8_67 : gIs RX8 67 yX8_cellOf := ⟨gin 434 (by decide +kernel) (by decide +kernel), gin 393 (by decide +kernel) (by decide +kernel)⟩
theorem iX8_75 : gIv RX8 75 yX0_places := ⟨gin 435 (by decide +kernel) (by decide +kernel), gin 436 (by decide +kernel) (by decide +kernel), gin 437 (by decide +kernel) (by decide +kernel)⟩
theorem iX8_78 : gIv RX8 78 yX8_aheadOfChange := ⟨gin 439 (by decide +kernel) (by decide +kernel), gin 441 (by decide +kernel) (by decide +kernel), gin 15 (by decide +kernel) (by decide +kernel)⟩
theorem iX8_174 : gIv RX8 174 yX1_remember := ⟨gin 443 (by decide +kernel) (by decide +kernel), gin 444 (by decide +kernel) (by decide +kernel), gin 445 (by decide +kernel) (by decide +kernel)⟩
theorem iX1_22 : gIv RX1 22 yX0_become := ⟨gin 447 (by decide +kernel) (by decide +kernel), gin 416 (by decide +kernel) (by decide +kernel), gin 417 (by decide +kernel) (by decide +kernel)⟩
theorem iX1_29 : gIs RX1 29 yJ9_min_7cf53 := ⟨gin 448 (by decide +kernel) (by decide +kernel), gin 449 (by decide +kernel) (by decide +kernel)⟩
theorem iL_32 : gIv RL 32 yX8_drops := ⟨gin 451 (by decide +kernel) (by decide +kernel), gin 452 (by decide +kernel) (by decide +kernel), gin 453 (by decide +kernel) (by decide +kernel)⟩
theorem iL_37 : gIv RL 37 yX8_asks := ⟨gin 455 (by decide +kernel) (by decide +kernel), gin 456 (by decide +kernel) (by decide +kernel), gin 457 (by decide +kernel) (by decide +kernel)⟩
theorem iX8_81 : gIs RX8 81 yX8_isClasses := ⟨gin 459 (by decide +kernel) (by decide +kernel), gin 405 (by decide +kernel) (by decide +kernel)⟩
theorem iL_41 : gIv RL 41 yX8_costs := ⟨gin 460 (by decide +kernel) (by decide +kernel), gin 461 (by decide +kernel) (by decide +kernel), gin 462 (by decide +kernel) (by decide +kernel)⟩
theorem iL_45 : gIv RL 45 yX8_closes := ⟨gin 464 (by decide +kernel) (by decide +kernel), gin 465 (by decide +kernel) (by decide +kernel), gin 466 (by decide +kernel) (by decide +kernel)⟩
theorem iX8_90 : gIv RX8 90 yX6_ofNow := ⟨gin 468 (by decide +kernel) (by decide +kernel), gin 469 (by decide +kernel) (by decide +kernel), gin 470 (by decide +kernel) (by decide +kernel)⟩
theorem iX6_67 : gIv RX6 67 yX6_rungs := ⟨gin 472 (by decide +kernel) (by decide +kernel), gin 473 (by decide +kernel) (by decide +kernel), gin 474 (by decide +kernel) (by decide +kernel)⟩
theorem iX6_63 : gIv RX6 63 yX2_build := ⟨gin 476 (by decide +kernel) (by decide +kernel), gin 477 (by decide +kernel) (by decide +kernel), gin 478 (by decide +kernel) (by decide +kernel)⟩
theorem iX2_30 : gIv RX2 30 yX2_add := ⟨gin 480 (by decide +kernel) (by decide +kernel), gin 482 (by decide +kernel) (by decide +kernel), gin 16 (by decide +kernel) (by decide +kernel)⟩
theorem iX2_37 : gIv RX2 37 yX2_rankOf := ⟨gin 484 (by decide +kernel) (by decide +kernel), gin 485 (by decide +kernel) (by decide +kernel), gin 486 (by decide +kernel) (by decide +kernel)⟩
theorem aX2_41 : Cond.methodLink RX2 41 arraycopyName ∈ gT := gin 488 (by decide +kernel) (by decide +kernel)
theorem iX2_34 : gIv RX2 34 yX2_measureFrom := ⟨gin 489 (by decide +kernel) (by decide +kernel), gin 491 (by decide +kernel) (by decide +kernel), gin 17 (by decide +kernel) (by decide +kernel)⟩
theorem iX6_83 : gIv RX6 83 yX0_feeOf := ⟨gin 494 (by decide +kernel) (by decide +kernel), gin 495 (by decide +kernel) (by decide +kernel), gin 496 (by decide +kernel) (by decide +kernel)⟩
theorem iX0_43 : gIv RX0 43 yX0_isOld := ⟨gin 498 (by decide +kernel) (by decide +kernel), gin 499 (by decide +kernel) (by decide +kernel), gin 500 (by decide +kernel) (by decide +kernel)⟩
theorem iX6_92 : gIv RX6 92 yX7_build := ⟨gin 503 (by decide +kernel) (by decide +kernel), gin 504 (by decide +kernel) (by decide +kernel), gin 505 (by decide +kernel) (by decide +kernel)⟩
theorem iX7_34 : gIv RX7 34 yX7_choose := ⟨gin 507 (by decide +kernel) (by decide +kernel), gin 509 (by decide +kernel) (by decide +kernel), gin 18 (by decide +kernel) (by decide +kernel)⟩
theorem iX6_95 : gIv RX6 95 yX7_follow := ⟨gin 512 (by decide +kernel) (by decide +kernel), gin 513 (by decide +kernel) (by decide +kernel), gin 514 (by decide +kernel) (by decide +kernel)⟩
theorem iX7_42 : gIs RX7 42 yJ9_min_7cf53 := ⟨gin 516 (by decide +kernel) (by decide +kernel), gin 449 (by decide +kernel) (by decide +kernel)⟩
theorem iX8_94 : gIv RX8 94 yX6_rungs := ⟨gin 517 (by decide +kernel) (by decide +kernel), gin 473 (by decide +kernel) (by decide +kernel), gin 474 (by decide +kernel) (by decide +kernel)⟩
theorem iX8_98 : gIv RX8 98 yX8_strangeBorders := ⟨gin 518 (by decide +kernel) (by decide +kernel), gin 520 (by decide +kernel) (by decide +kernel), gin 19 (by decide +kernel) (by decide +kernel)⟩
theorem iX8_118 : gIv RX8 118 yX5_beginOf := ⟨gin 522 (by decide +kernel) (by decide +kernel), gin 523 (by decide +kernel) (by decide +kernel), gin 524 (by decide +kernel) (by decide +kernel)⟩
theorem iX8_122 : gIv RX8 122 yX2_numberAt := ⟨gin 526 (by decide +kernel) (by decide +kernel), gin 527 (by decide +kernel) (by decide +kernel), gin 528 (by decide +kernel) (by decide +kernel)⟩
theorem iX8_177 : gIv RX8 177 yX0_isOld := ⟨gin 530 (by decide +kernel) (by decide +kernel), gin 499 (by decide +kernel) (by decide +kernel), gin 500 (by decide +kernel) (by decide +kernel)⟩
theorem iX8_107 : gIs RX8 107 yJ9_max_7cf53 := ⟨gin 531 (by decide +kernel) (by decide +kernel), gin 532 (by decide +kernel) (by decide +kernel)⟩
theorem iL_49 : gIv RL 49 yX8_undo := ⟨gin 534 (by decide +kernel) (by decide +kernel), gin 535 (by decide +kernel) (by decide +kernel), gin 536 (by decide +kernel) (by decide +kernel)⟩
theorem iX8_130 : gIv RX8 130 yX1_recall := ⟨gin 538 (by decide +kernel) (by decide +kernel), gin 539 (by decide +kernel) (by decide +kernel), gin 540 (by decide +kernel) (by decide +kernel)⟩
theorem iX1_35 : gIs RX1 35 yJ9_max_7cf53 := ⟨gin 542 (by decide +kernel) (by decide +kernel), gin 532 (by decide +kernel) (by decide +kernel)⟩
theorem iL_53 : gIv RL 53 yX8_place := ⟨gin 543 (by decide +kernel) (by decide +kernel), gin 544 (by decide +kernel) (by decide +kernel), gin 545 (by decide +kernel) (by decide +kernel)⟩
theorem iX8_133 : gIv RX8 133 yX2_rankOf := ⟨gin 547 (by decide +kernel) (by decide +kernel), gin 485 (by decide +kernel) (by decide +kernel), gin 486 (by decide +kernel) (by decide +kernel)⟩
theorem iX8_136 : gIv RX8 136 yX5_runOf := ⟨gin 548 (by decide +kernel) (by decide +kernel), gin 549 (by decide +kernel) (by decide +kernel), gin 550 (by decide +kernel) (by decide +kernel)⟩
theorem iX5_19 : gIv RX5 19 yX5_beginOf := ⟨gin 552 (by decide +kernel) (by decide +kernel), gin 523 (by decide +kernel) (by decide +kernel), gin 524 (by decide +kernel) (by decide +kernel)⟩
theorem iX8_139 : gIs RX8 139 yX8_tintOf := ⟨gin 553 (by decide +kernel) (by decide +kernel), gin 554 (by decide +kernel) (by decide +kernel)⟩
theorem iL_57 : gIv RL 57 yX8_sorted := ⟨gin 557 (by decide +kernel) (by decide +kernel), gin 558 (by decide +kernel) (by decide +kernel), gin 559 (by decide +kernel) (by decide +kernel)⟩
theorem iX8_145 : gIv RX8 145 yX2_weightAt := ⟨gin 561 (by decide +kernel) (by decide +kernel), gin 562 (by decide +kernel) (by decide +kernel), gin 563 (by decide +kernel) (by decide +kernel)⟩
theorem iL_61 : gIv RL 61 yX8_now := ⟨gin 565 (by decide +kernel) (by decide +kernel), gin 566 (by decide +kernel) (by decide +kernel), gin 567 (by decide +kernel) (by decide +kernel)⟩
theorem iX8_148 : gIv RX8 148 yX8_beginning := ⟨gin 569 (by decide +kernel) (by decide +kernel), gin 571 (by decide +kernel) (by decide +kernel), gin 20 (by decide +kernel) (by decide +kernel)⟩
theorem iL_65 : gIv RL 65 yX8_spread := ⟨gin 573 (by decide +kernel) (by decide +kernel), gin 574 (by decide +kernel) (by decide +kernel), gin 575 (by decide +kernel) (by decide +kernel)⟩
theorem iX8_158 : gIs RX8 158 yX8_inLeastTerms := ⟨gin 578 (by decide +kernel) (by decide +kernel), gin 579 (by decide +kernel) (by decide +kernel)⟩
theorem iX8_186 : gIs RX8 186 yX8_commonDivisor := ⟨gin 582 (by decide +kernel) (by decide +kernel), gin 583 (by decide +kernel) (by decide +kernel)⟩
theorem iL_70 : gIv RL 70 yX8_moved := ⟨gin 585 (by decide +kernel) (by decide +kernel), gin 586 (by decide +kernel) (by decide +kernel), gin 587 (by decide +kernel) (by decide +kernel)⟩
theorem iL_74 : gIv RL 74 yX8_least := ⟨gin 589 (by decide +kernel) (by decide +kernel), gin 590 (by decide +kernel) (by decide +kernel), gin 591 (by decide +kernel) (by decide +kernel)⟩
theorem iX8_162 : gIv RX8 162 yX6_leastIn := ⟨gin 593 (by decide +kernel) (by decide +kernel), gin 594 (by decide +kernel) (by decide +kernel), gin 595 (by decide +kernel) (by decide +kernel)⟩
theorem iX6_99 : gIs RX6 99 yJ9_min_7cf53 := ⟨gin 597 (by decide +kernel) (by decide +kernel), gin 449 (by decide +kernel) (by decide +kernel)⟩
theorem iX6_105 : gIs RX6 105 yJ9_max_7cf53 := ⟨gin 598 (by decide +kernel) (by decide +kernel), gin 532 (by decide +kernel) (by decide +kernel)⟩
theorem iL_78 : gIv RL 78 yX8_gain := ⟨gin 599 (by decide +kernel) (by decide +kernel), gin 600 (by decide +kernel) (by decide +kernel), gin 601 (by decide +kernel) (by decide +kernel)⟩
theorem iL_83 : gIv RL 83 yX8_last := ⟨gin 603 (by decide +kernel) (by decide +kernel), gin 604 (by decide +kernel) (by decide +kernel), gin 605 (by decide +kernel) (by decide +kernel)⟩
theorem iX8_166 : gIv RX8 166 yX6_lastBegin := ⟨gin 607 (by decide +kernel) (by decide +kernel), gin 608 (by decide +kernel) (by decide +kernel), gin 609 (by decide +kernel) (by decide +kernel)⟩
theorem iX6_112 : gIv RX6 112 yX3_build := ⟨gin 612 (by decide +kernel) (by decide +kernel), gin 613 (by decide +kernel) (by decide +kernel), gin 614 (by decide +kernel) (by decide +kernel)⟩
theorem iX3_30 : gIv RX3 30 yX3_choose := ⟨gin 616 (by decide +kernel) (by decide +kernel), gin 618 (by decide +kernel) (by decide +kernel), gin 21 (by decide +kernel) (by decide +kernel)⟩
theorem iL_87 : gIv RL 87 yX8_enough := ⟨gin 621 (by decide +kernel) (by decide +kernel), gin 622 (by decide +kernel) (by decide +kernel), gin 623 (by decide +kernel) (by decide +kernel)⟩
theorem iL_91 : gIv RL 91 yX8_keep := ⟨gin 626 (by decide +kernel) (by decide +kernel), gin 627 (by decide +kernel) (by decide +kernel), gin 628 (by decide +kernel) (by decide +kernel)⟩
theorem iL_95 : gIv RL 95 yX8_back := ⟨gin 630 (by decide +kernel) (by decide +kernel), gin 631 (by decide +kernel) (by decide +kernel), gin 632 (by decide +kernel) (by decide +kernel)⟩
theorem iL_99 : gIv RL 99 yX8_count := ⟨gin 634 (by decide +kernel) (by decide +kernel), gin 635 (by decide +kernel) (by decide +kernel), gin 636 (by decide +kernel) (by decide +kernel)⟩
theorem iX8_171 : gIv RX8 171 yX0_sum := ⟨gin 638 (by decide +kernel) (by decide +kernel), gin 639 (by decide +kernel) (by decide +kernel), gin 640 (by decide +kernel) (by decide +kernel)⟩
theorem iL_12 : gIi RL 12 yX9_init := ⟨gin 644 (by decide +kernel) (by decide +kernel), gin 645 (by decide +kernel) (by decide +kernel), rfl⟩
theorem oX9 : Cond.methodLink RX9 1 objectInit ∈ gT := gin 647 (by decide +kernel) (by decide +kernel)
theorem iL_17 : gIv RL 17 yX9_type := ⟨gin 733 (by decide +kernel) (by decide +kernel), gin 734 (by decide +kernel) (by decide +kernel), gin 735 (by decide +kernel) (by decide +kernel)⟩
theorem iX9_63 : gIs RX9 63 yX9_in := ⟨gin 737 (by decide +kernel) (by decide +kernel), gin 738 (by decide +kernel) (by decide +kernel)⟩
theorem iL_22 : gIv RL 22 yX9_clear := ⟨gin 740 (by decide +kernel) (by decide +kernel), gin 741 (by decide +kernel) (by decide +kernel), gin 742 (by decide +kernel) (by decide +kernel)⟩
theorem iL_26 : gIv RL 26 yX9_map := ⟨gin 744 (by decide +kernel) (by decide +kernel), gin 745 (by decide +kernel) (by decide +kernel), gin 746 (by decide +kernel) (by decide +kernel)⟩
theorem iX9_77 : gIv RX9 77 yX9_skip := ⟨gin 748 (by decide +kernel) (by decide +kernel), gin 750 (by decide +kernel) (by decide +kernel), gin 22 (by decide +kernel) (by decide +kernel)⟩
theorem iX9_73 : gIv RX9 73 yX9_here := ⟨gin 752 (by decide +kernel) (by decide +kernel), gin 754 (by decide +kernel) (by decide +kernel), gin 23 (by decide +kernel) (by decide +kernel)⟩
theorem iX9_113 : gIv RX9 113 yX9_readsItem := ⟨gin 756 (by decide +kernel) (by decide +kernel), gin 758 (by decide +kernel) (by decide +kernel), gin 24 (by decide +kernel) (by decide +kernel)⟩
theorem iX9_104 : gIv RX9 104 yX9_readsPlace := ⟨gin 760 (by decide +kernel) (by decide +kernel), gin 762 (by decide +kernel) (by decide +kernel), gin 25 (by decide +kernel) (by decide +kernel)⟩
theorem iX9_86 : gIv RX9 86 yX9_number := ⟨gin 764 (by decide +kernel) (by decide +kernel), gin 766 (by decide +kernel) (by decide +kernel), gin 26 (by decide +kernel) (by decide +kernel)⟩
theorem iX9_90 : gIv RX9 90 yX9_isTold := ⟨gin 768 (by decide +kernel) (by decide +kernel), gin 770 (by decide +kernel) (by decide +kernel), gin 27 (by decide +kernel) (by decide +kernel)⟩
theorem iX9_94 : gIv RX9 94 yX9_ends := ⟨gin 772 (by decide +kernel) (by decide +kernel), gin 774 (by decide +kernel) (by decide +kernel), gin 28 (by decide +kernel) (by decide +kernel)⟩
theorem iX9_107 : gIv RX9 107 yX9_readsAsked := ⟨gin 776 (by decide +kernel) (by decide +kernel), gin 778 (by decide +kernel) (by decide +kernel), gin 29 (by decide +kernel) (by decide +kernel)⟩
theorem iX9_110 : gIv RX9 110 yX9_readsCost := ⟨gin 780 (by decide +kernel) (by decide +kernel), gin 782 (by decide +kernel) (by decide +kernel), gin 30 (by decide +kernel) (by decide +kernel)⟩
theorem iL_31 : gIv RL 31 yX9_puts := ⟨gin 784 (by decide +kernel) (by decide +kernel), gin 785 (by decide +kernel) (by decide +kernel), gin 786 (by decide +kernel) (by decide +kernel)⟩
theorem iX9_129 : gIs RX9 129 yX9_isWhere := ⟨gin 788 (by decide +kernel) (by decide +kernel), gin 789 (by decide +kernel) (by decide +kernel)⟩
theorem iX9_132 : gIv RX9 132 yX9_placeAt := ⟨gin 791 (by decide +kernel) (by decide +kernel), gin 793 (by decide +kernel) (by decide +kernel), gin 31 (by decide +kernel) (by decide +kernel)⟩
theorem iX9_136 : gIv RX9 136 yX9_notes := ⟨gin 795 (by decide +kernel) (by decide +kernel), gin 797 (by decide +kernel) (by decide +kernel), gin 32 (by decide +kernel) (by decide +kernel)⟩
theorem iX9_125 : gIv RX9 125 yX9_writes := ⟨gin 799 (by decide +kernel) (by decide +kernel), gin 801 (by decide +kernel) (by decide +kernel), gin 33 (by decide +kernel) (by decide +kernel)⟩
theorem iL_36 : gIv RL 36 yX9_drops := ⟨gin 803 (by decide +kernel) (by decide +kernel), gin 804 (by decide +kernel) (by decide +kernel), gin 805 (by decide +kernel) (by decide +kernel)⟩
theorem iL_40 : gIv RL 40 yX9_asks := ⟨gin 807 (by decide +kernel) (by decide +kernel), gin 808 (by decide +kernel) (by decide +kernel), gin 809 (by decide +kernel) (by decide +kernel)⟩
theorem iL_44 : gIv RL 44 yX9_costs := ⟨gin 811 (by decide +kernel) (by decide +kernel), gin 812 (by decide +kernel) (by decide +kernel), gin 813 (by decide +kernel) (by decide +kernel)⟩
theorem iL_52 : gIv RL 52 yX9_undo := ⟨gin 815 (by decide +kernel) (by decide +kernel), gin 816 (by decide +kernel) (by decide +kernel), gin 817 (by decide +kernel) (by decide +kernel)⟩
theorem iX9_139 : gIv RX9 139 yX9_readsBack := ⟨gin 819 (by decide +kernel) (by decide +kernel), gin 821 (by decide +kernel) (by decide +kernel), gin 34 (by decide +kernel) (by decide +kernel)⟩
theorem iL_48 : gIv RL 48 yX9_closes := ⟨gin 823 (by decide +kernel) (by decide +kernel), gin 824 (by decide +kernel) (by decide +kernel), gin 825 (by decide +kernel) (by decide +kernel)⟩
theorem iX9_174 : gIv RX9 174 yX9_partsNow := ⟨gin 827 (by decide +kernel) (by decide +kernel), gin 829 (by decide +kernel) (by decide +kernel), gin 35 (by decide +kernel) (by decide +kernel)⟩
theorem iX9_170 : gIv RX9 170 yX9_parts := ⟨gin 831 (by decide +kernel) (by decide +kernel), gin 833 (by decide +kernel) (by decide +kernel), gin 36 (by decide +kernel) (by decide +kernel)⟩
theorem iX9_160 : gIv RX9 160 yX9_setSorted := ⟨gin 835 (by decide +kernel) (by decide +kernel), gin 837 (by decide +kernel) (by decide +kernel), gin 37 (by decide +kernel) (by decide +kernel)⟩
theorem iX9_166 : gIv RX9 166 yX9_setFrom := ⟨gin 839 (by decide +kernel) (by decide +kernel), gin 841 (by decide +kernel) (by decide +kernel), gin 38 (by decide +kernel) (by decide +kernel)⟩
theorem iX9_152 : gIv RX9 152 yX9_spreadOf := ⟨gin 844 (by decide +kernel) (by decide +kernel), gin 846 (by decide +kernel) (by decide +kernel), gin 39 (by decide +kernel) (by decide +kernel)⟩
theorem iX9_156 : gIv RX9 156 yX9_borderAt := ⟨gin 849 (by decide +kernel) (by decide +kernel), gin 851 (by decide +kernel) (by decide +kernel), gin 40 (by decide +kernel) (by decide +kernel)⟩
theorem iX9_147 : gIv RX9 147 yX9_isOld := ⟨gin 853 (by decide +kernel) (by decide +kernel), gin 855 (by decide +kernel) (by decide +kernel), gin 41 (by decide +kernel) (by decide +kernel)⟩
theorem iX9_177 : gIv RX9 177 yX9_movedMany := ⟨gin 857 (by decide +kernel) (by decide +kernel), gin 859 (by decide +kernel) (by decide +kernel), gin 42 (by decide +kernel) (by decide +kernel)⟩
theorem iL_73 : gIv RL 73 yX9_moved := ⟨gin 861 (by decide +kernel) (by decide +kernel), gin 862 (by decide +kernel) (by decide +kernel), gin 863 (by decide +kernel) (by decide +kernel)⟩
theorem iL_56 : gIv RL 56 yX9_place := ⟨gin 865 (by decide +kernel) (by decide +kernel), gin 866 (by decide +kernel) (by decide +kernel), gin 867 (by decide +kernel) (by decide +kernel)⟩
theorem iX9_180 : gIv RX9 180 yX9_runOf := ⟨gin 869 (by decide +kernel) (by decide +kernel), gin 871 (by decide +kernel) (by decide +kernel), gin 43 (by decide +kernel) (by decide +kernel)⟩
theorem iL_60 : gIv RL 60 yX9_sorted := ⟨gin 873 (by decide +kernel) (by decide +kernel), gin 874 (by decide +kernel) (by decide +kernel), gin 875 (by decide +kernel) (by decide +kernel)⟩
theorem iL_64 : gIv RL 64 yX9_now := ⟨gin 877 (by decide +kernel) (by decide +kernel), gin 878 (by decide +kernel) (by decide +kernel), gin 879 (by decide +kernel) (by decide +kernel)⟩
theorem iX9_183 : gIv RX9 183 yX9_beginOf := ⟨gin 881 (by decide +kernel) (by decide +kernel), gin 883 (by decide +kernel) (by decide +kernel), gin 44 (by decide +kernel) (by decide +kernel)⟩
theorem iL_69 : gIv RL 69 yX9_spread := ⟨gin 885 (by decide +kernel) (by decide +kernel), gin 886 (by decide +kernel) (by decide +kernel), gin 887 (by decide +kernel) (by decide +kernel)⟩
theorem iX9_188 : gIv RX9 188 yX9_spreadOfRuns := ⟨gin 890 (by decide +kernel) (by decide +kernel), gin 892 (by decide +kernel) (by decide +kernel), gin 45 (by decide +kernel) (by decide +kernel)⟩
theorem iX9_192 : gIs RX9 192 yX9_told := ⟨gin 894 (by decide +kernel) (by decide +kernel), gin 895 (by decide +kernel) (by decide +kernel)⟩
theorem iL_77 : gIv RL 77 yX9_least := ⟨gin 897 (by decide +kernel) (by decide +kernel), gin 898 (by decide +kernel) (by decide +kernel), gin 899 (by decide +kernel) (by decide +kernel)⟩
theorem iL_82 : gIv RL 82 yX9_gain := ⟨gin 901 (by decide +kernel) (by decide +kernel), gin 902 (by decide +kernel) (by decide +kernel), gin 903 (by decide +kernel) (by decide +kernel)⟩
theorem iX9_196 : gIv RX9 196 yX9_spreadIn := ⟨gin 905 (by decide +kernel) (by decide +kernel), gin 907 (by decide +kernel) (by decide +kernel), gin 46 (by decide +kernel) (by decide +kernel)⟩
theorem iL_86 : gIv RL 86 yX9_last := ⟨gin 909 (by decide +kernel) (by decide +kernel), gin 910 (by decide +kernel) (by decide +kernel), gin 911 (by decide +kernel) (by decide +kernel)⟩
theorem iX9_200 : gIv RX9 200 yX9_setEnding := ⟨gin 913 (by decide +kernel) (by decide +kernel), gin 915 (by decide +kernel) (by decide +kernel), gin 47 (by decide +kernel) (by decide +kernel)⟩
theorem iL_90 : gIv RL 90 yX9_enough := ⟨gin 917 (by decide +kernel) (by decide +kernel), gin 918 (by decide +kernel) (by decide +kernel), gin 919 (by decide +kernel) (by decide +kernel)⟩
theorem iX9_204 : gIs RX9 204 yX9_isNoMore := ⟨gin 921 (by decide +kernel) (by decide +kernel), gin 922 (by decide +kernel) (by decide +kernel)⟩
theorem iL_94 : gIv RL 94 yX9_keep := ⟨gin 925 (by decide +kernel) (by decide +kernel), gin 926 (by decide +kernel) (by decide +kernel), gin 927 (by decide +kernel) (by decide +kernel)⟩
theorem iL_98 : gIv RL 98 yX9_back := ⟨gin 929 (by decide +kernel) (by decide +kernel), gin 930 (by decide +kernel) (by decide +kernel), gin 931 (by decide +kernel) (by decide +kernel)⟩
theorem iL_102 : gIv RL 102 yX9_count := ⟨gin 933 (by decide +kernel) (by decide +kernel), gin 934 (by decide +kernel) (by decide +kernel), gin 935 (by decide +kernel) (by decide +kernel)⟩
theorem iX9_210 : gIv RX9 210 yX9_sum := ⟨gin 937 (by decide +kernel) (by decide +kernel), gin 939 (by decide +kernel) (by decide +kernel), gin 48 (by decide +kernel) (by decide +kernel)⟩
theorem iX8_33 : gIiN RX8 33 yX4_init := ⟨⟨_, List.mem_of_getElem? (i := 0) rfl⟩, gin 134 (by decide +kernel) (by decide +kernel), rfl⟩
theorem iX6_11 : gIiN RX6 11 yX2_init := ⟨⟨_, List.mem_of_getElem? (i := 1) rfl⟩, gin 182 (by decide +kernel) (by decide +kernel), rfl⟩
theorem iX6_20 : gIiN RX6 20 yX7_init := ⟨⟨_, List.mem_of_getElem? (i := 2) rfl⟩, gin 211 (by decide +kernel) (by decide +kernel), rfl⟩
theorem iX6_30 : gIiN RX6 30 yX3_init := ⟨⟨_, List.mem_of_getElem? (i := 3) rfl⟩, gin 231 (by decide +kernel) (by decide +kernel), rfl⟩
theorem iX6_37 : gIiN RX6 37 yX5_init := ⟨⟨_, List.mem_of_getElem? (i := 4) rfl⟩, gin 247 (by decide +kernel) (by decide +kernel), rfl⟩
theorem iX4_101 : gIsN RX4 101 yX8_isSide := ⟨⟨_, List.mem_of_getElem? (i := 5) rfl⟩, gin 386 (by decide +kernel) (by decide +kernel)⟩
theorem iX4_107 : gIsN RX4 107 yX8_cellOf := ⟨⟨_, List.mem_of_getElem? (i := 6) rfl⟩, gin 393 (by decide +kernel) (by decide +kernel)⟩
theorem iX4_116 : gIsN RX4 116 yX8_isClasses := ⟨⟨_, List.mem_of_getElem? (i := 7) rfl⟩, gin 405 (by decide +kernel) (by decide +kernel)⟩
theorem iX6_108 : gIsN RX6 108 yX8_isClasses := ⟨⟨_, List.mem_of_getElem? (i := 8) rfl⟩, gin 405 (by decide +kernel) (by decide +kernel)⟩
theorem kX2_47 : Cond.constantLong RX2 47 (5354228880) ∈ gT := gin 493 (by decide +kernel) (by decide +kernel)
theorem kX0_47 : Cond.constantLong RX0 47 (5354228880) ∈ gT := gin 502 (by decide +kernel) (by decide +kernel)
theorem kX7_40 : Cond.constantLong RX7 40 (9223372036854775807) ∈ gT := gin 511 (by decide +kernel) (by decide +kernel)
theorem kX8_152 : Cond.constantLong RX8 152 (-1) ∈ gT := gin 577 (by decide +kernel) (by decide +kernel)
theorem kX8_184 : Cond.constantLong RX8 184 (5354228880) ∈ gT := gin 581 (by decide +kernel) (by decide +kernel)
theorem kX3_36 : Cond.constantLong RX3 36 (9223372036854775807) ∈ gT := gin 620 (by decide +kernel) (by decide +kernel)
theorem kX8_169 : Cond.constantLong RX8 169 (100) ∈ gT := gin 625 (by decide +kernel) (by decide +kernel)
theorem kX9_150 : Cond.constantLong RX9 150 (9000000000000000000) ∈ gT := gin 843 (by decide +kernel) (by decide +kernel)
theorem kX9_145 : Cond.constantLong RX9 145 (5354228880) ∈ gT := gin 848 (by decide +kernel) (by decide +kernel)
theorem kX9_186 : Cond.constantLong RX9 186 (-1) ∈ gT := gin 889 (by decide +kernel) (by decide +kernel)
theorem kX9_208 : Cond.constantLong RX9 208 (100) ∈ gT := gin 924 (by decide +kernel) (by decide +kernel)
theorem kX8_183 : Cond.constantFloat RX8 183 1132396544 ∈ gT := gin 556 (by decide +kernel) (by decide +kernel)
theorem nL_7 : Cond.classLink RL 7 RX8 ∈ gT := gin 63 (by decide +kernel) (by decide +kernel)
theorem nX8_7 : Cond.classLink RX8 7 RX0 ∈ gT := gin 71 (by decide +kernel) (by decide +kernel)
theorem nX8_16 : Cond.classLink RX8 16 RX1 ∈ gT := gin 111 (by decide +kernel) (by decide +kernel)
theorem nX1_9 : Cond.classLink RX1 9 RX0 ∈ gT := gin 117 (by decide +kernel) (by decide +kernel)
theorem nX8_31 : Cond.classLink RX8 31 RX4 ∈ gT := gin 131 (by decide +kernel) (by decide +kernel)
theorem nX4_15 : Cond.classLink RX4 15 RX0 ∈ gT := gin 137 (by decide +kernel) (by decide +kernel)
theorem nX8_38 : Cond.classLink RX8 38 RX6 ∈ gT := gin 173 (by decide +kernel) (by decide +kernel)
theorem nX6_9 : Cond.classLink RX6 9 RX2 ∈ gT := gin 179 (by decide +kernel) (by decide +kernel)
theorem nX2_18 : Cond.classLink RX2 18 "[[J" ∈ gT := gin 185 (by decide +kernel) (by decide +kernel)
theorem nX6_18 : Cond.classLink RX6 18 RX7 ∈ gT := gin 208 (by decide +kernel) (by decide +kernel)
theorem nX7_9 : Cond.classLink RX7 9 "[[J" ∈ gT := gin 214 (by decide +kernel) (by decide +kernel)
theorem nX7_16 : Cond.classLink RX7 16 "[[I" ∈ gT := gin 215 (by decide +kernel) (by decide +kernel)
theorem nX6_28 : Cond.classLink RX6 28 RX3 ∈ gT := gin 228 (by decide +kernel) (by decide +kernel)
theorem nX3_9 : Cond.classLink RX3 9 "[[J" ∈ gT := gin 234 (by decide +kernel) (by decide +kernel)
theorem nX3_16 : Cond.classLink RX3 16 "[[I" ∈ gT := gin 235 (by decide +kernel) (by decide +kernel)
theorem nX6_35 : Cond.classLink RX6 35 RX5 ∈ gT := gin 244 (by decide +kernel) (by decide +kernel)
theorem nL_10 : Cond.classLink RL 10 RX9 ∈ gT := gin 642 (by decide +kernel) (by decide +kernel)
theorem bX8 : Cond.instantiable RX8 6 ∈ gT := gin 64 (by decide +kernel) (by decide +kernel)
theorem bX0 : Cond.instantiable RX0 5 ∈ gT := gin 72 (by decide +kernel) (by decide +kernel)
theorem ac_int : Cond.arrayClass .int ∈ gT := gin 110 (by decide +kernel) (by decide +kernel)
theorem bX1 : Cond.instantiable RX1 3 ∈ gT := gin 112 (by decide +kernel) (by decide +kernel)
theorem bX4 : Cond.instantiable RX4 10 ∈ gT := gin 132 (by decide +kernel) (by decide +kernel)
theorem ac_boolean : Cond.arrayClass .boolean ∈ gT := gin 172 (by decide +kernel) (by decide +kernel)
theorem bX6 : Cond.instantiable RX6 11 ∈ gT := gin 174 (by decide +kernel) (by decide +kernel)
theorem bX2 : Cond.instantiable RX2 4 ∈ gT := gin 180 (by decide +kernel) (by decide +kernel)
theorem ac_long : Cond.arrayClass .long ∈ gT := gin 207 (by decide +kernel) (by decide +kernel)
theorem bX7 : Cond.instantiable RX7 3 ∈ gT := gin 209 (by decide +kernel) (by decide +kernel)
theorem bX3 : Cond.instantiable RX3 2 ∈ gT := gin 229 (by decide +kernel) (by decide +kernel)
theorem bX5 : Cond.instantiable RX5 3 ∈ gT := gin 245 (by decide +kernel) (by decide +kernel)
theorem bX9 : Cond.instantiable RX9 28 ∈ gT := gin 643 (by decide +kernel) (by decide +kernel)
theorem in_L : Cond.initialized RL ∈ gT := gin 49 (by decide +kernel) (by decide +kernel)
theorem in_X8 : Cond.initialized RX8 ∈ gT := gin 50 (by decide +kernel) (by decide +kernel)
theorem in_X0 : Cond.initialized RX0 ∈ gT := gin 51 (by decide +kernel) (by decide +kernel)
theorem in_J7 : Cond.initialized RJ7 ∈ gT := gin 52 (by decide +kernel) (by decide +kernel)
theorem in_X1 : Cond.initialized RX1 ∈ gT := gin 53 (by decide +kernel) (by decide +kernel)
theorem in_X4 : Cond.initialized RX4 ∈ gT := gin 54 (by decide +kernel) (by decide +kernel)
theorem in_X6 : Cond.initialized RX6 ∈ gT := gin 55 (by decide +kernel) (by decide +kernel)
theorem in_X2 : Cond.initialized RX2 ∈ gT := gin 56 (by decide +kernel) (by decide +kernel)
theorem in_X7 : Cond.initialized RX7 ∈ gT := gin 57 (by decide +kernel) (by decide +kernel)
theorem in_X3 : Cond.initialized RX3 ∈ gT := gin 58 (by decide +kernel) (by decide +kernel)
theorem in_X5 : Cond.initialized RX5 ∈ gT := gin 59 (by decide +kernel) (by decide +kernel)
theorem in_X9 : Cond.initialized RX9 ∈ gT := gin 60 (by decide +kernel) (by decide +kernel)
theorem in_J10 : Cond.initialized RJ10 ∈ gT := gin 61 (by decide +kernel) (by decide +kernel)
theorem in_J9 : Cond.initialized RJ9 ∈ gT := gin 62 (by decide +kernel) (by decide +kernel)
theorem a_native : Cond.native arraycopyName ∈ gT := gin 421 (by decide +kernel) (by decide +kernel)
theorem a_static : Cond.static arraycopyName ∈ gT := gin 420 (by decide +kernel) (by decide +kernel)
-- others: ('ao', '(Jvm.ClassFile.FieldType.object "ShadeClasses$Chart")')@118 ('ao', '(Jvm.ClassFile.FieldType.array Jvm.ClassFile.FieldType.long)')@186 ('ao', '(Jvm.ClassFile.FieldType.array Jvm.ClassFile.FieldType.int)')@216 ('ao', '(Jvm.ClassFile.FieldType.object "ShadeClasses$Parting")')@264 native@421
end
section
/-! ===== THE PICTURE: cells by numbers; a method's run as a statement about pictures (Go: from a place in its code; Run: a whole call) ===== -/
/-- a cell of the picture: an array by its kind, or an object by its class's number and its fields -/
abbrev gC : Type := (Nat × vp_A) ⊕ (Nat × List Value)
abbrev gH : Type := Nat → gC
/-- a value of the picture as the machine has it: cell i lies at b + i; a double stands for the script -/
def gv (b sb : Nat) : Value → Value
  | .ref i => .ref (b + i)
  | .double _ => .ref sb
  | v => v
def ga (b : Nat) : vp_A → vp_A
  | (n, .inr (.inr (.inr (.inr f)))) => (n, .inr (.inr (.inr (.inr (fun j => (f j).map (fun i => b + i))))))
  | a => a
def ge (b sb : Nat) (cA : Nat → ClassId) : gC → va_E
  | .inl (k, a) => .inl (cA k, ga b a)
  | .inr (ci, fs) => .inr (ci, fs.map (gv b sb))
/-- the kinds of array -/
def gA : Nat → FieldType
  | 0 => .int
  | 1 => .long
  | 2 => .boolean
  | 3 => .object RX0
  | 4 => .object RX5
  | 5 => .array .int
  | _ => .array .long
def gP (D : va_G) (cA : Nat → ClassId) (b sb : Nat) (h : gH) (N : Nat) (H : Heap) : Prop := H.size = b + N ∧ ∀ i, i < N → va_at D vwCl (b + i, ge b sb cA (h i)) H
def gAA (t : FieldType) (U : State) : Prop := (Cond.arrayOver (.array t)).before #[] U = true
theorem gAA.moved {t : FieldType} {u U : State} (hvm : u.vm.Alike U.vm) (h : gAA t u) : gAA t U := by
  obtain ⟨comp, c, k, h1, h2, h3, h4, h5⟩ := arrayOverA_spec h
  obtain ⟨k', hk', he⟩ := hvm.2.2 _ _ h3
  have hb : U.vm.bare = u.vm.bare := by first | exact hvm.bare_eq | exact hvm.bare_eq.symm
  have hi : (U.vm.classes.findIdx? fun (x : Class) => match x.kind with | .array component _ => component == comp | _ => false) = some c := by
    refine (va_idx_bare U.vm comp).symm.trans ?_
    rw [hb]
    exact (va_idx_bare u.vm comp).trans h2
  have hkind : k'.kind = .array comp (.array t) := by rw [he]; exact h4
  have f1 : U.vm.findClass (FieldType.array t).toString = some comp := by rw [hvm.findClass]; exact h1
  have f2 : U.vm.findClass ("[" ++ (FieldType.array t).toString) = some c := by rw [hvm.findClass]; exact h5
  unfold gAA Cond.before Cond.holds
  simp only [Cond.value]
  rw [f1, Option.bind_some]
  refine (congrArg (fun o : Option Nat => (o.bind (fun c => (U.vm.classes[c]?).map fun (k : Class) => match k.kind with | .array _ ty => decide (ty = FieldType.array t) && decide (U.vm.findClass ("[" ++ (FieldType.array t).toString) = some c) | _ => false) == some true)) hi).trans ?_
  simp [hk', hkind, f2]
/-- what the tables say, in every state of the run -/
def gK (D : va_G) (cA : Nat → ClassId) (U : State) : Prop :=
  (∀ (c : Nat) (q : vw_C), vwCl[c]? = some q → u_Kn U q.1 q.2.1 q.2.2 (D.1 c) (D.2 c)) ∧
  (∀ k, k < 7 → ArrOfT U (cA k) (gA k) ∧ va_RA U (cA k) (gA k)) ∧
  (∀ q ∈ gNs, va_Nw (.methodLinkNest q.1 q.2.1 q.2.2.1 q.2.2.2) U) ∧
  (va_AO RX0 U ∧ va_AO RX5 U) ∧ (gAA .int U ∧ gAA .long U)
theorem gK.warm {D : va_G} {cA : Nat → ClassId} {s U : State} (hW : s.WarmedH U.vm) (h : gK D cA s) : gK D cA U :=
  ⟨fun c q hq => u_Kn_moved hW.alike (h.1 c q hq), fun k hk => ⟨arrOfT_moved hW.alike (h.2.1 k hk).1, (h.2.1 k hk).2.moved hW.alike⟩, fun q hq => (h.2.2.1 q hq).warmM hW,
    ⟨h.2.2.2.1.1.moved hW.alike, h.2.2.2.1.2.moved hW.alike⟩, ⟨h.2.2.2.2.1.moved hW.alike, h.2.2.2.2.2.moved hW.alike⟩⟩
theorem gK.same {D : va_G} {cA : Nat → ClassId} {s U : State} (hv : s.vm = U.vm) (h : gK D cA s) : gK D cA U := by
  have hA : s.vm.Alike U.vm := by rw [hv]; exact Vm.Alike.refl _
  exact ⟨fun c q hq => u_Kn_moved hA (h.1 c q hq), fun k hk => ⟨arrOfT_moved hA (h.2.1 k hk).1, (h.2.1 k hk).2.moved hA⟩, fun q hq => (h.2.2.1 q hq).same rfl hv,
    ⟨h.2.2.2.1.1.moved hA, h.2.2.2.1.2.moved hA⟩, ⟨h.2.2.2.2.1.moved hA, h.2.2.2.2.2.moved hA⟩⟩
def gS (b : Nat) (H0 H : Heap) (locs : List Loc) : Prop := (∀ q : Nat, q < b → H[q]? = H0[q]?) ∧ ∀ l ∈ locs, b ≤ l.base
/-- the locals of the picture -/
def gL (b sb nL : Nat) (L : List (Option Value)) (ls : Array Slot) : Prop := ls.size = nL ∧ lv_wf ls ∧ ∀ (i : Nat) (v : Value), L[i]? = some (some v) → ls[i]? = some (.val (gv b sb v))
/-- where a method ends, and with what -/
def gR (cc : ByteArray) (ret : Option FieldType) (pc : Nat) (v : Option Value) : Prop :=
  (v = none ∧ ret = none ∧ decode cc pc = .ok (.return_, 1)) ∨
  (∃ (x : Int32) (ty : FieldType), v = some (.int x) ∧ ret = some ty ∧ narrow ty (.int x) = .int x ∧ decode cc pc = .ok (.ireturn, 1)) ∨
  (∃ x : Int64, v = some (.long x) ∧ ret = some .long ∧ decode cc pc = .ok (.lreturn, 1)) ∨
  (∃ (i : Nat) (C : String), v = some (.ref i) ∧ ret = some (.object C) ∧ decode cc pc = .ok (.areturn, 1))
def gX (sc : Option (Nat × (Nat → Int32))) (D : va_G) (cA : Nat → ClassId) (b sb : Nat) (own : String) (cc : ByteArray) (nL : Nat) (ret : Option FieldType) (ini : Bool) (d mc ms : Nat) (p : Program) (R : Room) (s : State) (m : MethodId) (args : Array Value) (meth : Method) (c : Code) : Prop :=
  p.tables.exec = Jvm.exec ∧ c.code = cc ∧ c.maxLocals = nL ∧ meth.sig.returnType = ret ∧ meth.locks = false ∧ (ini = true → meth.name = "<init>") ∧ s.vm.findClass own = some m.cls ∧ (∀ w ∈ gT, w.before args s = true) ∧ gK D cA s ∧
  (d ≤ R.frames ∧ 33 * d ≤ R.locals ∧ mc ≤ R.cells ∧ ms ≤ R.slots) ∧ (∀ (n : Nat) (xs : Nat → Int32), sc = some (n, xs) → va_X sb n xs s s.heap ∧ sb < b ∧ sb < s.heap.size)
/-- from the place pc, with locals L, stack st, heap h of N cells and room for bc cells of bs slots more, the method ends, and Q says how -/
def Go (sc : Option (Nat × (Nat → Int32))) (own : String) (cc : ByteArray) (nL : Nat) (ret : Option FieldType) (ini : Bool) (d pc : Nat) (L : List (Option Value)) (st : List Value) (h : gH) (N bc bs : Nat) (Q : Option Value → gH → Nat → Prop) : Prop :=
  ∀ (l : Launch) (D : va_G) (cA : Nat → ClassId) (b sb : Nat) (p : Program) (e : Env) (R : Room) (s : State) (m : MethodId) (args : Array Value) (below : List Frame) (meth : Method) (c : Code) (mc ms : Nat) (Qw : State → Prop),
    gX sc D cA b sb own cc nL ret ini d mc ms p R s m args meth c →
    (∀ (v : Option Value) (pcr : Nat) (ls : Array Slot) (H : Heap) (locs : List Loc) (h' : gH) (N' cells slots : Nat), Q v h' N' → gP D cA b sb h' N' H → gS b s.heap H locs → cells ≤ mc → slots ≤ ms → gR cc ret pcr v → W p l e R s m args below meth c H locs cells slots Qw (F0 m pcr ls (v.toList.map (gv b sb)))) →
    ∀ (ls : Array Slot) (H : Heap) (locs : List Loc) (cells slots : Nat), gL b sb nL L ls → gP D cA b sb h N H → gS b s.heap H locs → cells + bc ≤ mc → slots + bs ≤ ms → W p l e R s m args below meth c H locs cells slots Qw (F0 m pc ls (st.map (gv b sb)))
def gPc (D : va_G) (cA : Nat → ClassId) (b sb : Nat) (As : List Value) (h : gH) (N : Nat) : Array Value → State → Prop := fun av U => av = (As.map (gv b sb)).toArray ∧ gP D cA b sb h N U.heap ∧ gK D cA U
def gQc (D : va_G) (cA : Nat → ClassId) (b sb : Nat) (Q : Option Value → gH → Nat → Prop) : Array Value → State → Outcome → State → Prop := fun _ st oc t => ∃ (v : Option Value) (h' : gH) (N' : Nat), oc = .returned (v.map (gv b sb)) ∧ Q v h' N' ∧ gP D cA b sb h' N' t.heap ∧ ∀ q : Nat, q < b → t.heap[q]? = st.heap[q]?
/-- a call of y with the arguments As at the picture h of N cells: it returns, Q says with what; it makes at most mc cells of ms slots; d calls deep -/
def Run (d : Nat) (y : MethodName) (bytes : ByteArray) (maxL : Nat) (ret : Option FieldType) (As : List Value) (h : gH) (N mc ms : Nat) (Q : Option Value → gH → Nat → Prop) : Prop :=
  ∀ (l : Launch) (D : va_G) (cA : Nat → ClassId) (b sb : Nat), Met l y (.code y bytes maxL ret :: gT) { frames := d, cells := mc, slots := ms, locals := 33 * d } (gPc D cA b sb As h N) (gQc D cA b sb Q) mc ms (fun q => b ≤ q)
theorem gPc.blind (D : va_G) (cA : Nat → ClassId) (b sb : Nat) (As : List Value) (h : gH) (N : Nat) : FrameBlind (gPc D cA b sb As h N) := fun _ U g mk q => ⟨q.1, q.2.1, gK.same (s := U) (U := U.calling g mk _) rfl q.2.2⟩
theorem Run.mono {d : Nat} {y : MethodName} {bytes : ByteArray} {maxL : Nat} {ret : Option FieldType} {As : List Value} {h : gH} {N mc ms : Nat} {Q Q' : Option Value → gH → Nat → Prop} (H : Run d y bytes maxL ret As h N mc ms Q) (hq : ∀ v h' N', Q v h' N' → Q' v h' N') : Run d y bytes maxL ret As h N mc ms Q' := by
  intro l D cA b sb p e a1 a2 a3 s m args below a4 a5 a6 a7
  obtain ⟨k, o, h1, h2, h3, ⟨v, h', N', g1, g2, g3⟩, h5⟩ := H l D cA b sb p e a1 a2 a3 s m args below a4 a5 a6 a7
  exact ⟨k, o, h1, h2, h3, ⟨v, h', N', g1, hq v h' N' g2, g3⟩, h5⟩
/-! the locals -/
def gclr : Option Value → Option Value
  | some (.long _) => none
  | some (.double _) => none
  | x => x
/-- a value of one word is stored -/
def gset1 : List (Option Value) → Nat → Value → List (Option Value)
  | [], _, _ => []
  | _ :: r, 0, v => some v :: r
  | some (.long _) :: r, 1, v => none :: gset1 r 0 v
  | some (.double _) :: r, 1, v => none :: gset1 r 0 v
  | x :: r, i + 1, v => x :: gset1 r i v
/-- one of two words -/
def gset2 : List (Option Value) → Nat → Value → List (Option Value)
  | [], _, _ => []
  | [_], 0, v => [some v]
  | _ :: _ :: r, 0, v => some v :: none :: r
  | some (.long _) :: r, 1, v => none :: gset2 r 0 v
  | some (.double _) :: r, 1, v => none :: gset2 r 0 v
  | x :: r, i + 1, v => x :: gset2 r i v
theorem gv_cat {b sb : Nat} {v : Value} (h : (gv b sb v).category = 2) : ∃ x, v = .long x := by
  cases v <;> first | exact ⟨_, rfl⟩ | (simp [gv, Value.category] at h)
theorem gset1_at : ∀ (L : List (Option Value)) (i : Nat) (v : Value) (j : Nat) (w : Value), (gset1 L i v)[j]? = some (some w) → (j = i ∧ w = v) ∨ (j ≠ i ∧ L[j]? = some (some w) ∧ ¬ (j + 1 = i ∧ ∃ x, w = .long x))
  | [], i, v, j, w, h => by simp [gset1] at h
  | x :: r, 0, v, j, w, h => by
    simp only [gset1] at h
    cases j with
    | zero => simp at h; exact Or.inl ⟨rfl, h.symm⟩
    | succ j => simp at h; exact Or.inr ⟨by omega, by simpa using h, by omega⟩
  | x :: r, i + 1, v, j, w, h => by
    have key : ∃ y, gset1 (x :: r) (i + 1) v = y :: gset1 r i v ∧ (y = none ∨ (y = x ∧ ¬ (i = 0 ∧ ∃ z, x = some (.long z)))) := by
      cases i with
      | zero =>
        cases x with
        | none => exact ⟨none, by simp [gset1], Or.inl rfl⟩
        | some z =>
          cases z with
          | long _ => exact ⟨none, by simp [gset1], Or.inl rfl⟩
          | double _ => exact ⟨none, by simp [gset1], Or.inl rfl⟩
          | _ => exact ⟨_, by simp only [gset1], Or.inr ⟨rfl, by rintro ⟨-, q, hq⟩; cases hq⟩⟩
      | succ i =>
        refine ⟨x, ?_, Or.inr ⟨rfl, by omega⟩⟩
        cases x with
        | none => simp [gset1]
        | some z => cases z <;> simp [gset1]
    obtain ⟨y, e, hy⟩ := key
    rw [e] at h
    cases j with
    | zero =>
      simp at h
      rcases hy with hy | ⟨hy, hn⟩
      · rw [hy] at h; cases h
      · refine Or.inr ⟨by omega, by simp [← hy, h], ?_⟩
        rintro ⟨q1, z, q2⟩
        exact hn ⟨by omega, z, by rw [← hy, h, q2]⟩
    | succ j =>
      simp at h
      rcases gset1_at r i v j w (by simpa using h) with ⟨q1, q2⟩ | ⟨q1, q2, q3⟩
      · exact Or.inl ⟨by omega, q2⟩
      · exact Or.inr ⟨by omega, by simpa using q2, fun q => q3 ⟨by omega, q.2⟩⟩
theorem gset2_at : ∀ (L : List (Option Value)) (i : Nat) (v : Value) (j : Nat) (w : Value), (gset2 L i v)[j]? = some (some w) → (j = i ∧ w = v) ∨ (j ≠ i ∧ j ≠ i + 1 ∧ L[j]? = some (some w) ∧ ¬ (j + 1 = i ∧ ∃ x, w = .long x))
  | [], i, v, j, w, h => by simp [gset2] at h
  | [x], 0, v, j, w, h => by
    simp only [gset2] at h
    cases j with
    | zero => simp at h; exact Or.inl ⟨rfl, h.symm⟩
    | succ j => simp at h
  | x :: y :: r, 0, v, j, w, h => by
    simp only [gset2] at h
    match j, h with
    | 0, h => simp at h; exact Or.inl ⟨rfl, h.symm⟩
    | 1, h => simp at h
    | j + 2, h => simp at h; exact Or.inr ⟨by omega, by omega, by simpa using h, by omega⟩
  | x :: r, i + 1, v, j, w, h => by
    have key : ∃ y, gset2 (x :: r) (i + 1) v = y :: gset2 r i v ∧ (y = none ∨ (y = x ∧ ¬ (i = 0 ∧ ∃ z, x = some (.long z)))) := by
      cases i with
      | zero =>
        cases x with
        | none => exact ⟨none, by simp [gset2], Or.inl rfl⟩
        | some z =>
          cases z with
          | long _ => exact ⟨none, by simp [gset2], Or.inl rfl⟩
          | double _ => exact ⟨none, by simp [gset2], Or.inl rfl⟩
          | _ => exact ⟨_, by simp only [gset2], Or.inr ⟨rfl, by rintro ⟨-, q, hq⟩; cases hq⟩⟩
      | succ i =>
        refine ⟨x, ?_, Or.inr ⟨rfl, by omega⟩⟩
        cases x with
        | none => simp [gset2]
        | some z => cases z <;> simp [gset2]
    obtain ⟨y, e, hy⟩ := key
    rw [e] at h
    cases j with
    | zero =>
      simp at h
      rcases hy with hy | ⟨hy, hn⟩
      · rw [hy] at h; cases h
      · refine Or.inr ⟨by omega, by omega, by simp [← hy, h], ?_⟩
        rintro ⟨q1, z, q2⟩
        exact hn ⟨by omega, z, by rw [← hy, h, q2]⟩
    | succ j =>
      simp at h
      rcases gset2_at r i v j w (by simpa using h) with ⟨q1, q2⟩ | ⟨q1, q2, q3, q4⟩
      · exact Or.inl ⟨by omega, q2⟩
      · exact Or.inr ⟨by omega, by omega, by simpa using q3, fun q => q4 ⟨by omega, q.2⟩⟩
/-- the picture's locals as the kit lists them -/
def gas (b sb : Nat) (L : List (Option Value)) : List (Nat × Value) := (List.range L.length).filterMap (fun i => match L[i]? with | some (some v) => some (i, gv b sb v) | _ => none)
theorem gas_in {b sb : Nat} {L : List (Option Value)} {i : Nat} {v : Value} (h : L[i]? = some (some v)) : (i, gv b sb v) ∈ gas b sb L := by
  refine List.mem_filterMap.mpr ⟨i, List.mem_range.mpr (List.getElem?_eq_some_iff.mp h).1, ?_⟩
  rw [h]
theorem gL.has {b sb nL : Nat} {L : List (Option Value)} {ls : Array Slot} (h : gL b sb nL L ls) : lv_has ls nL (gas b sb L) := by
  refine ⟨h.1, h.2.1, fun q hq => ?_⟩
  obtain ⟨i, -, hi⟩ := List.mem_filterMap.mp hq
  cases hL : L[i]? with
  | none => rw [hL] at hi; cases hi
  | some x =>
    cases x with
    | none => rw [hL] at hi; cases hi
    | some v =>
      rw [hL] at hi
      cases hi
      exact h.2.2 i v hL
theorem gL.st1 {b sb nL : Nat} {L : List (Option Value)} {i : Nat} {v : Value} {ls' : Array Slot} (h : lv_has ls' nL ((i, gv b sb v) :: (gas b sb L).filter (fun q => !(q.1 == i) && !(q.1 + 1 == i && q.2.category == 2)))) : gL b sb nL (gset1 L i v) ls' := by
  refine ⟨h.1, h.2.1, fun j w hw => ?_⟩
  rcases gset1_at L i v j w hw with ⟨rfl, rfl⟩ | ⟨q1, q2, q3⟩
  · exact h.2.2 _ List.mem_cons_self
  · refine h.2.2 (j, gv b sb w) (List.mem_cons_of_mem _ (List.mem_filter.mpr ⟨gas_in q2, ?_⟩))
    simp only [Bool.and_eq_true, Bool.not_eq_true', beq_eq_false_iff_ne, Bool.and_eq_false_iff]
    refine ⟨q1, ?_⟩
    by_cases hj : j + 1 = i
    · right
      intro hc
      exact q3 ⟨hj, gv_cat hc⟩
    · left; exact hj
theorem gL.st2 {b sb nL : Nat} {L : List (Option Value)} {i : Nat} {v : Value} {ls' : Array Slot} (h : lv_has ls' nL ((i, gv b sb v) :: (gas b sb L).filter (fun q => !(q.1 == i) && (!(q.1 == i + 1) && !(q.1 + 1 == i && q.2.category == 2))))) : gL b sb nL (gset2 L i v) ls' := by
  refine ⟨h.1, h.2.1, fun j w hw => ?_⟩
  rcases gset2_at L i v j w hw with ⟨rfl, rfl⟩ | ⟨q1, q2, q3, q4⟩
  · exact h.2.2 _ List.mem_cons_self
  · refine h.2.2 (j, gv b sb w) (List.mem_cons_of_mem _ (List.mem_filter.mpr ⟨gas_in q3, ?_⟩))
    simp only [Bool.and_eq_true, Bool.not_eq_true', beq_eq_false_iff_ne, Bool.and_eq_false_iff]
    refine ⟨q1, q2, ?_⟩
    by_cases hj : j + 1 = i
    · right
      intro hc
      exact q4 ⟨hj, gv_cat hc⟩
    · left; exact hj
/-- the heap with one cell another -/
def hset (h : gH) (a : Nat) (x : gC) : gH := fun j => if j = a then x else h j
theorem hset_same {h : gH} {a : Nat} {x : gC} : hset h a x a = x := if_pos rfl
theorem hset_ne {h : gH} {a j : Nat} {x : gC} (hj : j ≠ a) : hset h a x j = h j := if_neg hj
theorem gP.at {D : va_G} {cA : Nat → ClassId} {b sb : Nat} {h : gH} {N : Nat} {H : Heap} (hP : gP D cA b sb h N H) {i : Nat} (hi : i < N) {x : gC} (hx : h i = x) : va_at D vwCl (b + i, ge b sb cA x) H := hx ▸ hP.2 i hi
theorem gP.set {D : va_G} {cA : Nat → ClassId} {b sb : Nat} {h : gH} {N : Nat} {H H1 : Heap} (hP : gP D cA b sb h N H) {i : Nat} {x : gC} (hz : H1.size = H.size) (oq : ∀ q : Nat, q ≠ b + i → H1[q]? = H[q]?) (hx : va_at D vwCl (b + i, ge b sb cA x) H1) : gP D cA b sb (hset h i x) N H1 := by
  refine ⟨hz.trans hP.1, fun j hj => ?_⟩
  by_cases e : j = i
  · subst e
    rw [hset_same]
    exact hx
  · rw [hset_ne e]
    exact (hP.2 j hj).kept (oq (b + j) (by omega))
theorem gP.push {D : va_G} {cA : Nat → ClassId} {b sb : Nat} {h : gH} {N : Nat} {H H1 : Heap} (hP : gP D cA b sb h N H) {x : gC} (hz : H1.size = H.size + 1) (oq : ∀ q : Nat, q < H.size → H1[q]? = H[q]?) (hx : va_at D vwCl (b + N, ge b sb cA x) H1) : gP D cA b sb (hset h N x) (N + 1) H1 := by
  refine ⟨by rw [hz, hP.1]; omega, fun j hj => ?_⟩
  by_cases e : j = N
  · subst e
    rw [hset_same]
    exact hx
  · rw [hset_ne e]
    exact (hP.2 j (by omega)).kept (oq (b + j) (by rw [hP.1]; omega))
theorem gS.put {b : Nat} {H0 H H1 : Heap} {locs : List Loc} {a k : Nat} (h : gS b H0 H locs) (oq : ∀ q : Nat, q ≠ b + a → H1[q]? = H[q]?) : gS b H0 H1 (locs ++ [⟨b + a, k⟩]) := by
  refine ⟨fun q hq => ?_, fun l hl => ?_⟩
  · rw [oq q (by omega)]; exact h.1 q hq
  · rcases List.mem_append.mp hl with h1 | h1
    · exact h.2 l h1
    · rw [List.mem_singleton.mp h1]; exact Nat.le_add_right _ _
theorem gS.call {b : Nat} {H0 H H1 : Heap} {locs L : List Loc} (h : gS b H0 H locs) (oq : ∀ q : Nat, q < b → H1[q]? = H[q]?) (hL : ∀ l ∈ L, b ≤ l.base) : gS b H0 H1 (locs ++ L) := by
  refine ⟨fun q hq => by rw [oq q hq]; exact h.1 q hq, fun l hl => ?_⟩
  rcases List.mem_append.mp hl with h1 | h1
  · exact h.2 l h1
  · exact hL l h1
end
section
/-! ===== a row an instruction, over pictures ===== -/
section GoRows
variable {sc : Option (Nat × (Nat → Int32))} {own : String} {cc : ByteArray} {nL : Nat} {ret : Option FieldType} {ini : Bool} {d pc : Nat} {L : List (Option Value)} {st : List Value} {h : gH} {N bc bs : Nat} {Q : Option Value → gH → Nat → Prop}
theorem go_st {pc' : Nat} {st' : List Value} (hstep : ∀ (p : Program) (l : Launch) (e : Env) (R : Room) (s : State) (m : MethodId) (args : Array Value) (below : List Frame) (meth : Method) (c : Code) (H : Heap) (locs : List Loc) (cells slots : Nat) (Qw : State → Prop) (ls : Array Slot) (b sb : Nat), p.tables.exec = Jvm.exec → c.code = cc → s.vm.findClass own = some m.cls → (∀ w ∈ gT, w.before args s = true) → W p l e R s m args below meth c H locs cells slots Qw (F0 m pc' ls (st'.map (gv b sb))) → W p l e R s m args below meth c H locs cells slots Qw (F0 m pc ls (st.map (gv b sb))))
    (k : Go sc own cc nL ret ini d pc' L st' h N bc bs Q) : Go sc own cc nL ret ini d pc L st h N bc bs Q := by
  intro l D cA b sb p e R s m args below meth c mc ms Qw X hE ls H locs cells slots hl hP hS hc hs
  obtain ⟨hx, hb1, hml, hr, hlk, hin, hown, hts, hK, -⟩ := id X
  exact hstep p l e R s m args below meth c H locs cells slots Qw ls b sb hx hb1 hown hts (k l D cA b sb p e R s m args below meth c mc ms Qw X hE ls H locs cells slots hl hP hS hc hs)
/-- the value on top, said otherwise -/
theorem go_top {x y : Value} (e : x = y) (k : Go sc own cc nL ret ini d pc L (y :: st) h N bc bs Q) : Go sc own cc nL ret ini d pc L (x :: st) h N bc bs Q := e ▸ k
theorem go_eqs {st' : List Value} (e : st = st') (k : Go sc own cc nL ret ini d pc L st' h N bc bs Q) : Go sc own cc nL ret ini d pc L st h N bc bs Q := e ▸ k
theorem go_eqL {L' : List (Option Value)} (e : L = L') (k : Go sc own cc nL ret ini d pc L' st h N bc bs Q) : Go sc own cc nL ret ini d pc L st h N bc bs Q := e ▸ k
theorem go_eqh {h' : gH} (e : h = h') (k : Go sc own cc nL ret ini d pc L st h' N bc bs Q) : Go sc own cc nL ret ini d pc L st h N bc bs Q := e ▸ k
theorem go_Q {Q' : Option Value → gH → Nat → Prop} (hq : ∀ v h' N', Q' v h' N' → Q v h' N') (k : Go sc own cc nL ret ini d pc L st h N bc bs Q') : Go sc own cc nL ret ini d pc L st h N bc bs Q := by
  intro l D cA b sb p e R s m args below meth c mc ms Qw X hE ls H locs cells slots hl hP hS hc hs
  exact k l D cA b sb p e R s m args below meth c mc ms Qw X (fun v pcr ls H locs h' N' cells slots g => hE v pcr ls H locs h' N' cells slots (hq v h' N' g)) ls H locs cells slots hl hP hS hc hs
theorem go_room {bc' bs' : Nat} (h1 : bc' ≤ bc) (h2 : bs' ≤ bs) (k : Go sc own cc nL ret ini d pc L st h N bc' bs' Q) : Go sc own cc nL ret ini d pc L st h N bc bs Q := by
  intro l D cA b sb p e R s m args below meth c mc ms Qw X hE ls H locs cells slots hl hP hS hc hs
  exact k l D cA b sb p e R s m args below meth c mc ms Qw X hE ls H locs cells slots hl hP hS (by omega) (by omega)
theorem go_iconst {n : Int} {v : Int32} (hd : decode cc pc = .ok (.iconst n, 1)) (hv : Int32.ofInt n = v) (k : Go sc own cc nL ret ini d (pc + 1) L (.int v :: st) h N bc bs Q) : Go sc own cc nL ret ini d pc L st h N bc bs Q :=
  go_st (fun p l e R s m args below meth c H locs cells slots Qw ls b sb hx hb hown hts w => lv_iconst hx hb hd hv w) k
theorem go_bipush {n : Int} {v : Int32} (hd : decode cc pc = .ok (.bipush n, 2)) (hv : (Int8.ofInt n).toInt32 = v) (k : Go sc own cc nL ret ini d (pc + 2) L (.int v :: st) h N bc bs Q) : Go sc own cc nL ret ini d pc L st h N bc bs Q :=
  go_st (fun p l e R s m args below meth c H locs cells slots Qw ls b sb hx hb hown hts w => lv_bipush hx hb hd hv w) k
theorem go_sipush {n : Int} {v : Int32} (hd : decode cc pc = .ok (.sipush n, 3)) (hv : (Int16.ofInt n).toInt32 = v) (k : Go sc own cc nL ret ini d (pc + 3) L (.int v :: st) h N bc bs Q) : Go sc own cc nL ret ini d pc L st h N bc bs Q :=
  go_st (fun p l e R s m args below meth c H locs cells slots Qw ls b sb hx hb hown hts w => lv_sipush hx hb hd hv w) k
theorem go_lconst {n : Fin 2} {v : Int64} (hd : decode cc pc = .ok (.lconst n, 1)) (hv : Int64.ofNat (n : Nat) = v) (k : Go sc own cc nL ret ini d (pc + 1) L (.long v :: st) h N bc bs Q) : Go sc own cc nL ret ini d pc L st h N bc bs Q :=
  go_st (fun p l e R s m args below meth c H locs cells slots Qw ls b sb hx hb hown hts w => lv_lconst hx hb hd hv w) k
theorem go_ldc2 {idx : Nat} {v : Int64} (hd : decode cc pc = .ok (.ldc2_w idx, 3)) (hw : Cond.constantLong own idx v ∈ gT) (k : Go sc own cc nL ret ini d (pc + 3) L (.long v :: st) h N bc bs Q) : Go sc own cc nL ret ini d pc L st h N bc bs Q :=
  go_st (fun p l e R s m args below meth c H locs cells slots Qw ls b sb hx hb hown hts w => lv_ldc2 hx hb hown (hts _ hw) hd w) k
theorem go_ldcf {idx : Nat} {v : UInt32} (hd : decode cc pc = .ok (.ldc idx, 2)) (hw : Cond.constantFloat own idx v ∈ gT) (k : Go sc own cc nL ret ini d (pc + 2) L (.float v :: st) h N bc bs Q) : Go sc own cc nL ret ini d pc L st h N bc bs Q :=
  go_st (fun p l e R s m args below meth c H locs cells slots Qw ls b sb hx hb hown hts w => lv_ldcf hx hb hown (hts _ hw) hd w) k
theorem go_iadd {x y : Int32} (hd : decode cc pc = .ok (.iadd, 1)) (k : Go sc own cc nL ret ini d (pc + 1) L (.int (x + y) :: st) h N bc bs Q) : Go sc own cc nL ret ini d pc L (.int y :: .int x :: st) h N bc bs Q :=
  go_st (fun p l e R s m args below meth c H locs cells slots Qw ls b sb hx hb hown hts w => lv_iadd hx hb hd w) k
theorem go_isub {x y : Int32} (hd : decode cc pc = .ok (.isub, 1)) (k : Go sc own cc nL ret ini d (pc + 1) L (.int (x - y) :: st) h N bc bs Q) : Go sc own cc nL ret ini d pc L (.int y :: .int x :: st) h N bc bs Q :=
  go_st (fun p l e R s m args below meth c H locs cells slots Qw ls b sb hx hb hown hts w => lv_isub hx hb hd w) k
theorem go_imul {x y : Int32} (hd : decode cc pc = .ok (.imul, 1)) (k : Go sc own cc nL ret ini d (pc + 1) L (.int (x * y) :: st) h N bc bs Q) : Go sc own cc nL ret ini d pc L (.int y :: .int x :: st) h N bc bs Q :=
  go_st (fun p l e R s m args below meth c H locs cells slots Qw ls b sb hx hb hown hts w => lv_imul hx hb hd w) k
theorem go_iand {x y : Int32} (hd : decode cc pc = .ok (.iand, 1)) (k : Go sc own cc nL ret ini d (pc + 1) L (.int (x &&& y) :: st) h N bc bs Q) : Go sc own cc nL ret ini d pc L (.int y :: .int x :: st) h N bc bs Q :=
  go_st (fun p l e R s m args below meth c H locs cells slots Qw ls b sb hx hb hown hts w => lv_iand hx hb hd w) k
theorem go_idiv {x y : Int32} (hd : decode cc pc = .ok (.idiv, 1)) (hne : ¬ y = 0) (k : Go sc own cc nL ret ini d (pc + 1) L (.int (x / y) :: st) h N bc bs Q) : Go sc own cc nL ret ini d pc L (.int y :: .int x :: st) h N bc bs Q :=
  go_st (fun p l e R s m args below meth c H locs cells slots Qw ls b sb hx hb hown hts w => lv_idiv hx hb hd hne w) k
theorem go_irem {x y : Int32} (hd : decode cc pc = .ok (.irem, 1)) (hne : ¬ y = 0) (k : Go sc own cc nL ret ini d (pc + 1) L (.int (x - x / y * y) :: st) h N bc bs Q) : Go sc own cc nL ret ini d pc L (.int y :: .int x :: st) h N bc bs Q :=
  go_st (fun p l e R s m args below meth c H locs cells slots Qw ls b sb hx hb hown hts w => lv_irem hx hb hd hne w) k
theorem go_ladd {x y : Int64} (hd : decode cc pc = .ok (.ladd, 1)) (k : Go sc own cc nL ret ini d (pc + 1) L (.long (x + y) :: st) h N bc bs Q) : Go sc own cc nL ret ini d pc L (.long y :: .long x :: st) h N bc bs Q :=
  go_st (fun p l e R s m args below meth c H locs cells slots Qw ls b sb hx hb hown hts w => lv_ladd hx hb hd w) k
theorem go_lsub {x y : Int64} (hd : decode cc pc = .ok (.lsub, 1)) (k : Go sc own cc nL ret ini d (pc + 1) L (.long (x - y) :: st) h N bc bs Q) : Go sc own cc nL ret ini d pc L (.long y :: .long x :: st) h N bc bs Q :=
  go_st (fun p l e R s m args below meth c H locs cells slots Qw ls b sb hx hb hown hts w => lv_lsub hx hb hd w) k
theorem go_lmul {x y : Int64} (hd : decode cc pc = .ok (.lmul, 1)) (k : Go sc own cc nL ret ini d (pc + 1) L (.long (x * y) :: st) h N bc bs Q) : Go sc own cc nL ret ini d pc L (.long y :: .long x :: st) h N bc bs Q :=
  go_st (fun p l e R s m args below meth c H locs cells slots Qw ls b sb hx hb hown hts w => lv_lmul hx hb hd w) k
theorem go_ldiv {x y : Int64} (hd : decode cc pc = .ok (.ldiv, 1)) (hne : ¬ y = 0) (k : Go sc own cc nL ret ini d (pc + 1) L (.long (x / y) :: st) h N bc bs Q) : Go sc own cc nL ret ini d pc L (.long y :: .long x :: st) h N bc bs Q :=
  go_st (fun p l e R s m args below meth c H locs cells slots Qw ls b sb hx hb hown hts w => lv_ldiv hx hb hd hne w) k
theorem go_lrem {x y : Int64} (hd : decode cc pc = .ok (.lrem, 1)) (hne : ¬ y = 0) (k : Go sc own cc nL ret ini d (pc + 1) L (.long (x - x / y * y) :: st) h N bc bs Q) : Go sc own cc nL ret ini d pc L (.long y :: .long x :: st) h N bc bs Q :=
  go_st (fun p l e R s m args below meth c H locs cells slots Qw ls b sb hx hb hown hts w => lv_lrem hx hb hd hne w) k
theorem go_i2l {x : Int32} {v : Int64} (hd : decode cc pc = .ok (.i2l, 1)) (hv : x.toInt64 = v) (k : Go sc own cc nL ret ini d (pc + 1) L (.long v :: st) h N bc bs Q) : Go sc own cc nL ret ini d pc L (.int x :: st) h N bc bs Q :=
  go_st (fun p l e R s m args below meth c H locs cells slots Qw ls b sb hx hb hown hts w => lv_i2l hx hb hd hv w) k
theorem go_i2f {x : Int32} (hd : decode cc pc = .ok (.i2f, 1)) (k : Go sc own cc nL ret ini d (pc + 1) L (.float (FP.i2f x) :: st) h N bc bs Q) : Go sc own cc nL ret ini d pc L (.int x :: st) h N bc bs Q :=
  go_st (fun p l e R s m args below meth c H locs cells slots Qw ls b sb hx hb hown hts w => lv_i2f hx hb hd w) k
theorem go_f2i {x : UInt32} (hd : decode cc pc = .ok (.f2i, 1)) (k : Go sc own cc nL ret ini d (pc + 1) L (.int (FP.f2i x) :: st) h N bc bs Q) : Go sc own cc nL ret ini d pc L (.float x :: st) h N bc bs Q :=
  go_st (fun p l e R s m args below meth c H locs cells slots Qw ls b sb hx hb hown hts w => lv_f2i hx hb hd w) k
theorem go_fmul {x y : UInt32} (hd : decode cc pc = .ok (.fmul, 1)) (hne : vf_n32 (FP.fmul x y)) (k : Go sc own cc nL ret ini d (pc + 1) L (.float (FP.fmul x y) :: st) h N bc bs Q) : Go sc own cc nL ret ini d pc L (.float y :: .float x :: st) h N bc bs Q :=
  go_st (fun p l e R s m args below meth c H locs cells slots Qw ls b sb hx hb hown hts w => lv_fmul hx hb hd hne w) k
theorem go_fdiv {x y : UInt32} (hd : decode cc pc = .ok (.fdiv, 1)) (hne : vf_n32 (FP.fdiv x y)) (k : Go sc own cc nL ret ini d (pc + 1) L (.float (FP.fdiv x y) :: st) h N bc bs Q) : Go sc own cc nL ret ini d pc L (.float y :: .float x :: st) h N bc bs Q :=
  go_st (fun p l e R s m args below meth c H locs cells slots Qw ls b sb hx hb hown hts w => lv_fdiv hx hb hd hne w) k
theorem go_lcmp {x y : Int64} (hd : decode cc pc = .ok (.lcmp, 1)) (k : Go sc own cc nL ret ini d (pc + 1) L (.int (lg_cmp x y) :: st) h N bc bs Q) : Go sc own cc nL ret ini d pc L (.long y :: .long x :: st) h N bc bs Q :=
  go_st (fun p l e R s m args below meth c H locs cells slots Qw ls b sb hx hb hown hts w => W.lcmp hx hb hd w) k
def g1 : Value → Bool
  | .long _ => false
  | .double _ => false
  | _ => true
theorem g1_cat {b sb : Nat} {v : Value} (h : g1 v = true) : (gv b sb v).category = 1 := by cases v <;> first | rfl | (simp [g1] at h)
theorem go_dup {v : Value} (hd : decode cc pc = .ok (.dup, 1)) (hv : g1 v = true) (k : Go sc own cc nL ret ini d (pc + 1) L (v :: v :: st) h N bc bs Q) : Go sc own cc nL ret ini d pc L (v :: st) h N bc bs Q :=
  go_st (fun p l e R s m args below meth c H locs cells slots Qw ls b sb hx hb hown hts w => lv_dup hx hb hd (g1_cat hv) w) k
theorem go_pop {v : Value} (hd : decode cc pc = .ok (.pop, 1)) (hv : g1 v = true) (k : Go sc own cc nL ret ini d (pc + 1) L st h N bc bs Q) : Go sc own cc nL ret ini d pc L (v :: st) h N bc bs Q :=
  go_st (fun p l e R s m args below meth c H locs cells slots Qw ls b sb hx hb hown hts w => lv_pop hx hb hd (g1_cat hv) w) k
theorem go_dup2 {v u : Value} (hd : decode cc pc = .ok (.dup2, 1)) (hv : g1 v = true) (hu : g1 u = true) (k : Go sc own cc nL ret ini d (pc + 1) L (v :: u :: v :: u :: st) h N bc bs Q) : Go sc own cc nL ret ini d pc L (v :: u :: st) h N bc bs Q :=
  go_st (fun p l e R s m args below meth c H locs cells slots Qw ls b sb hx hb hown hts w => lv_dup2_11 hx hb hd (g1_cat hv) (g1_cat hu) w) k
theorem go_goto {off : Int} {tgt : Nat} (hd : decode cc pc = .ok (.goto off, 3)) (ht : (pc : Int) + off = (tgt : Int)) (k : Go sc own cc nL ret ini d tgt L st h N bc bs Q) : Go sc own cc nL ret ini d pc L st h N bc bs Q :=
  go_st (fun p l e R s m args below meth c H locs cells slots Qw ls b sb hx hb hown hts w => lv_goto hx hb hd ht w) k
theorem go_iload_n {k : Fin 4} {x : Int32} (hd : decode cc pc = .ok (.iload_n k, 1)) (hl : L[(k : Nat)]? = some (some (.int x))) (kk : Go sc own cc nL ret ini d (pc + 1) L (.int x :: st) h N bc bs Q) : Go sc own cc nL ret ini d pc L st h N bc bs Q := by
  intro l D cA b sb p e R s m args below meth c mc ms Qw X hE ls H locs cells slots hg hP hS hc hs
  exact lv_iload_n X.1 X.2.1 hd rfl (hg.2.2 _ _ hl) (kk l D cA b sb p e R s m args below meth c mc ms Qw X hE ls H locs cells slots hg hP hS hc hs)
theorem go_iload {i : Nat} {x : Int32} (hd : decode cc pc = .ok (.iload i, 2)) (hl : L[i]? = some (some (.int x))) (kk : Go sc own cc nL ret ini d (pc + 2) L (.int x :: st) h N bc bs Q) : Go sc own cc nL ret ini d pc L st h N bc bs Q := by
  intro l D cA b sb p e R s m args below meth c mc ms Qw X hE ls H locs cells slots hg hP hS hc hs
  exact lv_iload X.1 X.2.1 hd (hg.2.2 _ _ hl) (kk l D cA b sb p e R s m args below meth c mc ms Qw X hE ls H locs cells slots hg hP hS hc hs)
theorem go_lload_n {k : Fin 4} {x : Int64} (hd : decode cc pc = .ok (.lload_n k, 1)) (hl : L[(k : Nat)]? = some (some (.long x))) (kk : Go sc own cc nL ret ini d (pc + 1) L (.long x :: st) h N bc bs Q) : Go sc own cc nL ret ini d pc L st h N bc bs Q := by
  intro l D cA b sb p e R s m args below meth c mc ms Qw X hE ls H locs cells slots hg hP hS hc hs
  exact lv_lload_n X.1 X.2.1 hd rfl (hg.2.2 _ _ hl) (kk l D cA b sb p e R s m args below meth c mc ms Qw X hE ls H locs cells slots hg hP hS hc hs)
theorem go_lload {i : Nat} {x : Int64} (hd : decode cc pc = .ok (.lload i, 2)) (hl : L[i]? = some (some (.long x))) (kk : Go sc own cc nL ret ini d (pc + 2) L (.long x :: st) h N bc bs Q) : Go sc own cc nL ret ini d pc L st h N bc bs Q := by
  intro l D cA b sb p e R s m args below meth c mc ms Qw X hE ls H locs cells slots hg hP hS hc hs
  exact lv_lload X.1 X.2.1 hd (hg.2.2 _ _ hl) (kk l D cA b sb p e R s m args below meth c mc ms Qw X hE ls H locs cells slots hg hP hS hc hs)
theorem go_aload_n {k : Fin 4} {x : Nat} (hd : decode cc pc = .ok (.aload_n k, 1)) (hl : L[(k : Nat)]? = some (some (.ref x))) (kk : Go sc own cc nL ret ini d (pc + 1) L (.ref x :: st) h N bc bs Q) : Go sc own cc nL ret ini d pc L st h N bc bs Q := by
  intro l D cA b sb p e R s m args below meth c mc ms Qw X hE ls H locs cells slots hg hP hS hc hs
  exact lv_aload_n X.1 X.2.1 hd rfl (hg.2.2 _ _ hl) (kk l D cA b sb p e R s m args below meth c mc ms Qw X hE ls H locs cells slots hg hP hS hc hs)
theorem go_aload {i : Nat} {x : Nat} (hd : decode cc pc = .ok (.aload i, 2)) (hl : L[i]? = some (some (.ref x))) (kk : Go sc own cc nL ret ini d (pc + 2) L (.ref x :: st) h N bc bs Q) : Go sc own cc nL ret ini d pc L st h N bc bs Q := by
  intro l D cA b sb p e R s m args below meth c mc ms Qw X hE ls H locs cells slots hg hP hS hc hs
  exact lv_aload X.1 X.2.1 hd (hg.2.2 _ _ hl) (kk l D cA b sb p e R s m args below meth c mc ms Qw X hE ls H locs cells slots hg hP hS hc hs)
theorem go_aload_s {k : Fin 4} {x : UInt64} (hd : decode cc pc = .ok (.aload_n k, 1)) (hl : L[(k : Nat)]? = some (some (.double x))) (kk : Go sc own cc nL ret ini d (pc + 1) L (.double x :: st) h N bc bs Q) : Go sc own cc nL ret ini d pc L st h N bc bs Q := by
  intro l D cA b sb p e R s m args below meth c mc ms Qw X hE ls H locs cells slots hg hP hS hc hs
  exact lv_aload_n X.1 X.2.1 hd rfl (hg.2.2 _ _ hl) (kk l D cA b sb p e R s m args below meth c mc ms Qw X hE ls H locs cells slots hg hP hS hc hs)
theorem go_istore_n {k : Fin 4} {i : Nat} {x : Int32} {L' : List (Option Value)} (hd : decode cc pc = .ok (.istore_n k, 1)) (hi : (k : Nat) = i) (hn : i < nL) (hL : gset1 L i (.int x) = L') (kk : Go sc own cc nL ret ini d (pc + 1) L' st h N bc bs Q) : Go sc own cc nL ret ini d pc L (.int x :: st) h N bc bs Q := by
  intro l D cA b sb p e R s m args below meth c mc ms Qw X hE ls H locs cells slots hg hP hS hc hs
  subst hL
  exact lv_istore_n X.1 X.2.1 hd hi hg.has hn rfl (fun ls' h' => kk l D cA b sb p e R s m args below meth c mc ms Qw X hE ls' H locs cells slots (gL.st1 h') hP hS hc hs)
theorem go_istore {i : Nat} {x : Int32} {L' : List (Option Value)} (hd : decode cc pc = .ok (.istore i, 2)) (hn : i < nL) (hL : gset1 L i (.int x) = L') (kk : Go sc own cc nL ret ini d (pc + 2) L' st h N bc bs Q) : Go sc own cc nL ret ini d pc L (.int x :: st) h N bc bs Q := by
  intro l D cA b sb p e R s m args below meth c mc ms Qw X hE ls H locs cells slots hg hP hS hc hs
  subst hL
  exact lv_istore X.1 X.2.1 hd hg.has hn rfl (fun ls' h' => kk l D cA b sb p e R s m args below meth c mc ms Qw X hE ls' H locs cells slots (gL.st1 h') hP hS hc hs)
theorem go_astore_n {k : Fin 4} {i : Nat} {x : Nat} {L' : List (Option Value)} (hd : decode cc pc = .ok (.astore_n k, 1)) (hi : (k : Nat) = i) (hn : i < nL) (hL : gset1 L i (.ref x) = L') (kk : Go sc own cc nL ret ini d (pc + 1) L' st h N bc bs Q) : Go sc own cc nL ret ini d pc L (.ref x :: st) h N bc bs Q := by
  intro l D cA b sb p e R s m args below meth c mc ms Qw X hE ls H locs cells slots hg hP hS hc hs
  subst hL
  exact lv_astore_n X.1 X.2.1 hd hi hg.has hn rfl (fun ls' h' => kk l D cA b sb p e R s m args below meth c mc ms Qw X hE ls' H locs cells slots (gL.st1 h') hP hS hc hs)
theorem go_astore {i : Nat} {x : Nat} {L' : List (Option Value)} (hd : decode cc pc = .ok (.astore i, 2)) (hn : i < nL) (hL : gset1 L i (.ref x) = L') (kk : Go sc own cc nL ret ini d (pc + 2) L' st h N bc bs Q) : Go sc own cc nL ret ini d pc L (.ref x :: st) h N bc bs Q := by
  intro l D cA b sb p e R s m args below meth c mc ms Qw X hE ls H locs cells slots hg hP hS hc hs
  subst hL
  exact lv_astore X.1 X.2.1 hd hg.has hn rfl (fun ls' h' => kk l D cA b sb p e R s m args below meth c mc ms Qw X hE ls' H locs cells slots (gL.st1 h') hP hS hc hs)
theorem go_lstore_n {k : Fin 4} {i : Nat} {x : Int64} {L' : List (Option Value)} (hd : decode cc pc = .ok (.lstore_n k, 1)) (hi : (k : Nat) = i) (hn : i + 1 < nL) (hL : gset2 L i (.long x) = L') (kk : Go sc own cc nL ret ini d (pc + 1) L' st h N bc bs Q) : Go sc own cc nL ret ini d pc L (.long x :: st) h N bc bs Q := by
  intro l D cA b sb p e R s m args below meth c mc ms Qw X hE ls H locs cells slots hg hP hS hc hs
  subst hL
  exact lv_lstore_n X.1 X.2.1 hd hi hg.has hn rfl (fun ls' h' => kk l D cA b sb p e R s m args below meth c mc ms Qw X hE ls' H locs cells slots (gL.st2 h') hP hS hc hs)
theorem go_lstore {i : Nat} {x : Int64} {L' : List (Option Value)} (hd : decode cc pc = .ok (.lstore i, 2)) (hn : i + 1 < nL) (hL : gset2 L i (.long x) = L') (kk : Go sc own cc nL ret ini d (pc + 2) L' st h N bc bs Q) : Go sc own cc nL ret ini d pc L (.long x :: st) h N bc bs Q := by
  intro l D cA b sb p e R s m args below meth c mc ms Qw X hE ls H locs cells slots hg hP hS hc hs
  subst hL
  exact lv_lstore X.1 X.2.1 hd hg.has hn rfl (fun ls' h' => kk l D cA b sb p e R s m args below meth c mc ms Qw X hE ls' H locs cells slots (gL.st2 h') hP hS hc hs)
theorem go_iinc {i : Nat} {n : Int} {x v : Int32} {L' : List (Option Value)} (hd : decode cc pc = .ok (.iinc i n, 3)) (hl : L[i]? = some (some (.int x))) (hv : x + Int32.ofInt n = v) (hn : i < nL) (hL : gset1 L i (.int v) = L') (kk : Go sc own cc nL ret ini d (pc + 3) L' st h N bc bs Q) : Go sc own cc nL ret ini d pc L st h N bc bs Q := by
  intro l D cA b sb p e R s m args below meth c mc ms Qw X hE ls H locs cells slots hg hP hS hc hs
  subst hL
  obtain ⟨k, hk⟩ := List.getElem?_of_mem (gas_in (b := b) (sb := sb) hl)
  exact lv_iinc X.1 X.2.1 hd hg.has hk hv hn rfl (fun ls' h' => kk l D cA b sb p e R s m args below meth c mc ms Qw X hE ls' H locs cells slots (gL.st1 h') hP hS hc hs)
theorem go_inc {i k : Nat} {L' : List (Option Value)} (hd : decode cc pc = .ok (.iinc i 1, 3)) (hl : L[i]? = some (some (.int (nI k)))) (hn : i < nL) (hL : gset1 L i (.int (nI (k + 1))) = L') (kk : Go sc own cc nL ret ini d (pc + 3) L' st h N bc bs Q) : Go sc own cc nL ret ini d pc L st h N bc bs Q :=
  go_iinc hd hl (nI_1 k) hn hL kk
theorem go_if_eq {x : Int32} {off : Int} {tgt : Nat} (hd : decode cc pc = .ok (.ifCond .eq off, 3)) (ht : (pc : Int) + off = (tgt : Int)) (kt : x = 0 → Go sc own cc nL ret ini d tgt L st h N bc bs Q) (kf : ¬ (x = 0) → Go sc own cc nL ret ini d (pc + 3) L st h N bc bs Q) : Go sc own cc nL ret ini d pc L (.int x :: st) h N bc bs Q := by
  intro l D cA b sb p e R s m args below meth c mc ms Qw X hE ls H locs cells slots hg hP hS hc hs
  exact lv_if_eq X.1 X.2.1 hd ht (fun q => kt (by simpa using q) l D cA b sb p e R s m args below meth c mc ms Qw X hE ls H locs cells slots hg hP hS hc hs) (fun q => kf (by simpa using q) l D cA b sb p e R s m args below meth c mc ms Qw X hE ls H locs cells slots hg hP hS hc hs)
theorem go_icmp_eq {x y : Int32} {off : Int} {tgt : Nat} (hd : decode cc pc = .ok (.if_icmp .eq off, 3)) (ht : (pc : Int) + off = (tgt : Int)) (kt : x = y → Go sc own cc nL ret ini d tgt L st h N bc bs Q) (kf : ¬ (x = y) → Go sc own cc nL ret ini d (pc + 3) L st h N bc bs Q) : Go sc own cc nL ret ini d pc L (.int y :: .int x :: st) h N bc bs Q := by
  intro l D cA b sb p e R s m args below meth c mc ms Qw X hE ls H locs cells slots hg hP hS hc hs
  exact lv_icmp_eq X.1 X.2.1 hd ht (fun q => kt (by simpa using q) l D cA b sb p e R s m args below meth c mc ms Qw X hE ls H locs cells slots hg hP hS hc hs) (fun q => kf (by simpa using q) l D cA b sb p e R s m args below meth c mc ms Qw X hE ls H locs cells slots hg hP hS hc hs)
theorem go_if_ne {x : Int32} {off : Int} {tgt : Nat} (hd : decode cc pc = .ok (.ifCond .ne off, 3)) (ht : (pc : Int) + off = (tgt : Int)) (kt : ¬ x = 0 → Go sc own cc nL ret ini d tgt L st h N bc bs Q) (kf : ¬ (¬ x = 0) → Go sc own cc nL ret ini d (pc + 3) L st h N bc bs Q) : Go sc own cc nL ret ini d pc L (.int x :: st) h N bc bs Q := by
  intro l D cA b sb p e R s m args below meth c mc ms Qw X hE ls H locs cells slots hg hP hS hc hs
  exact lv_if_ne X.1 X.2.1 hd ht (fun q => kt (by simpa using q) l D cA b sb p e R s m args below meth c mc ms Qw X hE ls H locs cells slots hg hP hS hc hs) (fun q => kf (by simpa using q) l D cA b sb p e R s m args below meth c mc ms Qw X hE ls H locs cells slots hg hP hS hc hs)
theorem go_icmp_ne {x y : Int32} {off : Int} {tgt : Nat} (hd : decode cc pc = .ok (.if_icmp .ne off, 3)) (ht : (pc : Int) + off = (tgt : Int)) (kt : ¬ x = y → Go sc own cc nL ret ini d tgt L st h N bc bs Q) (kf : ¬ (¬ x = y) → Go sc own cc nL ret ini d (pc + 3) L st h N bc bs Q) : Go sc own cc nL ret ini d pc L (.int y :: .int x :: st) h N bc bs Q := by
  intro l D cA b sb p e R s m args below meth c mc ms Qw X hE ls H locs cells slots hg hP hS hc hs
  exact lv_icmp_ne X.1 X.2.1 hd ht (fun q => kt (by simpa using q) l D cA b sb p e R s m args below meth c mc ms Qw X hE ls H locs cells slots hg hP hS hc hs) (fun q => kf (by simpa using q) l D cA b sb p e R s m args below meth c mc ms Qw X hE ls H locs cells slots hg hP hS hc hs)
theorem go_if_lt {x : Int32} {off : Int} {tgt : Nat} (hd : decode cc pc = .ok (.ifCond .lt off, 3)) (ht : (pc : Int) + off = (tgt : Int)) (kt : x < 0 → Go sc own cc nL ret ini d tgt L st h N bc bs Q) (kf : ¬ (x < 0) → Go sc own cc nL ret ini d (pc + 3) L st h N bc bs Q) : Go sc own cc nL ret ini d pc L (.int x :: st) h N bc bs Q := by
  intro l D cA b sb p e R s m args below meth c mc ms Qw X hE ls H locs cells slots hg hP hS hc hs
  exact lv_if_lt X.1 X.2.1 hd ht (fun q => kt (by simpa using q) l D cA b sb p e R s m args below meth c mc ms Qw X hE ls H locs cells slots hg hP hS hc hs) (fun q => kf (by simpa using q) l D cA b sb p e R s m args below meth c mc ms Qw X hE ls H locs cells slots hg hP hS hc hs)
theorem go_icmp_lt {x y : Int32} {off : Int} {tgt : Nat} (hd : decode cc pc = .ok (.if_icmp .lt off, 3)) (ht : (pc : Int) + off = (tgt : Int)) (kt : x < y → Go sc own cc nL ret ini d tgt L st h N bc bs Q) (kf : ¬ (x < y) → Go sc own cc nL ret ini d (pc + 3) L st h N bc bs Q) : Go sc own cc nL ret ini d pc L (.int y :: .int x :: st) h N bc bs Q := by
  intro l D cA b sb p e R s m args below meth c mc ms Qw X hE ls H locs cells slots hg hP hS hc hs
  exact lv_icmp_lt X.1 X.2.1 hd ht (fun q => kt (by simpa using q) l D cA b sb p e R s m args below meth c mc ms Qw X hE ls H locs cells slots hg hP hS hc hs) (fun q => kf (by simpa using q) l D cA b sb p e R s m args below meth c mc ms Qw X hE ls H locs cells slots hg hP hS hc hs)
theorem go_if_ge {x : Int32} {off : Int} {tgt : Nat} (hd : decode cc pc = .ok (.ifCond .ge off, 3)) (ht : (pc : Int) + off = (tgt : Int)) (kt : 0 ≤ x → Go sc own cc nL ret ini d tgt L st h N bc bs Q) (kf : ¬ (0 ≤ x) → Go sc own cc nL ret ini d (pc + 3) L st h N bc bs Q) : Go sc own cc nL ret ini d pc L (.int x :: st) h N bc bs Q := by
  intro l D cA b sb p e R s m args below meth c mc ms Qw X hE ls H locs cells slots hg hP hS hc hs
  exact lv_if_ge X.1 X.2.1 hd ht (fun q => kt (by simpa using q) l D cA b sb p e R s m args below meth c mc ms Qw X hE ls H locs cells slots hg hP hS hc hs) (fun q => kf (by simpa using q) l D cA b sb p e R s m args below meth c mc ms Qw X hE ls H locs cells slots hg hP hS hc hs)
theorem go_icmp_ge {x y : Int32} {off : Int} {tgt : Nat} (hd : decode cc pc = .ok (.if_icmp .ge off, 3)) (ht : (pc : Int) + off = (tgt : Int)) (kt : y ≤ x → Go sc own cc nL ret ini d tgt L st h N bc bs Q) (kf : ¬ (y ≤ x) → Go sc own cc nL ret ini d (pc + 3) L st h N bc bs Q) : Go sc own cc nL ret ini d pc L (.int y :: .int x :: st) h N bc bs Q := by
  intro l D cA b sb p e R s m args below meth c mc ms Qw X hE ls H locs cells slots hg hP hS hc hs
  exact lv_icmp_ge X.1 X.2.1 hd ht (fun q => kt (by simpa using q) l D cA b sb p e R s m args below meth c mc ms Qw X hE ls H locs cells slots hg hP hS hc hs) (fun q => kf (by simpa using q) l D cA b sb p e R s m args below meth c mc ms Qw X hE ls H locs cells slots hg hP hS hc hs)
theorem go_if_gt {x : Int32} {off : Int} {tgt : Nat} (hd : decode cc pc = .ok (.ifCond .gt off, 3)) (ht : (pc : Int) + off = (tgt : Int)) (kt : 0 < x → Go sc own cc nL ret ini d tgt L st h N bc bs Q) (kf : ¬ (0 < x) → Go sc own cc nL ret ini d (pc + 3) L st h N bc bs Q) : Go sc own cc nL ret ini d pc L (.int x :: st) h N bc bs Q := by
  intro l D cA b sb p e R s m args below meth c mc ms Qw X hE ls H locs cells slots hg hP hS hc hs
  exact lv_if_gt X.1 X.2.1 hd ht (fun q => kt (by simpa using q) l D cA b sb p e R s m args below meth c mc ms Qw X hE ls H locs cells slots hg hP hS hc hs) (fun q => kf (by simpa using q) l D cA b sb p e R s m args below meth c mc ms Qw X hE ls H locs cells slots hg hP hS hc hs)
theorem go_icmp_gt {x y : Int32} {off : Int} {tgt : Nat} (hd : decode cc pc = .ok (.if_icmp .gt off, 3)) (ht : (pc : Int) + off = (tgt : Int)) (kt : y < x → Go sc own cc nL ret ini d tgt L st h N bc bs Q) (kf : ¬ (y < x) → Go sc own cc nL ret ini d (pc + 3) L st h N bc bs Q) : Go sc own cc nL ret ini d pc L (.int y :: .int x :: st) h N bc bs Q := by
  intro l D cA b sb p e R s m args below meth c mc ms Qw X hE ls H locs cells slots hg hP hS hc hs
  exact lv_icmp_gt X.1 X.2.1 hd ht (fun q => kt (by simpa using q) l D cA b sb p e R s m args below meth c mc ms Qw X hE ls H locs cells slots hg hP hS hc hs) (fun q => kf (by simpa using q) l D cA b sb p e R s m args below meth c mc ms Qw X hE ls H locs cells slots hg hP hS hc hs)
theorem go_if_le {x : Int32} {off : Int} {tgt : Nat} (hd : decode cc pc = .ok (.ifCond .le off, 3)) (ht : (pc : Int) + off = (tgt : Int)) (kt : x ≤ 0 → Go sc own cc nL ret ini d tgt L st h N bc bs Q) (kf : ¬ (x ≤ 0) → Go sc own cc nL ret ini d (pc + 3) L st h N bc bs Q) : Go sc own cc nL ret ini d pc L (.int x :: st) h N bc bs Q := by
  intro l D cA b sb p e R s m args below meth c mc ms Qw X hE ls H locs cells slots hg hP hS hc hs
  exact lv_if_le X.1 X.2.1 hd ht (fun q => kt (by simpa using q) l D cA b sb p e R s m args below meth c mc ms Qw X hE ls H locs cells slots hg hP hS hc hs) (fun q => kf (by simpa using q) l D cA b sb p e R s m args below meth c mc ms Qw X hE ls H locs cells slots hg hP hS hc hs)
theorem go_icmp_le {x y : Int32} {off : Int} {tgt : Nat} (hd : decode cc pc = .ok (.if_icmp .le off, 3)) (ht : (pc : Int) + off = (tgt : Int)) (kt : x ≤ y → Go sc own cc nL ret ini d tgt L st h N bc bs Q) (kf : ¬ (x ≤ y) → Go sc own cc nL ret ini d (pc + 3) L st h N bc bs Q) : Go sc own cc nL ret ini d pc L (.int y :: .int x :: st) h N bc bs Q := by
  intro l D cA b sb p e R s m args below meth c mc ms Qw X hE ls H locs cells slots hg hP hS hc hs
  exact lv_icmp_le X.1 X.2.1 hd ht (fun q => kt (by simpa using q) l D cA b sb p e R s m args below meth c mc ms Qw X hE ls H locs cells slots hg hP hS hc hs) (fun q => kf (by simpa using q) l D cA b sb p e R s m args below meth c mc ms Qw X hE ls H locs cells slots hg hP hS hc hs)
theorem go_tableOut {dflt lo hi : Int} {offs : Array Int} {len : Nat} {x : Int32} {tgt : Nat} (hd : decode cc pc = .ok (.tableswitch dflt lo hi offs, len)) (hx0 : x.toInt < lo ∨ hi < x.toInt) (ht : (pc : Int) + dflt = (tgt : Int)) (k : Go sc own cc nL ret ini d tgt L st h N bc bs Q) : Go sc own cc nL ret ini d pc L (.int x :: st) h N bc bs Q :=
  go_st (fun p l e R s m args below meth c H locs cells slots Qw ls b sb hx hb hown hts w => lv_tableOut hx hb hd hx0 ht w) k
theorem go_tableIn {dflt lo hi : Int} {offs : Array Int} {len : Nat} {x : Int32} {off : Int} {tgt : Nat} (hd : decode cc pc = .ok (.tableswitch dflt lo hi offs, len)) (h1 : ¬ x.toInt < lo) (h2 : ¬ hi < x.toInt) (ho : offs[(x.toInt - lo).toNat]? = some off) (ht : (pc : Int) + off = (tgt : Int)) (k : Go sc own cc nL ret ini d tgt L st h N bc bs Q) : Go sc own cc nL ret ini d pc L (.int x :: st) h N bc bs Q :=
  go_st (fun p l e R s m args below meth c H locs cells slots Qw ls b sb hx hb hown hts w => lv_tableIn hx hb hd h1 h2 ho ht w) k
theorem go_lookup {dflt : Int} {ps : Array (Int × Int)} {len : Nat} {x : Int32} {off : Int} {tgt : Nat} (hd : decode cc pc = .ok (.lookupswitch dflt ps, len)) (hp : (ps.toList.zip (ps.toList.drop 1)).all (fun (a, next) => a.1 < next.1) = true) (ho : Op.lookupswitch.offset ps.toList dflt x.toInt = off) (ht : (pc : Int) + off = (tgt : Int)) (k : Go sc own cc nL ret ini d tgt L st h N bc bs Q) : Go sc own cc nL ret ini d pc L (.int x :: st) h N bc bs Q :=
  go_st (fun p l e R s m args below meth c H locs cells slots Qw ls b sb hx hb hown hts w => lv_lookup hx hb hd hp ho ht w) k
theorem go_ret {v : Option Value} (hR : gR cc ret pc v) (hq : Q v h N) : Go sc own cc nL ret ini d pc L v.toList h N bc bs Q := by
  intro l D cA b sb p e R s m args below meth c mc ms Qw X hE ls H locs cells slots hg hP hS hc hs
  exact hE v pc ls H locs h N cells slots hq hP hS (by omega) (by omega) hR
theorem go_vret (hd : decode cc pc = .ok (.return_, 1)) (hr : ret = none) (hq : Q none h N) : Go sc own cc nL ret ini d pc L [] h N bc bs Q := go_ret (v := none) (Or.inl ⟨rfl, hr, hd⟩) hq
theorem go_iret {x : Int32} (hd : decode cc pc = .ok (.ireturn, 1)) (hr : ret = some .int) (hq : Q (some (.int x)) h N) : Go sc own cc nL ret ini d pc L [.int x] h N bc bs Q := go_ret (v := some (.int x)) (Or.inr (Or.inl ⟨x, .int, rfl, hr, rfl, hd⟩)) hq
theorem go_zret {x : Int32} (hd : decode cc pc = .ok (.ireturn, 1)) (hr : ret = some .boolean) (hx : x = 0 ∨ x = 1) (hq : Q (some (.int x)) h N) : Go sc own cc nL ret ini d pc L [.int x] h N bc bs Q := go_ret (v := some (.int x)) (Or.inr (Or.inl ⟨x, .boolean, rfl, hr, by rcases hx with rfl | rfl <;> rfl, hd⟩)) hq
theorem go_lret {x : Int64} (hd : decode cc pc = .ok (.lreturn, 1)) (hr : ret = some .long) (hq : Q (some (.long x)) h N) : Go sc own cc nL ret ini d pc L [.long x] h N bc bs Q := go_ret (v := some (.long x)) (Or.inr (Or.inr (Or.inl ⟨x, rfl, hr, hd⟩))) hq
theorem go_aret {i : Nat} {C : String} (hd : decode cc pc = .ok (.areturn, 1)) (hr : ret = some (.object C)) (hq : Q (some (.ref i)) h N) : Go sc own cc nL ret ini d pc L [.ref i] h N bc bs Q := go_ret (v := some (.ref i)) (Or.inr (Or.inr (Or.inr ⟨i, C, rfl, hr, hd⟩))) hq
end GoRows
end
section
/-! ===== fields, arrays, new cells ===== -/
def gty : Nat → Nat → FieldType
  | 0 => tyX0
  | 1 => tyX1
  | 2 => tyX2
  | 3 => tyX3
  | 4 => tyX4
  | 5 => tyX5
  | 6 => tyX6
  | 7 => tyX7
  | 8 => tyX8
  | _ => tyX9
theorem gT_of {ws : List Cond} (h : ∀ w ∈ ws, w ∈ lw_tbl) (hg : ws.all goodWord = true) : ∀ w ∈ ws, w ∈ gT := fun w hw => List.mem_filter.mpr ⟨h w hw, List.all_eq_true.mp hg w hw⟩
theorem gl0 : ∀ w ∈ u_ws RX0 TX0 5, w ∈ gT := gT_of (by decide +kernel) (by decide +kernel)
theorem gl1 : ∀ w ∈ u_ws RX1 TX1 3, w ∈ gT := gT_of (by decide +kernel) (by decide +kernel)
theorem gl2 : ∀ w ∈ u_ws RX2 TX2 4, w ∈ gT := gT_of (by decide +kernel) (by decide +kernel)
theorem gl3 : ∀ w ∈ u_ws RX3 TX3 2, w ∈ gT := gT_of (by decide +kernel) (by decide +kernel)
theorem gl4 : ∀ w ∈ u_ws RX4 TX4 10, w ∈ gT := gT_of (by decide +kernel) (by decide +kernel)
theorem gl5 : ∀ w ∈ u_ws RX5 TX5 3, w ∈ gT := gT_of (by decide +kernel) (by decide +kernel)
theorem gl6 : ∀ w ∈ u_ws RX6 TX6 11, w ∈ gT := gT_of (by decide +kernel) (by decide +kernel)
theorem gl7 : ∀ w ∈ u_ws RX7 TX7 3, w ∈ gT := gT_of (by decide +kernel) (by decide +kernel)
theorem gl8 : ∀ w ∈ u_ws RX8 TX8 6, w ∈ gT := gT_of (by decide +kernel) (by decide +kernel)
theorem gl9 : ∀ w ∈ u_ws RX9 TX9 28, w ∈ gT := gT_of (by decide +kernel) (by decide +kernel)
theorem gcl_ok {ci : Nat} {q : vw_C} (h : vwCl[ci]? = some q) : (∀ w ∈ u_ws q.1 q.2.1 q.2.2, w ∈ gT) ∧ (∀ k, k < q.2.2 → parseFieldDescriptor (q.2.1 k).2.2.1 = some (gty ci k)) ∧ ∀ a, a < q.2.2 → ∀ b, b < q.2.2 → a ≠ b → (q.2.1 a).2.1 ≠ (q.2.1 b).2.1 := by
  match ci, h with
  | 0, h => cases h; exact ⟨gl0, tyX0_ok, nmX0⟩
  | 1, h => cases h; exact ⟨gl1, tyX1_ok, nmX1⟩
  | 2, h => cases h; exact ⟨gl2, tyX2_ok, nmX2⟩
  | 3, h => cases h; exact ⟨gl3, tyX3_ok, nmX3⟩
  | 4, h => cases h; exact ⟨gl4, tyX4_ok, nmX4⟩
  | 5, h => cases h; exact ⟨gl5, tyX5_ok, nmX5⟩
  | 6, h => cases h; exact ⟨gl6, tyX6_ok, nmX6⟩
  | 7, h => cases h; exact ⟨gl7, tyX7_ok, nmX7⟩
  | 8, h => cases h; exact ⟨gl8, tyX8_ok, nmX8⟩
  | 9, h => cases h; exact ⟨gl9, tyX9_ok, nmX9⟩
  | k + 10, h => simp [vwCl] at h
/-- a value that a field of the type may hold -/
def gfit (ty : FieldType) (v : Value) : Prop := match v with
  | .int x => ty = .int ∨ (ty = .boolean ∧ (x = 0 ∨ x = 1))
  | .long _ => ty = .long
  | .ref _ => ty.isReference = true
  | _ => False
theorem gfit.ok {ty : FieldType} {v : Value} (h : gfit ty v) (b sb : Nat) : narrow ty (gv b sb v) = gv b sb v ∧ fits ty (gv b sb v) = true := by
  cases v with
  | int x =>
    rcases h with rfl | ⟨rfl, rfl | rfl⟩
    · exact ⟨rfl, rfl⟩
    · exact ⟨rfl, rfl⟩
    · exact ⟨rfl, rfl⟩
  | long x =>
    have h : ty = .long := h
    subst h
    exact ⟨rfl, rfl⟩
  | ref i =>
    have h : ty.isReference = true := h
    cases ty <;> first | exact ⟨rfl, rfl⟩ | (simp [FieldType.isReference] at h)
  | _ => exact h.elim
/-- whether the field may be written here: it isn't final, or this is its own class's constructor -/
def gfin (ci k : Nat) (own : String) (ini : Bool) : Prop := ∃ (C : String) (T : u_T) (n : Nat), vwCl[ci]? = some (C, T, n) ∧ ((T k).2.2.2 = false ∨ ((T k).2.2.2 = true ∧ ini = true ∧ (T k).1 = own))
section GoHeap
variable {sc : Option (Nat × (Nat → Int32))} {own : String} {cc : ByteArray} {nL : Nat} {ret : Option FieldType} {ini : Bool} {d pc : Nat} {L : List (Option Value)} {st : List Value} {h : gH} {N bc bs : Nat} {Q : Option Value → gH → Nat → Prop}
theorem go_get {idx ci k b0 : Nat} {fs : List Value} {v : Value} (hd : decode cc pc = .ok (.getfield idx, 3)) (hf : gFl own idx ci k) (hb : b0 < N) (he : h b0 = .inr (ci, fs)) (hv : fs[k]? = some v) (kk : Go sc own cc nL ret ini d (pc + 3) L (v :: st) h N bc bs Q) : Go sc own cc nL ret ini d pc L (.ref b0 :: st) h N bc bs Q := by
  intro l D cA b sb p e R s m args below meth c mc ms Qw X hE ls H locs cells slots hg hP hS hc hs
  obtain ⟨hx, hb1, hml, hr, hlk, hin, hown, hts, hK, -⟩ := id X
  obtain ⟨C, T, n, hcl, hk, hw⟩ := hf
  obtain ⟨hin1, -, -⟩ := gcl_ok hcl
  obtain ⟨r, h1, cell, q1, q2, q3, q4⟩ := hP.at hb he
  have hr : r = (C, T, n) := Option.some.inj (h1.symm.trans hcl)
  subst hr
  obtain ⟨hSl, hfc, kC, hkC, hkind⟩ := hK.1 ci _ hcl
  obtain ⟨cf, kf, fi, f, hi, hsl⟩ := hSl k hk
  refine W.getf hx hb1 hown (hts _ hw) hi (u_facts hfc hkC (u_lays hts hin1 hk) hi).1 q1 (by rw [q3]; exact fun h => by cases h) (v := gv b sb v) ?_ rfl rfl hd (kk l D cA b sb p e R s m args below meth c mc ms Qw X hE ls H locs cells slots hg hP hS hc hs)
  rw [hsl, q4 k hk]
  simp [vp_V, hv]
theorem go_put {idx ci k b0 : Nat} {fs fs' : List Value} {v : Value} (hd : decode cc pc = .ok (.putfield idx, 3)) (hf : gFl own idx ci k) (hb : b0 < N) (he : h b0 = .inr (ci, fs)) (hn : k < fs.length) (hv : gfit (gty ci k) v) (hfin : gfin ci k own ini) (hfs : fs.set k v = fs') (kk : Go sc own cc nL ret ini d (pc + 3) L st (hset h b0 (.inr (ci, fs'))) N bc bs Q) : Go sc own cc nL ret ini d pc L (v :: .ref b0 :: st) h N bc bs Q := by
  intro l D cA b sb p e R s m args below meth c mc ms Qw X hE ls H locs cells slots hg hP hS hc hs
  obtain ⟨hx, hb1, hml, hr, hlk, hini, hown, hts, hK, -⟩ := id X
  obtain ⟨C, T, n, hcl, hk, hw⟩ := hf
  obtain ⟨hin1, hty, hnm⟩ := gcl_ok hcl
  subst hfs
  obtain ⟨r, h1, cell, q1, q2, q3, q4⟩ := hP.at hb he
  have hr : r = (C, T, n) := Option.some.inj (h1.symm.trans hcl)
  subst hr
  have hKc := hK.1 ci _ hcl
  obtain ⟨hSl, hfc, kC, hkC, hkind⟩ := id hKc
  have hap : ∀ x y, x < n → y < n → x ≠ y → (D.2 ci) x ≠ (D.2 ci) y := by
    intro x y hx' hy hne
    obtain ⟨_, _, _, fa, hia, ea⟩ := hSl x hx'
    obtain ⟨_, _, _, fb, hib, eb⟩ := hSl y hy
    rw [← ea, ← eb]
    refine u_apart (u_lays hts hin1 hx') (u_lays hts hin1 hy) hia hib ?_
    rw [(State.fieldFound?_type hia (hty x hx')).1, (State.fieldFound?_type hib (hty y hy)).1]
    exact hnm x hx' y hy hne
  obtain ⟨cf, kf, fi, f, hi, hsl⟩ := hSl k hk
  obtain ⟨hn1, hn2⟩ := hv.ok b sb
  have hst := (u_facts hfc hkC (u_lays hts hin1 hk) hi).1
  have hlay := hts _ (hin1 _ (u_in_lay hk))
  have hend : ∀ H' : Heap, H'[b + b0]? = some (cell.setSlot f.slot (gv b sb v)) → H'.size = H.size → (∀ q, q ≠ b + b0 → H'[q]? = H[q]?) → W p l e R s m args below meth c H' (locs ++ [⟨b + b0, f.slot⟩]) cells slots Qw (F0 m (pc + 3) ls (st.map (gv b sb))) := by
    intro H' e1 e2 e3
    rw [hsl] at e1 ⊢
    refine kk l D cA b sb p e R s m args below meth c mc ms Qw X hE ls H' _ cells slots hg (hP.set e2 e3 ?_) (hS.put e3) hc hs
    refine ⟨_, hcl, t_OB.to (V := updV (vp_V (fs.map (gv b sb))) k (gv b sb v)) ⟨_, e1, q2, q3, t_set q4 hap hk _⟩ (fun j _ => ?_)⟩
    rw [List.map_set]
    exact vp_updV_set (by rw [List.length_map]; exact hn) _ j
  obtain ⟨C', T', n', hcl', hfin⟩ := hfin
  cases hcl.symm.trans hcl'
  unfold u_lay at hlay
  rcases hfin with hfin | ⟨hfin, hi1, hdecl⟩
  · rw [if_neg (by rw [hfin]; decide)] at hlay
    have h6 := u_store hfc hkC hkind hlay hi (hty k hk) hn1 hn2
    exact W.putK hx hb1 (f := f) ⟨hown, hts _ hw, ⟨_, _, _, hi⟩, hst⟩ (by rw [q2]; exact h6) q1 q3 (by rw [hsl]; exact k2_hasslot (q4 k hk)) rfl rfl hd hend
  · rw [if_pos hfin] at hlay
    have hcf : m.cls = cf := by
      obtain ⟨_, _, c', _, _, _, -, -, hf', -, -, -, hown2, -⟩ := Cond.laysFinal_spec hlay
      have e1 : c' = cf := by have := hi.symm.trans hf'; simp at this; exact this.1.symm
      rw [hdecl] at hown2
      rw [← e1]; exact Option.some.inj (hown.symm.trans hown2)
    have h6 := u_fits hfc hkC hkind (Or.inr hlay) hi (hty k hk) hn1 hn2
    exact W.putFinK hx hb1 hown (hts _ hw) hi hst hcf (hini hi1) (by rw [q2]; exact h6) q1 q3 (by rw [hsl]; exact k2_hasslot (q4 k hk)) rfl rfl hd hend
/-! arrays -/
theorem go_iald {n k b0 : Nat} {f : Nat → Int32} {i : Int32} (hd : decode cc pc = .ok (.iaload, 1)) (hb : b0 < N) (he : h b0 = .inl (0, n, .inl f)) (hi : i = nI k) (hk : k < n) (hn : n < 2 ^ 31) (kk : Go sc own cc nL ret ini d (pc + 1) L (.int (f k) :: st) h N bc bs Q) : Go sc own cc nL ret ini d pc L (.int i :: .ref b0 :: st) h N bc bs Q := by
  intro l D cA b sb p e R s m args below meth c mc ms Qw X hE ls H locs cells slots hg hP hS hc hs
  subst hi
  have hk2 : (nI k).toNatClampNeg = k := nI_clamp (by omega)
  exact W.iald (v := .int (f k)) X.1 X.2.1 (hP.at hb he) ((X.2.2.2.2.2.2.2.2.1.2.1 0 (by decide)).1 n (fun j => .int (f j))) (fun q => by cases q) (by show ¬ (nI k < 0 ∨ (arrV _ _ _).slots.size ≤ _); rw [arrV_size]; exact vp_in_nI hk hn) (by rw [hk2]; exact arrV_read _ _ hk) rfl rfl hd (kk l D cA b sb p e R s m args below meth c mc ms Qw X hE ls H locs cells slots hg hP hS hc hs)
theorem go_lald {n k b0 : Nat} {f : Nat → Int64} {i : Int32} (hd : decode cc pc = .ok (.laload, 1)) (hb : b0 < N) (he : h b0 = .inl (1, n, .inr (.inl f))) (hi : i = nI k) (hk : k < n) (hn : n < 2 ^ 31) (kk : Go sc own cc nL ret ini d (pc + 1) L (.long (f k) :: st) h N bc bs Q) : Go sc own cc nL ret ini d pc L (.int i :: .ref b0 :: st) h N bc bs Q := by
  intro l D cA b sb p e R s m args below meth c mc ms Qw X hE ls H locs cells slots hg hP hS hc hs
  subst hi
  have hk2 : (nI k).toNatClampNeg = k := nI_clamp (by omega)
  exact W.lald (v := .long (f k)) X.1 X.2.1 (hP.at hb he) ((X.2.2.2.2.2.2.2.2.1.2.1 1 (by decide)).1 n (fun j => .long (f j))) (fun q => by cases q) (by show ¬ (nI k < 0 ∨ (arrV _ _ _).slots.size ≤ _); rw [arrV_size]; exact vp_in_nI hk hn) (by rw [hk2]; exact arrV_read _ _ hk) rfl rfl hd (kk l D cA b sb p e R s m args below meth c mc ms Qw X hE ls H locs cells slots hg hP hS hc hs)
theorem go_zald {n k b0 : Nat} {f : Nat → Int32} {i : Int32} (hd : decode cc pc = .ok (.baload, 1)) (hb : b0 < N) (he : h b0 = .inl (2, n, .inl f)) (hi : i = nI k) (hk : k < n) (hn : n < 2 ^ 31) (kk : Go sc own cc nL ret ini d (pc + 1) L (.int (f k) :: st) h N bc bs Q) : Go sc own cc nL ret ini d pc L (.int i :: .ref b0 :: st) h N bc bs Q := by
  intro l D cA b sb p e R s m args below meth c mc ms Qw X hE ls H locs cells slots hg hP hS hc hs
  subst hi
  have hk2 : (nI k).toNatClampNeg = k := nI_clamp (by omega)
  exact W.zald (v := .int (f k)) X.1 X.2.1 (hP.at hb he) ((X.2.2.2.2.2.2.2.2.1.2.1 2 (by decide)).1 n (fun j => .int (f j))) (fun q => by cases q) (by show ¬ (nI k < 0 ∨ (arrV _ _ _).slots.size ≤ _); rw [arrV_size]; exact vp_in_nI hk hn) (by rw [hk2]; exact arrV_read _ _ hk) rfl rfl hd (kk l D cA b sb p e R s m args below meth c mc ms Qw X hE ls H locs cells slots hg hP hS hc hs)
theorem gA_ref {kd : Nat} (h3 : 3 ≤ kd) (h7 : kd < 7) : (gA kd).isReference = true := by
  rcases (by omega : kd = 3 ∨ kd = 4 ∨ kd = 5 ∨ kd = 6) with rfl | rfl | rfl | rfl <;> rfl
theorem go_aald {n k b0 kd a : Nat} {f : Nat → Option Nat} {i : Int32} (hd : decode cc pc = .ok (.aaload, 1)) (hb : b0 < N) (he : h b0 = .inl (kd, n, .inr (.inr (.inr (.inr f))))) (h3 : 3 ≤ kd) (h7 : kd < 7) (hi : i = nI k) (hk : k < n) (hn : n < 2 ^ 31) (hf : f k = some a) (kk : Go sc own cc nL ret ini d (pc + 1) L (.ref a :: st) h N bc bs Q) : Go sc own cc nL ret ini d pc L (.int i :: .ref b0 :: st) h N bc bs Q := by
  intro l D cA b sb p e R s m args below meth c mc ms Qw X hE ls H locs cells slots hg hP hS hc hs
  subst hi
  have hk2 : (nI k).toNatClampNeg = k := nI_clamp (by omega)
  exact W.aald (v := .ref (b + a)) (ty := gA kd) X.1 X.2.1 (hP.at hb he) ((X.2.2.2.2.2.2.2.2.1.2.1 kd h7).1 n (fun j => va_rf ((f j).map (fun i => b + i)))) (gA_ref h3 h7) (fun q => by cases q) (by show ¬ (nI k < 0 ∨ (arrV _ _ _).slots.size ≤ _); rw [arrV_size]; exact vp_in_nI hk hn) (by rw [hk2]; exact (arrV_read _ (fun j => va_rf ((f j).map (fun i => b + i))) hk).trans (by simp only [hf]; rfl)) rfl rfl hd (kk l D cA b sb p e R s m args below meth c mc ms Qw X hE ls H locs cells slots hg hP hS hc hs)
theorem go_iast {n k b0 : Nat} {f : Nat → Int32} {i x : Int32} (hd : decode cc pc = .ok (.iastore, 1)) (hb : b0 < N) (he : h b0 = .inl (0, n, .inl f)) (hi : i = nI k) (hk : k < n) (hn : n < 2 ^ 31) (kk : Go sc own cc nL ret ini d (pc + 1) L st (hset h b0 (.inl (0, n, .inl (upd f k x)))) N bc bs Q) : Go sc own cc nL ret ini d pc L (.int x :: .int i :: .ref b0 :: st) h N bc bs Q := by
  intro l D cA b sb p e R s m args below meth c mc ms Qw X hE ls H locs cells slots hg hP hS hc hs
  subst hi
  have hk2 : (nI k).toNatClampNeg = k := nI_clamp (by omega)
  refine W.iast X.1 X.2.1 (hP.at hb he) ((X.2.2.2.2.2.2.2.2.1.2.1 0 (by decide)).1 n (fun j => .int (f j))) (fun q => by cases q) (by show ¬ (nI k < 0 ∨ (arrV _ _ _).slots.size ≤ _); rw [arrV_size]; exact vp_in_nI hk hn) rfl rfl hd fun H1 e1 z oq => ?_
  refine kk l D cA b sb p e R s m args below meth c mc ms Qw X hE ls H1 _ cells slots hg (hP.set z oq ?_) (hS.put oq) hc hs
  show H1[b + b0]? = some (vp_cell _ _)
  rw [e1, hk2]
  show some ((vp_cell (cA 0) (n, .inl f)).setSlot k _) = some (vp_cell (cA 0) (n, .inl (upd f k x)))
  rw [vp_cell_i, vp_cell_i, arrV_store]
  congr 2
  funext q
  by_cases hq : q = k <;> simp [updV, upd, hq]
theorem go_last {n k b0 : Nat} {f : Nat → Int64} {i : Int32} {x : Int64} (hd : decode cc pc = .ok (.lastore, 1)) (hb : b0 < N) (he : h b0 = .inl (1, n, .inr (.inl f))) (hi : i = nI k) (hk : k < n) (hn : n < 2 ^ 31) (kk : Go sc own cc nL ret ini d (pc + 1) L st (hset h b0 (.inl (1, n, .inr (.inl (vp_updL f k x))))) N bc bs Q) : Go sc own cc nL ret ini d pc L (.long x :: .int i :: .ref b0 :: st) h N bc bs Q := by
  intro l D cA b sb p e R s m args below meth c mc ms Qw X hE ls H locs cells slots hg hP hS hc hs
  subst hi
  have hk2 : (nI k).toNatClampNeg = k := nI_clamp (by omega)
  refine W.last X.1 X.2.1 (hP.at hb he) ((X.2.2.2.2.2.2.2.2.1.2.1 1 (by decide)).1 n (fun j => .long (f j))) (fun q => by cases q) (by show ¬ (nI k < 0 ∨ (arrV _ _ _).slots.size ≤ _); rw [arrV_size]; exact vp_in_nI hk hn) rfl rfl hd fun H1 e1 z oq => ?_
  refine kk l D cA b sb p e R s m args below meth c mc ms Qw X hE ls H1 _ cells slots hg (hP.set z oq ?_) (hS.put oq) hc hs
  show H1[b + b0]? = some (vp_cell _ _)
  rw [e1, hk2]
  show some ((vp_cell (cA 1) (n, .inr (.inl f))).setSlot k _) = some (vp_cell (cA 1) (n, .inr (.inl (vp_updL f k x))))
  rw [vp_cell_l, vp_cell_l, arrV_store]
  congr 2
  funext q
  by_cases hq : q = k <;> simp [updV, vp_updL, hq]
theorem go_zast {n k b0 : Nat} {f : Nat → Int32} {i x : Int32} (hd : decode cc pc = .ok (.bastore, 1)) (hb : b0 < N) (he : h b0 = .inl (2, n, .inl f)) (hi : i = nI k) (hk : k < n) (hn : n < 2 ^ 31) (h01 : x = 0 ∨ x = 1) (kk : Go sc own cc nL ret ini d (pc + 1) L st (hset h b0 (.inl (2, n, .inl (upd f k x)))) N bc bs Q) : Go sc own cc nL ret ini d pc L (.int x :: .int i :: .ref b0 :: st) h N bc bs Q := by
  intro l D cA b sb p e R s m args below meth c mc ms Qw X hE ls H locs cells slots hg hP hS hc hs
  subst hi
  have hk2 : (nI k).toNatClampNeg = k := nI_clamp (by omega)
  have hnar : narrow .boolean (.int x) = .int x := by rcases h01 with rfl | rfl <;> rfl
  refine W.zast X.1 X.2.1 (hP.at hb he) ((X.2.2.2.2.2.2.2.2.1.2.1 2 (by decide)).1 n (fun j => .int (f j))) (fun q => by cases q) (by show ¬ (nI k < 0 ∨ (arrV _ _ _).slots.size ≤ _); rw [arrV_size]; exact vp_in_nI hk hn) rfl rfl hd fun H1 e1 z oq => ?_
  refine kk l D cA b sb p e R s m args below meth c mc ms Qw X hE ls H1 _ cells slots hg (hP.set z oq ?_) (hS.put oq) hc hs
  show H1[b + b0]? = some (vp_cell _ _)
  rw [e1, hk2, hnar]
  show some ((vp_cell (cA 2) (n, .inl f)).setSlot k _) = some (vp_cell (cA 2) (n, .inl (upd f k x)))
  rw [vp_cell_i, vp_cell_i, arrV_store]
  congr 2
  funext q
  by_cases hq : q = k <;> simp [updV, upd, hq]
theorem go_alen {n b0 kd : Nat} {a : (Nat → Int32) ⊕ (Nat → Int64) ⊕ (Nat → UInt32) ⊕ (Nat → UInt64) ⊕ (Nat → Option Nat)} (hd : decode cc pc = .ok (.arraylength, 1)) (hb : b0 < N) (he : h b0 = .inl (kd, n, a)) (h7 : kd < 7) (kk : Go sc own cc nL ret ini d (pc + 1) L (.int (nI n) :: st) h N bc bs Q) : Go sc own cc nL ret ini d pc L (.ref b0 :: st) h N bc bs Q := by
  intro l D cA b sb p e R s m args below meth c mc ms Qw X hE ls H locs cells slots hg hP hS hc hs
  have hat := hP.at hb he
  have kk2 := kk l D cA b sb p e R s m args below meth c mc ms Qw X hE ls H locs cells slots hg hP hS hc hs
  have hA := (X.2.2.2.2.2.2.2.2.1.2.1 kd h7).1 n
  obtain f | f | f | f | f := a
  · exact W.alen (n := Int32.ofNat n) X.1 X.2.1 hat (hA (fun j => .int (f j))) (by show (arrV _ _ _).slots.size.toInt32 = _; rw [arrV_size] <;> rfl) rfl rfl hd kk2
  · exact W.alen (n := Int32.ofNat n) X.1 X.2.1 hat (hA (fun j => .long (f j))) (by show (arrV _ _ _).slots.size.toInt32 = _; rw [arrV_size] <;> rfl) rfl rfl hd kk2
  · exact W.alen (n := Int32.ofNat n) X.1 X.2.1 hat (hA (fun j => .float (f j))) (by show (arrV _ _ _).slots.size.toInt32 = _; rw [arrV_size] <;> rfl) rfl rfl hd kk2
  · exact W.alen (n := Int32.ofNat n) X.1 X.2.1 hat (hA (fun j => .double (f j))) (by show (arrV _ _ _).slots.size.toInt32 = _; rw [arrV_size] <;> rfl) rfl rfl hd kk2
  · exact W.alen (n := Int32.ofNat n) X.1 X.2.1 hat (hA (fun j => va_rf ((f j).map (fun i => b + i)))) (by show (arrV _ _ _).slots.size.toInt32 = _; rw [arrV_size] <;> rfl) rfl rfl hd kk2
/-- an object into an array of its class: kind 3 of class 0, kind 4 of class 5 -/
theorem go_aast {n k b0 kd a ci : Nat} {f : Nat → Option Nat} {fs : List Value} {i : Int32} (hd : decode cc pc = .ok (.aastore, 1)) (hb : b0 < N) (he : h b0 = .inl (kd, n, .inr (.inr (.inr (.inr f))))) (hkd : (kd = 3 ∧ ci = 0) ∨ (kd = 4 ∧ ci = 5)) (ha : a < N) (hea : h a = .inr (ci, fs)) (hi : i = nI k) (hk : k < n) (hn : n < 2 ^ 31) (kk : Go sc own cc nL ret ini d (pc + 1) L st (hset h b0 (.inl (kd, n, .inr (.inr (.inr (.inr (va_up f k (some a)))))))) N bc bs Q) : Go sc own cc nL ret ini d pc L (.ref a :: .int i :: .ref b0 :: st) h N bc bs Q := by
  intro l D cA b sb p e R s m args below meth c mc ms Qw X hE ls H locs cells slots hg hP hS hc hs
  subst hi
  have hk2 : (nI k).toNatClampNeg = k := nI_clamp (by omega)
  have hK := X.2.2.2.2.2.2.2.2.1
  have h7 : kd < 7 := by omega
  have hcl : ∃ r : vw_C, vwCl[ci]? = some r ∧ gA kd = .object r.1 := by
    rcases hkd with ⟨rfl, rfl⟩ | ⟨rfl, rfl⟩
    · exact ⟨(RX0, TX0, 5), rfl, rfl⟩
    · exact ⟨(RX5, TX5, 3), rfl, rfl⟩
  obtain ⟨r, hr1, hr2⟩ := hcl
  obtain ⟨r', hr', cellV, g1, g2, g3, -⟩ := hP.at ha hea
  have hcls := (hK.1 ci r hr1).2
  have hra := (hK.2.1 kd h7).2
  rw [hr2] at hra
  obtain ⟨kA, comp, k1, k2, k3, -⟩ := hra
  have hcomp : comp = D.1 ci := Option.some.inj (k3.symm.trans hcls.1)
  subst hcomp
  obtain ⟨kC, hkC, -⟩ := id hcls.2
  refine W.aast X.1 X.2.1 (hP.at hb he) (fun q h => by cases h) (fun h => by cases h) k1 k2 rfl hkC ⟨(nI_pos (by omega)), by show _ < (arrV _ _ _).slots.size; rw [arrV_size, hk2]; exact hk⟩ g1 (fun q h => by rw [g3] at h; cases h) (by rw [g2]; exact hkC) (by rw [g2]; exact va_assign hcls) rfl rfl hd fun H1 e1 z oq => ?_
  refine kk l D cA b sb p e R s m args below meth c mc ms Qw X hE ls H1 _ cells slots hg (hP.set z oq ?_) (hS.put oq) hc hs
  show H1[b + b0]? = some (vp_cell _ _)
  rw [e1, hk2]
  show some ((vp_cell (cA kd) (n, .inr (.inr (.inr (.inr (fun j => (f j).map (fun i => b + i))))))).setSlot k _) = some (vp_cell (cA kd) (n, .inr (.inr (.inr (.inr (fun j => (va_up f k (some a) j).map (fun i => b + i)))))))
  rw [vp_cell_q, vp_cell_q, arrV_store]
  congr 2
  funext q
  by_cases hq : q = k <;> simp [updV, va_up, va_rf, hq]
/-! the script -/
theorem go_sld {n k : Nat} {xs : Nat → Int32} {x : UInt64} {i : Int32} (hd : decode cc pc = .ok (.iaload, 1)) (hsc : sc = some (n, xs)) (hi : i = nI k) (hk : k < n) (hn : n < 2 ^ 31) (kk : Go sc own cc nL ret ini d (pc + 1) L (.int (xs k) :: st) h N bc bs Q) : Go sc own cc nL ret ini d pc L (.int i :: .double x :: st) h N bc bs Q := by
  intro l D cA b sb p e R s m args below meth c mc ms Qw X hE ls H locs cells slots hg hP hS hc hs
  subst hi
  have hk2 : (nI k).toNatClampNeg = k := nI_clamp (by omega)
  obtain ⟨⟨scr, h1, h2, h3, h4, h5⟩, hlt, -⟩ := X.2.2.2.2.2.2.2.2.2.2 n xs hsc
  exact W.iald (v := .int (xs k)) X.1 X.2.1 (by rw [hS.1 sb hlt]; exact h1) h2 h3 (by rw [h4]; exact vp_in_nI hk hn) (by rw [hk2]; exact h5 k hk) rfl rfl hd (kk l D cA b sb p e R s m args below meth c mc ms Qw X hE ls H locs cells slots hg hP hS hc hs)
theorem go_slen {n : Nat} {xs : Nat → Int32} {x : UInt64} (hd : decode cc pc = .ok (.arraylength, 1)) (hsc : sc = some (n, xs)) (kk : Go sc own cc nL ret ini d (pc + 1) L (.int (nI n) :: st) h N bc bs Q) : Go sc own cc nL ret ini d pc L (.double x :: st) h N bc bs Q := by
  intro l D cA b sb p e R s m args below meth c mc ms Qw X hE ls H locs cells slots hg hP hS hc hs
  obtain ⟨⟨scr, h1, h2, h3, h4, h5⟩, hlt, -⟩ := X.2.2.2.2.2.2.2.2.2.2 n xs hsc
  exact W.alen (n := Int32.ofNat n) X.1 X.2.1 (by rw [hS.1 sb hlt]; exact h1) h2 (by rw [h4] <;> rfl) rfl rfl hd (kk l D cA b sb p e R s m args below meth c mc ms Qw X hE ls H locs cells slots hg hP hS hc hs)
end GoHeap
end
section
/-! ===== calls ===== -/
theorem Option_map_toList {α β : Type} (f : α → β) (v : Option α) : (v.map f).toList = v.toList.map f := by cases v <;> rfl
theorem g_cat_le (b sb : Nat) (v : Value) : (gv b sb v).category ≤ v.category := by cases v <;> simp [gv, Value.category]
theorem g_cats (b sb : Nat) : ∀ st : List Value, ((st.map (gv b sb)).map fun v => v.category).sum ≤ (st.map fun v => v.category).sum
  | [] => Nat.le_refl _
  | v :: st => by
    have h1 := g_cats b sb st
    have h2 := g_cat_le b sb v
    simp only [List.map_cons, List.sum_cons]
    omega
/-- the locals with which a method begins -/
def gent : List Value → List (Option Value)
  | [] => []
  | .long x :: r => some (.long x) :: none :: gent r
  | v :: r => some v :: gent r
def gnd : List Value → Bool
  | [] => true
  | .double _ :: _ => false
  | _ :: r => gnd r
theorem gent_len (b sb : Nat) : ∀ As : List Value, gnd As = true → (lg_sl (As.map (gv b sb))).length = (gent As).length
  | [], _ => rfl
  | v :: r, h => by
    cases v <;> first | (simp [gnd] at h; done) | (simp only [gnd] at h; have ih := gent_len b sb r h; simp [lg_sl, gent, gv, Value.category] at ih ⊢; omega)
theorem gent_at (b sb : Nat) : ∀ (As : List Value), gnd As = true → ∀ (k i : Nat) (v : Value), (gent As)[i]? = some (some v) → (k + i, gv b sb v) ∈ lv_args k (As.map (gv b sb))
  | [], _, k, i, v, h => by simp [gent] at h
  | w :: r, hn, k, i, v, h => by
    have key : ∀ (x : Value), (∃ z, x = .long z) → ∀ (i : Nat) (v : Value), (some x :: none :: gent r)[i]? = some (some v) → gnd r = true → (k + i, gv b sb v) ∈ (k, gv b sb x) :: lv_args (k + 2) (r.map (gv b sb)) := by
      intro x _ i v h hr
      match i, h with
      | 0, h => simp at h; subst h; exact List.mem_cons_self
      | 1, h => simp at h
      | i + 2, h =>
        refine List.mem_cons_of_mem _ ?_
        have := gent_at b sb r hr (k + 2) i v (by simpa using h)
        rwa [show k + 2 + i = k + (i + 2) by omega] at this
    have key1 : ∀ (x : Value) (i : Nat) (v : Value), (some x :: gent r)[i]? = some (some v) → gnd r = true → (k + i, gv b sb v) ∈ (k, gv b sb x) :: lv_args (k + 1) (r.map (gv b sb)) := by
      intro x i v h hr
      match i, h with
      | 0, h => simp at h; subst h; exact List.mem_cons_self
      | i + 1, h =>
        refine List.mem_cons_of_mem _ ?_
        have := gent_at b sb r hr (k + 1) i v (by simpa using h)
        rwa [show k + 1 + i = k + (i + 1) by omega] at this
    cases w with
    | long x => exact key (.long x) ⟨x, rfl⟩ i v h hn
    | double x => simp [gnd] at hn
    | int x => exact key1 (.int x) i v h hn
    | float x => exact key1 (.float x) i v h hn
    | ref x => exact key1 (.ref x) i v h hn
    | null => exact key1 .null i v h hn
    | retAddr x => exact key1 (.retAddr x) i v h hn
/-- a method's contract out of its walk -/
theorem Run.of {d : Nat} {y : MethodName} {bytes : ByteArray} {maxL n : Nat} {ret : Option FieldType} {ini : Bool} {As : List Value} {h : gH} {N mc ms : Nat} {Q : Option Value → gH → Nat → Prop} {L : List (Option Value)} (hm : gMd y bytes maxL ret n) (hi : ini = true → y.name = "<init>") (hnd : gnd As = true) (hlen : (gent As).length ≤ maxL) (hL : gent As ++ List.replicate (maxL - (gent As).length) none = L)
    (hgo : Go none y.cls bytes maxL ret ini d 0 L [] h N mc ms Q) : Run d y bytes maxL ret As h N mc ms Q := by
  intro l D cA b sb
  refine Met.ofW (cc := bytes) (maxL := maxL) (ret := ret) hm.2.2.2.1 rfl ?_
  intro p e s m args below meth c s₁ B hml hv
  obtain ⟨rfl, hP, hK⟩ := hv
  have hts := atoms_spec (ws := Cond.code y bytes maxL ret :: gT) B.pre
  have hown : s.vm.findClass y.cls = some m.cls := findClass_of_methodNamed B.named
  have hlocks := B.notSynchronized
  have hnm : meth.name = y.name := (name_of_methodNamed B.named B.method).1
  have X : gX none D cA b sb y.cls bytes maxL ret ini d mc ms p (headSpec (Cond.code y bytes maxL ret :: gT) { frames := d, cells := mc, slots := ms, locals := 33 * d }).room s m (As.map (gv b sb)).toArray meth c :=
    ⟨B.exec, B.bytes, hml, B.returns, hlocks, fun h => hnm.trans (hi h), hown, fun w hw => hts w (List.mem_cons_of_mem _ hw), hK, ⟨Nat.le_refl _, Nat.le_refl _, Nat.le_refl _, Nat.le_refl _⟩, fun n xs h => by cases h⟩
  have hl0 := lv_entry (As.map (gv b sb)) (n := maxL) (by rw [gent_len b sb As hnd]; exact hlen)
  rw [lg_entry_eq]
  refine hgo l D cA b sb p e _ s m _ below meth c mc ms _ X ?_ _ s.heap [] 0 0 ?_ hP ⟨fun _ _ => rfl, fun _ h => by cases h⟩ (by omega) (by omega)
  · intro v pcr ls H locs h' N' cells slots hq hP' hS' hc hs hR
    refine W.widen hc hs ?_
    have fin : ∀ t : State, t.heap = H → s.WarmedH t.vm → gQc D cA b sb Q (As.map (gv b sb)).toArray s (.returned (v.map (gv b sb))) t := fun t ht _ => ⟨v, h', N', rfl, hq, by rw [ht]; exact hP', fun q hq => by rw [ht]; exact hS'.1 q hq⟩
    rcases hR with ⟨rfl, hr, hd⟩ | ⟨x, ty, rfl, hr, hn, hd⟩ | ⟨x, rfl, hr, hd⟩ | ⟨i, C, rfl, hr, hd⟩
    · exact W.vret B.exec B.bytes (B.returns.trans hr) fin hS'.2 hd hlocks
    · exact W.zret B.exec B.bytes (B.returns.trans hr) hn fin hS'.2 hd hlocks
    · exact W.lret B.exec B.bytes (B.returns.trans hr) fin hS'.2 hd hlocks
    · exact W.aret B.exec B.bytes (B.returns.trans hr) (Or.inl ⟨C, rfl⟩) (Or.inr ⟨b + i, rfl⟩) fin hS'.2 hd hlocks
  · refine ⟨hl0.1, hl0.2.1, fun i v hv => ?_⟩
    have hv2 : (gent As)[i]? = some (some v) := by
      rw [← hL] at hv
      by_cases hi2 : i < (gent As).length
      · rw [List.getElem?_append_left hi2] at hv; exact hv
      · rw [List.getElem?_append_right (by omega)] at hv
        have := List.eq_of_mem_replicate (List.mem_of_getElem? hv)
        cases this
    have := hl0.2.2 _ (gent_at b sb As hnd 0 i v hv2)
    simpa using this
theorem gT_all {s : State} {args : Array Value} {y : MethodName} {bytes : ByteArray} {maxL : Nat} {ret : Option FieldType} (hts : ∀ w ∈ gT, w.before args s = true) (hc : Cond.code y bytes maxL ret ∈ gT) : ∀ w ∈ (Cond.code y bytes maxL ret :: gT), ∀ (a' : Array Value) (U : State), s.WarmedH U.vm → w.before a' U = true := by
  intro w hw a' U hW
  have hw2 : w ∈ gT := by
    rcases List.mem_cons.mp hw with rfl | h
    · exact hc
    · exact h
  exact word_at hW (gT_good w hw2) (hts w hw2)
section GoCalls
variable {sc : Option (Nat × (Nat → Int32))} {own : String} {cc : ByteArray} {nL : Nat} {ret : Option FieldType} {ini : Bool} {d pc : Nat} {L : List (Option Value)} {st : List Value} {h : gH} {N bc bs : Nat} {Q : Option Value → gH → Nat → Prop}
variable {y : MethodName} {bytes : ByteArray} {maxL n idx : Nat} {ret' : Option FieldType} {As rest : List Value} {mc' ms' : Nat} {Q' : Option Value → gH → Nat → Prop}
/-- what is common to all calls -/
theorem go_call {free : Addr → Prop} (hrun : ∀ (l : Launch) (D : va_G) (cA : Nat → ClassId) (b sb : Nat) (p : Program) (e : Env) (R : Room) (s : State) (m : MethodId) (args : Array Value) (below : List Frame) (meth : Method) (c : Code) (mc ms : Nat) (ls : Array Slot) (H : Heap) (locs : List Loc) (cells slots : Nat), gX sc D cA b sb own cc nL ret ini (d + 1) mc ms p R s m args meth c → gL b sb nL L ls → gP D cA b sb h N H → cells + mc' ≤ R.cells → slots + ms' ≤ R.slots → ∃ a, va_Run p l e R s m args below meth c H locs cells slots mc' ms' (F0 m pc ls (st.map (gv b sb))) (rest.map (gv b sb)) (gQc D cA b sb Q' a) (fun q => b ≤ q))
    (hmc : mc' ≤ bc) (hms : ms' ≤ bs) (k : ∀ (v : Option Value) (h' : gH) (N' : Nat), Q' v h' N' → Go sc own cc nL ret ini (d + 1) (pc + 3) L (v.toList ++ rest) h' N' (bc - mc') (bs - ms') Q) : Go sc own cc nL ret ini (d + 1) pc L st h N bc bs Q := by
  intro l D cA b sb p e R s m args below meth c mc ms Qw X hE ls H locs cells slots hg hP hS hc hs
  have hR := X.2.2.2.2.2.2.2.2.2.1
  obtain ⟨a, run⟩ := hrun l D cA b sb p e R s m args below meth c mc ms ls H locs cells slots X hg hP (by have := hR.2.2.1; omega) (by have := hR.2.2.2; omega)
  intro T hT XS
  obtain ⟨v, st₀, t, T', Lc, h0, X', hL, e1, e2, ⟨v0, h', N', hv, hq, hP', hk⟩, stp⟩ := run T hT XS
  have hv : v = v0.map (gv b sb) := by cases hv; rfl
  subst hv
  rw [h0] at hk
  have W' := k v0 h' N' hq l D cA b sb p e R s m args below meth c mc ms Qw X hE ls t.heap (locs ++ Lc) (cells + mc') (slots + ms') hg hP' (hS.call hk hL) (by omega) (by omega)
  obtain ⟨t2, a1, b1⟩ := W' T' e1 X'
  refine ⟨t2, stp t2 ?_, b1⟩
  rw [Option_map_toList, ← List.map_append]
  exact a1
theorem go_iv {b0 ci : Nat} {fs : List Value} (hd : decode cc pc = .ok (.invokevirtual idx, 3)) (hm : gMd y bytes maxL ret' n) (hi : gIv own idx y) (hrun : Run d y bytes maxL ret' (.ref b0 :: As) h N mc' ms' Q') (hst : As.reverse ++ .ref b0 :: rest = st) (hn : As.length = n) (hb : b0 < N) (he : h b0 = .inr (ci, fs)) (hci : (vwCl[ci]?).map (fun q => q.1) = some y.cls) (hw : (rest.map fun v => v.category).sum ≤ 8) (hmc : mc' ≤ bc) (hms : ms' ≤ bs)
    (k : ∀ (v : Option Value) (h' : gH) (N' : Nat), Q' v h' N' → Go sc own cc nL ret ini (d + 1) (pc + 3) L (v.toList ++ rest) h' N' (bc - mc') (bs - ms') Q) : Go sc own cc nL ret ini (d + 1) pc L st h N bc bs Q := by
  refine go_call (free := fun _ => True) (mc' := mc') (ms' := ms') (rest := rest) (Q' := Q') ?_ hmc hms k
  intro l D cA b sb p e R s m args below meth c mc ms ls H locs cells slots X hg hP h1 h2
  obtain ⟨hx, hb1, hml, hr, hlk, hini, hown, hts, hK, hR, -⟩ := id X
  have hR1 := hR.1
  have hR2 := hR.2.1
  have hm5 := hm.2.2.2.2
  subst hst
  refine ⟨_, va_runV (As := As.map (gv b sb)) (b := b + b0) (C := y.cls) (Ts := gT) (n := n) ⟨hx, hb1, hml, hown, hts⟩ (hrun l D cA b sb) ⟨⟨rfl, rfl, hR1, (by show 8 + (maxL + 11) + 33 * d ≤ R.locals; omega), gT_all hts hm.1, List.mem_cons_self, hts _ hm.1, hts _ hm.2.1, ⟨hm.2.2.1.1, hm.2.2.1.2.1⟩, (fun sig hsig => ?_), hts _ hi.1⟩, hts _ hi.2.1, hts _ hi.2.2⟩ ⟨gPc.blind _ _ _ _ _ _ _, ?_, fun U hU hW => ⟨rfl, by rw [hU]; exact hP, hK.warm hW⟩⟩ rfl (by rw [List.length_map]; exact hn) hg.1 (by simp [gv]) ?_ hd ⟨h1, h2⟩⟩
  · have h3 := hm.2.2.1.2.2
    rw [hsig] at h3
    exact (Option.some.inj h3).symm
  · obtain ⟨r, hr1, cell, g1, g2, g3, -⟩ := hP.at hb he
    refine ⟨cell, g1, by rw [g3]; rfl, ?_⟩
    rw [g2]
    rw [hr1] at hci
    have : r.1 = y.cls := Option.some.inj hci
    rw [← this]
    exact (hK.1 ci r hr1).2.1
  · refine lv_room ?_
    exact Nat.le_trans (g_cats b sb rest) hw
theorem go_is (hd : decode cc pc = .ok (.invokestatic idx, 3)) (hm : gMd y bytes maxL ret' n) (hi : gIs own idx y) (hrun : Run d y bytes maxL ret' As h N mc' ms' Q') (hst : As.reverse ++ rest = st) (hn : As.length = n) (hw : (rest.map fun v => v.category).sum ≤ 8) (hmc : mc' ≤ bc) (hms : ms' ≤ bs)
    (k : ∀ (v : Option Value) (h' : gH) (N' : Nat), Q' v h' N' → Go sc own cc nL ret ini (d + 1) (pc + 3) L (v.toList ++ rest) h' N' (bc - mc') (bs - ms') Q) : Go sc own cc nL ret ini (d + 1) pc L st h N bc bs Q := by
  refine go_call (free := fun _ => True) (mc' := mc') (ms' := ms') (rest := rest) (Q' := Q') ?_ hmc hms k
  intro l D cA b sb p e R s m args below meth c mc ms ls H locs cells slots X hg hP h1 h2
  obtain ⟨hx, hb1, hml, hr, hlk, hini, hown, hts, hK, hR, -⟩ := id X
  have hR1 := hR.1
  have hR2 := hR.2.1
  have hm5 := hm.2.2.2.2
  subst hst
  refine ⟨_, va_runS (As := As.map (gv b sb)) (Ts := gT) (n := n) ⟨hx, hb1, hml, hown, hts⟩ (hrun l D cA b sb) ⟨⟨rfl, rfl, hR1, (by show 8 + (maxL + 11) + 33 * d ≤ R.locals; omega), gT_all hts hm.1, List.mem_cons_self, hts _ hm.1, hts _ hm.2.1, ⟨hm.2.2.1.1, hm.2.2.1.2.1⟩, (fun sig hsig => ?_), hts _ hi.1⟩, hts _ hi.2⟩ ⟨gPc.blind _ _ _ _ _ _ _, fun U hU hW => ⟨rfl, by rw [hU]; exact hP, hK.warm hW⟩⟩ rfl (by rw [List.length_map]; exact hn) hg.1 (by simp) ?_ hd ⟨h1, h2⟩⟩
  · have h3 := hm.2.2.1.2.2
    rw [hsig] at h3
    exact (Option.some.inj h3).symm
  · exact lv_room (Nat.le_trans (g_cats b sb rest) hw)
theorem go_isN (hd : decode cc pc = .ok (.invokestatic idx, 3)) (hm : gMd y bytes maxL ret' n) (hi : gIsN own idx y) (hrun : Run d y bytes maxL ret' As h N mc' ms' Q') (hst : As.reverse ++ rest = st) (hn : As.length = n) (hw : (rest.map fun v => v.category).sum ≤ 8) (hmc : mc' ≤ bc) (hms : ms' ≤ bs)
    (k : ∀ (v : Option Value) (h' : gH) (N' : Nat), Q' v h' N' → Go sc own cc nL ret ini (d + 1) (pc + 3) L (v.toList ++ rest) h' N' (bc - mc') (bs - ms') Q) : Go sc own cc nL ret ini (d + 1) pc L st h N bc bs Q := by
  refine go_call (free := fun _ => True) (mc' := mc') (ms' := ms') (rest := rest) (Q' := Q') ?_ hmc hms k
  intro l D cA b sb p e R s m args below meth c mc ms ls H locs cells slots X hg hP h1 h2
  obtain ⟨hx, hb1, hml, hr, hlk, hini, hown, hts, hK, hR, -⟩ := id X
  have hR1 := hR.1
  have hR2 := hR.2.1
  have hm5 := hm.2.2.2.2
  obtain ⟨⟨host, hho⟩, hsta⟩ := hi
  subst hst
  refine ⟨_, va_runSN (As := As.map (gv b sb)) (Ts := gT) (n := n) (host := host) ⟨hx, hb1, hml, hown, hts⟩ (hrun l D cA b sb) ⟨⟨⟨rfl, rfl, hR1, (by show 8 + (maxL + 11) + 33 * d ≤ R.locals; omega), gT_all hts hm.1, List.mem_cons_self⟩, hts _ hm.1, hts _ hm.2.1, ⟨hm.2.2.1.1, hm.2.2.1.2.1⟩, (fun sig hsig => ?_), va_Nw.use rfl (hK.2.2.1 _ hho)⟩, hts _ hsta, trivial⟩ ⟨gPc.blind _ _ _ _ _ _ _, fun U hU hW => ⟨rfl, by rw [hU]; exact hP, hK.warm hW⟩⟩ rfl (by rw [List.length_map]; exact hn) hg.1 (by simp) ?_ hd ⟨h1, h2⟩⟩
  · have h3 := hm.2.2.1.2.2
    rw [hsig] at h3
    exact (Option.some.inj h3).symm
  · exact lv_room (Nat.le_trans (g_cats b sb rest) hw)
theorem go_ii {b0 : Nat} (hd : decode cc pc = .ok (.invokespecial idx, 3)) (hm : gMd y bytes maxL none n) (hi : gIi own idx y) (hrun : Run d y bytes maxL none (.ref b0 :: As) h N mc' ms' Q') (hst : As.reverse ++ .ref b0 :: rest = st) (hn : As.length = n) (hw : (rest.map fun v => v.category).sum ≤ 8) (hmc : mc' ≤ bc) (hms : ms' ≤ bs)
    (k : ∀ (v : Option Value) (h' : gH) (N' : Nat), Q' v h' N' → Go sc own cc nL ret ini (d + 1) (pc + 3) L (v.toList ++ rest) h' N' (bc - mc') (bs - ms') Q) : Go sc own cc nL ret ini (d + 1) pc L st h N bc bs Q := by
  refine go_call (free := fun _ => True) (mc' := mc') (ms' := ms') (rest := rest) (Q' := Q') ?_ hmc hms k
  intro l D cA b sb p e R s m args below meth c mc ms ls H locs cells slots X hg hP h1 h2
  obtain ⟨hx, hb1, hml, hr, hlk, hini, hown, hts, hK, hR, -⟩ := id X
  have hR1 := hR.1
  have hR2 := hR.2.1
  have hm5 := hm.2.2.2.2
  subst hst
  refine ⟨_, va_runI (As := As.map (gv b sb)) (b := b + b0) (Ts := gT) (n := n) ⟨hx, hb1, hml, hown, hts⟩ (hrun l D cA b sb) ⟨⟨rfl, rfl, hR1, (by show 8 + (maxL + 11) + 33 * d ≤ R.locals; omega), gT_all hts hm.1, List.mem_cons_self, hts _ hm.1, hts _ hm.2.1, ⟨hm.2.2.1.1, hm.2.2.1.2.1⟩, (fun sig hsig => ?_), hts _ hi.1⟩, hi.2.2, hts _ hi.2.1⟩ ⟨gPc.blind _ _ _ _ _ _ _, fun U hU hW => ⟨rfl, by rw [hU]; exact hP, hK.warm hW⟩⟩ rfl (by rw [List.length_map]; exact hn) hg.1 (by simp [gv]) ?_ hd ⟨h1, h2⟩⟩
  · have h3 := hm.2.2.1.2.2
    rw [hsig] at h3
    exact (Option.some.inj h3).symm
  · exact lv_room (Nat.le_trans (g_cats b sb rest) hw)
theorem go_iiN {b0 : Nat} (hd : decode cc pc = .ok (.invokespecial idx, 3)) (hm : gMd y bytes maxL none n) (hi : gIiN own idx y) (hrun : Run d y bytes maxL none (.ref b0 :: As) h N mc' ms' Q') (hst : As.reverse ++ .ref b0 :: rest = st) (hn : As.length = n) (hw : (rest.map fun v => v.category).sum ≤ 8) (hmc : mc' ≤ bc) (hms : ms' ≤ bs)
    (k : ∀ (v : Option Value) (h' : gH) (N' : Nat), Q' v h' N' → Go sc own cc nL ret ini (d + 1) (pc + 3) L (v.toList ++ rest) h' N' (bc - mc') (bs - ms') Q) : Go sc own cc nL ret ini (d + 1) pc L st h N bc bs Q := by
  refine go_call (free := fun _ => True) (mc' := mc') (ms' := ms') (rest := rest) (Q' := Q') ?_ hmc hms k
  intro l D cA b sb p e R s m args below meth c mc ms ls H locs cells slots X hg hP h1 h2
  obtain ⟨hx, hb1, hml, hr, hlk, hini, hown, hts, hK, hR, -⟩ := id X
  have hR1 := hR.1
  have hR2 := hR.2.1
  have hm5 := hm.2.2.2.2
  obtain ⟨⟨host, hho⟩, hins, hy1⟩ := hi
  subst hst
  refine ⟨_, va_runIN (As := As.map (gv b sb)) (b := b + b0) (Ts := gT) (n := n) (host := host) ⟨hx, hb1, hml, hown, hts⟩ (hrun l D cA b sb) ⟨⟨⟨rfl, rfl, hR1, (by show 8 + (maxL + 11) + 33 * d ≤ R.locals; omega), gT_all hts hm.1, List.mem_cons_self⟩, hts _ hm.1, hts _ hm.2.1, ⟨hm.2.2.1.1, hm.2.2.1.2.1⟩, (fun sig hsig => ?_), va_Nw.use rfl (hK.2.2.1 _ hho)⟩, hy1, hts _ hins⟩ ⟨gPc.blind _ _ _ _ _ _ _, fun U hU hW => ⟨rfl, by rw [hU]; exact hP, hK.warm hW⟩⟩ rfl (by rw [List.length_map]; exact hn) hg.1 (by simp [gv]) ?_ hd ⟨h1, h2⟩⟩
  · have h3 := hm.2.2.1.2.2
    rw [hsig] at h3
    exact (Option.some.inj h3).symm
  · exact lv_room (Nat.le_trans (g_cats b sb rest) hw)
/-- Object's constructor -/
theorem go_obj {b0 : Nat} (hd : decode cc pc = .ok (.invokespecial idx, 3)) (hw1 : Cond.methodLink own idx objectInit ∈ gT) (hw : (st.map fun v => v.category).sum ≤ 8) (k : Go sc own cc nL ret ini (d + 1) (pc + 3) L st h N bc bs Q) : Go sc own cc nL ret ini (d + 1) pc L (.ref b0 :: st) h N bc bs Q := by
  intro l D cA b sb p e R s m args below meth c mc ms Qw X hE ls H locs cells slots hg hP hS hc hs
  obtain ⟨hx, hb1, hml, hr, hlk, hini, hown, hts, hK, hR, -⟩ := id X
  refine W.objInit hx hb1 hown (hts _ hw1) (hts _ o_inst) (hts _ o_code) rfl (hg.1.trans hml.symm) rfl hd (by have := hR.1; omega) ?_ (k l D cA b sb p e R s m args below meth c mc ms Qw X hE ls H locs cells slots hg hP hS hc hs)
  show 2 * 0 + _ + 12 ≤ _
  have h1 := g_cats b sb st
  have h2 := hR.2.1
  omega
theorem go_max {x y' : Int32} (hd : decode cc pc = .ok (.invokestatic idx, 3)) (hi : gIs own idx yJ9_max_7cf53) (hw : (st.map fun v => v.category).sum ≤ 8) (k : Go sc own cc nL ret ini (d + 1) (pc + 3) L (.int (if x < y' then y' else x) :: st) h N bc bs Q) : Go sc own cc nL ret ini (d + 1) pc L (.int y' :: .int x :: st) h N bc bs Q := by
  intro l D cA b sb p e R s m args below meth c mc ms Qw X hE ls H locs cells slots hg hP hS hc hs
  obtain ⟨hx, hb1, hml, hr, hlk, hini, hown, hts, hK, hR, -⟩ := id X
  have hR1 := hR.1
  have hR2 := hR.2.1
  have hR3 := hR.2.2.1
  have hR4 := hR.2.2.2
  refine va_mmax hx hb1 (hml.trans hg.1.symm) hown (hts _ hi.1) (hts _ hi.2) (hts _ in_J9) (hts _ x_max) (by omega) ?_ (by omega) (by omega) hd (k l D cA b sb p e R s m args below meth c mc ms Qw X hE ls H locs cells slots hg hP hS hc hs)
  have h1 := g_cats b sb st
  omega
theorem go_min {x y' : Int32} (hd : decode cc pc = .ok (.invokestatic idx, 3)) (hi : gIs own idx yJ9_min_7cf53) (hw : (st.map fun v => v.category).sum ≤ 8) (k : Go sc own cc nL ret ini (d + 1) (pc + 3) L (.int (if y' < x then y' else x) :: st) h N bc bs Q) : Go sc own cc nL ret ini (d + 1) pc L (.int y' :: .int x :: st) h N bc bs Q := by
  intro l D cA b sb p e R s m args below meth c mc ms Qw X hE ls H locs cells slots hg hP hS hc hs
  obtain ⟨hx, hb1, hml, hr, hlk, hini, hown, hts, hK, hR, -⟩ := id X
  have hR1 := hR.1
  have hR2 := hR.2.1
  have hR3 := hR.2.2.1
  have hR4 := hR.2.2.2
  refine va_mmin hx hb1 (hml.trans hg.1.symm) hown (hts _ hi.1) (hts _ hi.2) (hts _ in_J9) (hts _ x_min) (by omega) ?_ (by omega) (by omega) hd (k l D cA b sb p e R s m args below meth c mc ms Qw X hE ls H locs cells slots hg hP hS hc hs)
  have h1 := g_cats b sb st
  omega
end GoCalls
end
section
/-! ===== new cells, copies of arrays ===== -/
/-- a grid: an array of arrays, all new -/
def hgrid (h : gH) (N n kd : Nat) (x : gC) : gH := fun j => if j = N then .inl (kd, n, .inr (.inr (.inr (.inr (fun i => if i < n then some (N + 1 + i) else none))))) else if N < j ∧ j < N + 1 + n then x else h j
theorem gr_outer (c : ClassId) (N h0 : Nat) : ∀ i : Nat, Jvm.Free.Multi.outerC c N h0 i = arrV c N (fun j => va_rf (if j < i then some (h0 + 1 + j) else none))
  | 0 => by
    show ({ cls := c, slots := Array.replicate N .null, vm := .none } : Cell) = _
    rw [arrV_new]
    refine congrArg (arrV c N) (funext fun j => ?_)
    simp [va_rf]
  | i + 1 => by
    show (Jvm.Free.Multi.outerC c N h0 i).setSlot i (.ref (h0 + 1 + i)) = _
    rw [gr_outer c N h0 i, arrV_store]
    refine congrArg (arrV c N) (funext fun j => ?_)
    by_cases e : j = i
    · subst e
      simp [updV, va_rf]
    · by_cases h : j < i
      · simp [updV, e, h, Nat.lt_succ_of_lt h]
      · simp [updV, e, h, show ¬ j < i + 1 by omega]
section GoNew
variable {sc : Option (Nat × (Nat → Int32))} {own : String} {cc : ByteArray} {nL : Nat} {ret : Option FieldType} {ini : Bool} {d pc : Nat} {L : List (Option Value)} {st : List Value} {h : gH} {N bc bs : Nat} {Q : Option Value → gH → Nat → Prop}
theorem go_new {idx ci n : Nat} {C : String} {T : u_T} {fs : List Value} (hd : decode cc pc = .ok (.new idx, 3)) (hcl : Cond.classLink own idx C ∈ gT) (hc : vwCl[ci]? = some (C, T, n)) (hin : Cond.instantiable C n ∈ gT) (hini : Cond.initialized C ∈ gT) (hfs : ∀ j, j < n → defaultValue (gty ci j) = vp_V fs j) (hg0 : ∀ b sb, fs.map (gv b sb) = fs) (h1 : 1 ≤ bc) (h2 : n ≤ bs) (k : Go sc own cc nL ret ini d (pc + 3) L (.ref N :: st) (hset h N (.inr (ci, fs))) (N + 1) (bc - 1) (bs - n) Q) : Go sc own cc nL ret ini d pc L st h N bc bs Q := by
  intro l D cA b sb p e R s m args below meth c mc ms Qw X hE ls H locs cells slots hg hP hS hcc hs
  obtain ⟨hx, hb1, hml, hr, hlk, hini2, hown, hts, hK, hR, -⟩ := id X
  have hR3 := hR.2.2.1
  have hR4 := hR.2.2.2
  obtain ⟨hin1, hty, -⟩ := gcl_ok hc
  have hKn := hK.1 ci _ hc
  refine W.newcK hx hb1 hown (hts _ hcl) (hts _ hin) (hts _ hini) rfl hd (by omega) (by omega) hKn.2.1 rfl fun H1 kC hkC e1 z1 o1 => ?_
  have hat : va_at D vwCl (b + N, ge b sb cA (.inr (ci, fs))) H1 := by
    refine ⟨_, hc, ?_⟩
    show t_OB (b + N) _ _ _ H1 (vp_V (fs.map (gv b sb)))
    rw [hg0, ← hP.1]
    exact (u_born (gty ci) hts hin1 hKn hkC e1 hty).to hfs
  have W' := k l D cA b sb p e R s m args below meth c mc ms Qw X hE ls H1 locs (cells + 1) (slots + n) hg (hP.push z1 o1 hat) ⟨fun q hq => (o1 q (by rw [hP.1]; omega)).trans (hS.1 q hq), hS.2⟩ (by omega) (by omega)
  rw [hP.1]
  exact W'
theorem go_newI {n : Nat} {i : Int32} (hd : decode cc pc = .ok (.newarray .int, 2)) (hi : i = nI n) (hn : n < 10000) (h1 : 1 ≤ bc) (h2 : n ≤ bs) (k : Go sc own cc nL ret ini d (pc + 2) L (.ref N :: st) (hset h N (.inl (0, n, .inl (fun _ => 0)))) (N + 1) (bc - 1) (bs - n) Q) : Go sc own cc nL ret ini d pc L (.int i :: st) h N bc bs Q := by
  intro l D cA b sb p e R s m args below meth c mc ms Qw X hE ls H locs cells slots hg hP hS hcc hs
  obtain ⟨hx, hb1, hml, hr, hlk, hini2, hown, hts, hK, hR, -⟩ := id X
  have hR3 := hR.2.2.1
  have hR4 := hR.2.2.2
  subst hi
  refine va_newaK (atype := .int) hx hb1 (hts _ ac_int) rfl hd rfl (nI_pos (by omega)) (nI_clamp (by omega)) (by show n * 4 ≤ _; omega) (by omega) (by omega) rfl fun H1 cA' e1 z1 o1 hAr hNm => ?_
  have hc0 : cA' = cA 0 := by
    have := (hK.2.1 0 (by decide)).2
    exact Option.some.inj (hNm.symm.trans this)
  subst hc0
  have hat : va_at D vwCl (b + N, ge b sb cA (.inl (0, n, .inl (fun _ => 0)))) H1 := by
    show H1[b + N]? = some (vp_cell (cA 0) (n, .inl (fun _ => 0)))
    rw [← hP.1]
    exact e1
  have W' := k l D cA b sb p e R s m args below meth c mc ms Qw X hE ls H1 locs (cells + 1) (slots + n) hg (hP.push z1 o1 hat) ⟨fun q hq => (o1 q (by rw [hP.1]; omega)).trans (hS.1 q hq), hS.2⟩ (by omega) (by omega)
  rw [hP.1]
  exact W'
theorem go_newJ {n : Nat} {i : Int32} (hd : decode cc pc = .ok (.newarray .long, 2)) (hi : i = nI n) (hn : n < 10000) (h1 : 1 ≤ bc) (h2 : n ≤ bs) (k : Go sc own cc nL ret ini d (pc + 2) L (.ref N :: st) (hset h N (.inl (1, n, .inr (.inl (fun _ => 0))))) (N + 1) (bc - 1) (bs - n) Q) : Go sc own cc nL ret ini d pc L (.int i :: st) h N bc bs Q := by
  intro l D cA b sb p e R s m args below meth c mc ms Qw X hE ls H locs cells slots hg hP hS hcc hs
  obtain ⟨hx, hb1, hml, hr, hlk, hini2, hown, hts, hK, hR, -⟩ := id X
  have hR3 := hR.2.2.1
  have hR4 := hR.2.2.2
  subst hi
  refine va_newaK (atype := .long) hx hb1 (hts _ ac_long) rfl hd rfl (nI_pos (by omega)) (nI_clamp (by omega)) (by show n * 8 ≤ _; omega) (by omega) (by omega) rfl fun H1 cA' e1 z1 o1 hAr hNm => ?_
  have hc0 : cA' = cA 1 := by
    have := (hK.2.1 1 (by decide)).2
    exact Option.some.inj (hNm.symm.trans this)
  subst hc0
  have hat : va_at D vwCl (b + N, ge b sb cA (.inl (1, n, .inr (.inl (fun _ => 0))))) H1 := by
    show H1[b + N]? = some (vp_cell (cA 1) (n, .inr (.inl (fun _ => 0))))
    rw [← hP.1]
    exact e1
  have W' := k l D cA b sb p e R s m args below meth c mc ms Qw X hE ls H1 locs (cells + 1) (slots + n) hg (hP.push z1 o1 hat) ⟨fun q hq => (o1 q (by rw [hP.1]; omega)).trans (hS.1 q hq), hS.2⟩ (by omega) (by omega)
  rw [hP.1]
  exact W'
theorem go_newZ {n : Nat} {i : Int32} (hd : decode cc pc = .ok (.newarray .boolean, 2)) (hi : i = nI n) (hn : n < 10000) (h1 : 1 ≤ bc) (h2 : n ≤ bs) (k : Go sc own cc nL ret ini d (pc + 2) L (.ref N :: st) (hset h N (.inl (2, n, .inl (fun _ => 0)))) (N + 1) (bc - 1) (bs - n) Q) : Go sc own cc nL ret ini d pc L (.int i :: st) h N bc bs Q := by
  intro l D cA b sb p e R s m args below meth c mc ms Qw X hE ls H locs cells slots hg hP hS hcc hs
  obtain ⟨hx, hb1, hml, hr, hlk, hini2, hown, hts, hK, hR, -⟩ := id X
  have hR3 := hR.2.2.1
  have hR4 := hR.2.2.2
  subst hi
  refine va_newaK (atype := .boolean) hx hb1 (hts _ ac_boolean) rfl hd rfl (nI_pos (by omega)) (nI_clamp (by omega)) (by show n * 1 ≤ _; omega) (by omega) (by omega) rfl fun H1 cA' e1 z1 o1 hAr hNm => ?_
  have hc0 : cA' = cA 2 := by
    have := (hK.2.1 2 (by decide)).2
    exact Option.some.inj (hNm.symm.trans this)
  subst hc0
  have hat : va_at D vwCl (b + N, ge b sb cA (.inl (2, n, .inl (fun _ => 0)))) H1 := by
    show H1[b + N]? = some (vp_cell (cA 2) (n, .inl (fun _ => 0)))
    rw [← hP.1]
    exact e1
  have W' := k l D cA b sb p e R s m args below meth c mc ms Qw X hE ls H1 locs (cells + 1) (slots + n) hg (hP.push z1 o1 hat) ⟨fun q hq => (o1 q (by rw [hP.1]; omega)).trans (hS.1 q hq), hS.2⟩ (by omega) (by omega)
  rw [hP.1]
  exact W'
/-- an array of objects: kind 3 of Charts, kind 4 of Partings -/
theorem go_newQ {idx n kd : Nat} {C : String} {i : Int32} (hd : decode cc pc = .ok (.anewarray idx, 3)) (hcl : Cond.classLink own idx C ∈ gT) (hkd : (kd = 3 ∧ C = RX0) ∨ (kd = 4 ∧ C = RX5)) (hi : i = nI n) (hn : n < 10000) (h1 : 1 ≤ bc) (h2 : n ≤ bs) (k : Go sc own cc nL ret ini d (pc + 3) L (.ref N :: st) (hset h N (.inl (kd, n, .inr (.inr (.inr (.inr (fun _ => none))))))) (N + 1) (bc - 1) (bs - n) Q) : Go sc own cc nL ret ini d pc L (.int i :: st) h N bc bs Q := by
  intro l D cA b sb p e R s m args below meth c mc ms Qw X hE ls H locs cells slots hg hP hS hcc hs
  obtain ⟨hx, hb1, hml, hr, hlk, hini2, hown, hts, hK, hR, -⟩ := id X
  have hR3 := hR.2.2.1
  have hR4 := hR.2.2.2
  subst hi
  have hcl2 : (nI n).toNatClampNeg = n := nI_clamp (by omega)
  have hover : va_AO C s := by
    rcases hkd with ⟨-, rfl⟩ | ⟨-, rfl⟩
    · exact hK.2.2.2.1.1
    · exact hK.2.2.2.1.2
  have hgA : gA kd = .object C ∧ kd < 7 := by
    rcases hkd with ⟨rfl, rfl⟩ | ⟨rfl, rfl⟩
    · exact ⟨rfl, by decide⟩
    · exact ⟨rfl, by decide⟩
  refine W.anew hx hb1 hown (hts _ hcl) (va_AO.use hover) rfl hd rfl (nI_pos (by omega)) (by rw [hcl2]; omega) (by omega) (by rw [hcl2]; omega) fun cA' kA comp f1 f2 f3 f4 => ?_
  have hc0 : cA' = cA kd := by
    have hh := (hK.2.1 kd hgA.2).2
    rw [hgA.1] at hh
    obtain ⟨_, _, -, -, -, hh⟩ := hh
    exact Option.some.inj (f1.symm.trans hh)
  subst hc0
  rw [hcl2]
  generalize hH1 : H.push ({ cls := cA kd, slots := Array.replicate n .null, vm := .none } : Cell) = H1
  have z1 : H1.size = H.size + 1 := by rw [← hH1, Array.size_push]
  have e1 : H1[H.size]? = some (arrV (cA kd) n (fun _ => .null)) := by rw [← hH1, Array.getElem?_push_size, ← arrV_new]
  have o1 : ∀ q : Nat, q < H.size → H1[q]? = H[q]? := fun q hq => by rw [← hH1, Array.getElem?_push, if_neg (Nat.ne_of_lt hq)]
  have hat : va_at D vwCl (b + N, ge b sb cA (.inl (kd, n, .inr (.inr (.inr (.inr (fun _ => none))))))) H1 := by
    show H1[b + N]? = some (vp_cell (cA kd) (n, .inr (.inr (.inr (.inr (fun _ => none))))))
    rw [← hP.1]
    exact e1
  have W' := k l D cA b sb p e R s m args below meth c mc ms Qw X hE ls H1 locs (cells + 1) (slots + n) hg (hP.push z1 o1 hat) ⟨fun q hq => (o1 q (by rw [hP.1]; omega)).trans (hS.1 q hq), hS.2⟩ (by omega) (by omega)
  rw [hP.1]
  exact W'
/-- new T[n][w] -/
theorem go_mna {idx n w kd ki : Nat} {ty : FieldType} {z : vp_A} {i j : Int32} (hd : decode cc pc = .ok (.multianewarray idx 2, 4)) (hcl : Cond.classLink own idx ("[" ++ (FieldType.array ty).toString) ∈ gT) (hac : Cond.arrayClass ty ∈ gT) (hkd : (kd = 5 ∧ ki = 0 ∧ ty = .int ∧ z = (w, .inl (fun _ => 0))) ∨ (kd = 6 ∧ ki = 1 ∧ ty = .long ∧ z = (w, .inr (.inl (fun _ => 0))))) (hi : i = nI n) (hj : j = nI w) (hn : n < 10000) (hw : w < 10000) (h1 : 1 + n ≤ bc) (h2 : n + n * w ≤ bs) (k : Go sc own cc nL ret ini d (pc + 4) L (.ref N :: st) (hgrid h N n kd (.inl (ki, z))) (N + 1 + n) (bc - (1 + n)) (bs - (n + n * w)) Q) : Go sc own cc nL ret ini d pc L (.int j :: .int i :: st) h N bc bs Q := by
  intro l D cA b sb p e R s m args below meth c mc ms Qw X hE ls H locs cells slots hg hP hS hcc hs
  obtain ⟨hx, hb1, hml, hr, hlk, hini2, hown, hts, hK, hR, -⟩ := id X
  have hR3 := hR.2.2.1
  have hR4 := hR.2.2.2
  subst hi
  subst hj
  have hc1 : (nI n).toNatClampNeg = n := nI_clamp (by omega)
  have hc2 : (nI w).toNatClampNeg = w := nI_clamp (by omega)
  have hgA : gA kd = .array ty ∧ gA ki = ty ∧ kd < 7 ∧ ki < 2 := by
    rcases hkd with ⟨rfl, rfl, rfl, -⟩ | ⟨rfl, rfl, rfl, -⟩
    · exact ⟨rfl, rfl, by decide, by decide⟩
    · exact ⟨rfl, rfl, by decide, by decide⟩
  have hover : gAA ty s := by
    rcases hkd with ⟨-, -, rfl, -⟩ | ⟨-, -, rfl, -⟩
    · exact hK.2.2.2.2.1
    · exact hK.2.2.2.2.2
  have hcomp : w * componentBytes ty ≤ 536870912 := by
    rcases hkd with ⟨-, -, rfl, -⟩ | ⟨-, -, rfl, -⟩
    · show w * 4 ≤ _; omega
    · show w * 8 ≤ _; omega
  have hdf : fits ty (defaultValue ty) = true ∧ (defaultValue ty).isDefault = true := by
    rcases hkd with ⟨-, -, rfl, -⟩ | ⟨-, -, rfl, -⟩
    · exact ⟨by decide, by decide⟩
    · exact ⟨by decide, by decide⟩
  have hz : ∀ c0 : ClassId, Jvm.Free.Multi.innerC c0 w (defaultValue ty) = vp_cell c0 (ga b z) := by
    intro c0
    rcases hkd with ⟨-, -, rfl, rfl⟩ | ⟨-, -, rfl, rfl⟩
    · exact arrV_new c0 w (.int 0)
    · exact arrV_new c0 w (.long 0)
  intro T hT Xs
  obtain ⟨vm₁, cA', comp, -, fA, fC, -, -, X', step⟩ := Xs.multianewarray2F hx hown (hts _ hcl) hover (hts _ hac) (g := F0 m pc ls (.int (nI w) :: .int (nI n) :: st.map (gv b sb))) rfl (by rw [hb1]; exact hd) rfl (nI_pos (by omega)) (nI_pos (by omega)) (by rw [hc1]; omega) (by rw [hc2]; exact hcomp) (by rw [hc2]; omega) hdf.1 hdf.2 (by rw [hc1]; omega) (by rw [hc1, hc2]; omega)
  rw [hc1, hc2] at X' step
  have e1 : cA' = cA kd := by
    have hh := (hK.2.1 kd hgA.2.2.1).2
    rw [hgA.1] at hh
    exact Option.some.inj (fA.symm.trans hh)
  have e2 : comp = cA ki := by
    have hh := (hK.2.1 ki (by omega)).2
    rw [hgA.2.1] at hh
    rcases hkd with ⟨-, -, rfl, -⟩ | ⟨-, -, rfl, -⟩
    · exact Option.some.inj (fC.symm.trans hh)
    · exact Option.some.inj (fC.symm.trans hh)
  subst e1
  subst e2
  generalize hF : Jvm.Free.Multi.fill (T.setVm vm₁) (cA kd) (cA ki) n w (defaultValue ty) n = F at X' step
  have hTh : (T.setVm vm₁).heap = H := hT
  obtain ⟨f1, f2, -, -⟩ := Jvm.Free.Multi.fill_facts (T.setVm vm₁) (cA kd) (cA ki) n w (defaultValue ty) n
  rw [hF, hTh] at f1 f2
  have hold : ∀ x : Nat, x < H.size → F.heap[x]? = H[x]? := fun x hx => by
    have := Jvm.Free.Multi.fill_old (T.setVm vm₁) (cA kd) (cA ki) n w (defaultValue ty) (a := x) (by rw [hTh]; exact hx) n
    rw [hF, hTh] at this
    exact this
  have hrow : ∀ j : Nat, j < n → F.heap[H.size + 1 + j]? = some (vp_cell (cA ki) (ga b z)) := fun j hj => by
    have := Jvm.Free.Multi.fill_inner (T.setVm vm₁) (cA kd) (cA ki) n w (defaultValue ty) n j hj
    rw [hF, hTh, hz] at this
    exact this
  rw [gr_outer] at f2
  have hP2 : gP D cA b sb (hgrid h N n kd (.inl (ki, z))) (N + 1 + n) F.heap := by
    refine ⟨by rw [f1, hP.1]; omega, fun j hj => ?_⟩
    by_cases q1 : j = N
    · have e0 : hgrid h N n kd (.inl (ki, z)) j = .inl (kd, n, .inr (.inr (.inr (.inr (fun i => if i < n then some (N + 1 + i) else none))))) := by unfold hgrid; rw [if_pos q1]
      rw [e0, q1]
      show F.heap[b + N]? = some (vp_cell (cA kd) (n, .inr (.inr (.inr (.inr (fun i => (if i < n then some (N + 1 + i) else none).map (fun i => b + i)))))))
      rw [← hP.1, f2, vp_cell_q]
      congr 2
      funext i
      by_cases hi : i < n
      · simp only [hi, if_true, Option.map_some]
        rw [hP.1, show b + N + 1 + i = b + (N + 1 + i) by omega]
      · simp only [hi, if_false, Option.map_none]
    · by_cases q2 : N < j ∧ j < N + 1 + n
      · have e0 : hgrid h N n kd (.inl (ki, z)) j = .inl (ki, z) := by unfold hgrid; rw [if_neg q1, if_pos q2]
        rw [e0]
        show F.heap[b + j]? = some (vp_cell (cA ki) (ga b z))
        have := hrow (j - N - 1) (by omega)
        rwa [hP.1, show b + N + 1 + (j - N - 1) = b + j by omega] at this
      · have e0 : hgrid h N n kd (.inl (ki, z)) j = h j := by unfold hgrid; rw [if_neg q1, if_neg q2]
        rw [e0]
        exact (hP.2 j (by omega)).kept (hold (b + j) (by rw [hP.1]; omega))
  have W' := k l D cA b sb p e R s m args below meth c mc ms Qw X hE ls F.heap locs (cells + 1 + n) (slots + n + n * w) hg hP2 ⟨fun q hq => (hold q (by rw [hP.1]; omega)).trans (hS.1 q hq), hS.2⟩ (by omega) (by omega)
  obtain ⟨t, a1, b1⟩ := W' F rfl X'
  refine ⟨t, step t ?_, b1⟩
  have e : T.heap.size = b + N := by rw [hT]; exact hP.1
  rw [e]
  exact a1
/-- System.arraycopy of ints -/
theorem go_copy {idx n0 n1 a0 a1 x y z : Nat} {f g : Nat → Int32} {sp dp len : Int32} (hd : decode cc pc = .ok (.invokestatic idx, 3)) (hl : Cond.methodLink own idx arraycopyName ∈ gT) (hb0 : a0 < N) (hb1 : a1 < N) (he0 : h a0 = .inl (0, n0, .inl f)) (he1 : h a1 = .inl (0, n1, .inl g)) (hx : sp = nI x) (hy : dp = nI y) (hz : len = nI z) (h0 : x + z ≤ n0) (h1 : y + z ≤ n1) (hn0 : n0 < 2 ^ 31) (hn1 : n1 < 2 ^ 31) (hw : (st.map fun v => v.category).sum ≤ 8) (k : Go sc own cc nL ret ini (d + 1) (pc + 3) L st (hset h a1 (.inl (0, n1, .inl (va_cpy f g x y z)))) N bc bs Q) : Go sc own cc nL ret ini (d + 1) pc L (.int len :: .int dp :: .ref a1 :: .int sp :: .ref a0 :: st) h N bc bs Q := by
  intro l D cA b sb p e R s m args below meth c mc ms Qw X hE ls H locs cells slots hg hP hS hcc hs
  obtain ⟨hx1, hcb, hml, hr, hlk, hini2, hown, hts, hK, hR, -⟩ := id X
  have hR1 := hR.1
  have hR2 := hR.2.1
  subst hx
  subst hy
  subst hz
  have cx : (nI x).toNatClampNeg = x := nI_clamp (by omega)
  have cy : (nI y).toNatClampNeg = y := nI_clamp (by omega)
  have cz : (nI z).toNatClampNeg = z := nI_clamp (by omega)
  have hws := g_cats b sb st
  intro T hT XS
  have hc0 : H[b + a0]? = some (vp_cell (cA 0) (n0, .inl f)) := hP.at hb0 he0
  have hc1 : H[b + a1]? = some (vp_cell (cA 0) (n1, .inl g)) := hP.at hb1 he1
  obtain ⟨-, k0, hk0, cm0, hkk0⟩ := (hK.2.1 0 (by decide)).1 n0 (fun j => .int (f j))
  obtain ⟨-, k1, hk1, cm1, hkk1⟩ := (hK.2.1 0 (by decide)).1 n1 (fun j => .int (g j))
  obtain ⟨vm', X', step⟩ := XS.arraycopy hx1 hown (hts _ hl) (hts _ a_native) (hts _ a_static) (hts _ in_J10) (src := b + a0) (dst := b + a1) (cs := vp_cell (cA 0) (n0, .inl f)) (cd := vp_cell (cA 0) (n1, .inl g)) (srcPos := nI x) (destPos := nI y) (n := nI z) (by rw [hT]; exact hc0) (by rw [hT]; exact hc1)
    (fun _ h => by cases h) (fun _ h => by cases h) (fun h => by cases h) (fun h => by cases h) hk0 hk1 hkk0 hkk1 (by simp [gA, refKind]) (nI_pos (by omega)) (nI_pos (by omega)) (nI_pos (by omega))
    (by rw [nI_toInt (by omega), nI_toInt (by omega)]; show ¬ _ > ((arrV (cA 0) n0 (fun j => .int (f j))).slots.size : Int); rw [arrV_size]; omega)
    (by rw [nI_toInt (by omega), nI_toInt (by omega)]; show ¬ _ > ((arrV (cA 0) n1 (fun j => .int (g j))).slots.size : Int); rw [arrV_size]; omega)
    (fun vm₁ _ i hi => by
      rw [cz] at hi
      have e : (vp_cell (cA 0) (n0, .inl f)).slots.getD ((nI x).toNatClampNeg + i) .null = .int (f (x + i)) := by
        show (arrV (cA 0) n0 (fun j => .int (f j))).slots.getD _ _ = _
        rw [cx, Array.getD_eq_getD_getElem?, arrV_read _ _ (by omega)]
        rfl
      refine ⟨?_, ?_⟩
      · rw [e]
        rfl
      · rw [e]
        exact trivial)
    (g := F0 m pc ls (.int (nI z) :: .int (nI y) :: .ref (b + a1) :: .int (nI x) :: .ref (b + a0) :: st.map (gv b sb))) rfl (by rw [hml]; exact hg.1) (rest := st.map (gv b sb)) rfl (by rw [hcb]; exact hd) (by omega) (by
      show 2 * 0 + _ + (nativeFrameWords "java/lang/System" "arraycopy" 5 + 11) ≤ _
      have : nativeFrameWords "java/lang/System" "arraycopy" 5 + 11 ≤ 25 := by decide +kernel
      omega)
  have e1 : copied (vp_cell (cA 0) (n0, .inl f)) (vp_cell (cA 0) (n1, .inl g)) (nI x) (nI y) (nI z) = vp_cell (cA 0) (n1, .inl (va_cpy f g x y z)) := by
    have := va_copied (fun z => Value.int z) (cA 0) (cA 0) (n0 := n0) (n1 := n1) (sp := x) (dp := y) (n := z) f g h0
    show (vp_cell (cA 0) (n1, .inl g)).storeRun (nI y).toNatClampNeg ((vp_cell (cA 0) (n0, .inl f)).stretch (nI x).toNatClampNeg (nI z).toNatClampNeg) = _
    rw [cx, cy, cz]
    exact this
  rw [e1] at X' step
  have hlt : b + a1 < H.size := (Array.getElem?_eq_some_iff.mp hc1).1
  have hheap : ((T.setVm vm').setCell (b + a1) (vp_cell (cA 0) (n1, .inl (va_cpy f g x y z)))).heap = H.setIfInBounds (b + a1) (vp_cell (cA 0) (n1, .inl (va_cpy f g x y z))) := by rw [← hT]; rfl
  have oq : ∀ q : Nat, q ≠ b + a1 → (H.setIfInBounds (b + a1) (vp_cell (cA 0) (n1, .inl (va_cpy f g x y z))))[q]? = H[q]? := fun q hq => by simp [Array.getElem?_setIfInBounds, Ne.symm hq]
  have hPn : gP D cA b sb (hset h a1 (.inl (0, n1, .inl (va_cpy f g x y z)))) N (H.setIfInBounds (b + a1) (vp_cell (cA 0) (n1, .inl (va_cpy f g x y z)))) := hP.set (by simp) oq (show (H.setIfInBounds (b + a1) _)[b + a1]? = some _ by simp [Array.getElem?_setIfInBounds, hlt]; rfl)
  obtain ⟨t, q1, q2⟩ := k l D cA b sb p e R s m args below meth c mc ms Qw X hE ls _ _ cells slots hg hPn ⟨fun q hq => by rw [oq q (by omega)]; exact hS.1 q hq, fun q hq => by
      rcases List.mem_append.mp hq with h | h
      · exact hS.2 q h
      · obtain ⟨z, -, hz⟩ := List.mem_map.mp h
        rw [← hz]
        exact Nat.le_add_right _ _⟩ hcc hs _ hheap X'
  exact ⟨t, step t q1, q2⟩
end GoNew
end
section
/-! THE CLAIM OUT OF ONE WALK OF THE LAW'S BODY. Your part is whole_start (and what it stands on); all else here is the same for every law, but numbers. -/
def R_law : String := "ShadeClassesLaw"
def lw_P (b : Addr) (xs : List Int32) (args : Array Value) (s : State) : Prop := args = #[.ref b] ∧ s.IntsAt b xs ∧ xs.length ≤ 2048 ∧ (Jvm.Cond.and given_1 narrow_1).before args s = true
/-- what a walk over the start with the record d0 says of its end, said of the start itself -/
theorem lw_closed {s t : State} {o : Outcome} {d0 : Drawn} {L : List Loc} {k n : Nat} (hd0 : s.drawn.sameBut d0 lw_cs) (hv : ∃ v, o = .returned v) (hW : (s.setDrawn d0).WarmedH t.vm) (hs : (s.setDrawn d0).sameButNew ({ t with vm := s.vm } : State) L k n) : State.butDraws s t lw_cs (fun t1 => Framed s o t1 L k n) := by
  have h2 : t.drawn = d0 := congrArg State.drawn hs.1
  refine ⟨⟨hv, hW, State.sameButNew.setDrawn hs s.drawn⟩, ?_, by decide⟩
  rw [h2]
  exact hd0
def lw_Q (_ : Array Value) (s : State) (o : Outcome) (t : State) : Prop := o = .returned (some (.int 1)) ∧ State.butDraws s t lw_cs (fun t1 => Framed s o t1 [] 600000 7302250)
def lw_Z (below : List Frame) (a : Array Value) (s : State) : State → Prop := fun t => ∃ o, t.status = .running ∧ Ended t below o ∧ lw_Q a s o t
/-- the law's own end, with 1 on the stack, nothing written that was there before, its room as the claim has it; d0: the record of draws at this point (at the entry s.drawn: begin with 'refine W.base ?_' and 'have hd0 := Drawn.sameBut.refl s.drawn lw_cs') -/
theorem lw_ret {p : Program} {l : Launch} {e : Env} {s : State} {m : MethodId} {below : List Frame} {meth : Method} {c : Code} {b : Nat} {d0 : Drawn} (hd0 : s.drawn.sameBut d0 lw_cs) (hx : p.tables.exec = Jvm.exec) (hb : c.code = code) (hr : meth.sig.returnType = ret) (hlocks : meth.locks = false) {pc : Nat} {H : Heap} {ls : Array Slot} (hdg : decode code pc = .ok (.ireturn, 1)) : W p l e room_1 (s.setDrawn d0) m #[Value.ref b] below meth c H [] 600000 7302250 (lw_Z below #[Value.ref b] s) (F0 m pc ls [.int 1]) := by
  intro T hT X
  obtain ⟨fs, hret, hrun, hended, hW, hframe⟩ := X.leave (v := some (.int 1)) (hlocks := hlocks) (fun h => by rw [hr] at h; cases h)
  have hmeth' : T.vm.method? m = some meth := X.method'
  refine ⟨T.setFrames fs, ?_, .returned (some (.int 1)), hrun, hended, rfl, lw_closed hd0 ⟨_, rfl⟩ hW hframe⟩
  jvm_step X.here [X.here.top, hx, hb, hdg, hmeth', hr, ret, narrow_b1]
  (try refine ⟨rfl, ?_⟩); (try refine ⟨rfl, ?_⟩)
  first | (intro acts; rw [hret _ acts rfl rfl rfl]) | rw [hret _ _ rfl rfl rfl]
  exact Steps.refl _
/-- what holds at the law's entry: the machine, the code, the tables' words (any of lw_tbl by 'hts w (by decide +kernel)'), the script of L ints xs at the cell b, what the Statement gives of the start (any of its parts by flat_of_before) -/
def lw_At (p : Program) (s : State) (m : MethodId) (meth : Method) (c : Code) (b L : Nat) (xs : Nat → Int32) : Prop :=
  p.tables.exec = Jvm.exec ∧ c.code = code ∧ meth.sig.returnType = ret ∧ c.maxLocals = 4 ∧ s.vm.findClass R_law = some m.cls ∧ (∀ w ∈ lw_tbl, w.before #[Value.ref b] s = true) ∧ va_X b L xs s s.heap ∧ b < s.heap.size ∧ meth.locks = false ∧ (Jvm.Cond.and given_1 narrow_1).before #[Value.ref b] s = true
/-! the law's start: the tables' words give what the pictures need -/
theorem g_arr {args : Array Value} {s : State} {t : FieldType} (h : (Cond.arrayClass t).before args s = true) (ho : ∀ C, t ≠ .object C) : ∃ c : ClassId, ArrOfT s c t ∧ va_RA s c t := by
  obtain ⟨c, k, comp, h1, h2, h3⟩ := Cond.arrayClass_spec h
  refine ⟨c, fun N z => ⟨(fun q hq => by cases hq), k, h2, comp, h3⟩, ?_⟩
  cases t <;> first | exact h1 | exact absurd rfl (ho _)
theorem g_arrO {s : State} {C : String} (h : va_AO C s) : ∃ c : ClassId, ArrOfT s c (.object C) ∧ va_RA s c (.object C) := by
  obtain ⟨comp, c, k, h1, -, h3, h4, h5⟩ := Cond.arrayOver_spec h
  exact ⟨c, fun N z => ⟨(fun q hq => by cases hq), k, h3, comp, h4⟩, k, comp, h3, h4, h1, h5⟩
theorem g_arrA {s : State} {t : FieldType} (h : gAA t s) : ∃ c : ClassId, ArrOfT s c (.array t) ∧ va_RA s c (.array t) := by
  obtain ⟨comp, c, k, h1, -, h3, h4, h5⟩ := arrayOverA_spec h
  exact ⟨c, fun N z => ⟨(fun q hq => by cases hq), k, h3, comp, h4⟩, h5⟩
theorem g_known {args : Array Value} {s : State} (hts : ∀ w ∈ lw_tbl, w.before args s = true) : ∃ (D : va_G) (cA : Nat → ClassId), gK D cA s := by
  have ht : ∀ w ∈ gT, w.before args s = true := fun w hw => hts w (List.mem_filter.mp hw).1
  have hao0 : va_AO RX0 s := va_AO.of (hts _ (List.mem_of_getElem? (i := 118) (by decide +kernel)))
  have hao5 : va_AO RX5 s := va_AO.of (hts _ (List.mem_of_getElem? (i := 264) (by decide +kernel)))
  have haaI : gAA .int s := (hts (.arrayOver (.array .int)) (List.mem_of_getElem? (i := 216) (by decide +kernel)) : (Cond.arrayOver (.array .int)).before args s = true)
  have haaJ : gAA .long s := (hts (.arrayOver (.array .long)) (List.mem_of_getElem? (i := 186) (by decide +kernel)) : (Cond.arrayOver (.array .long)).before args s = true)
  obtain ⟨c0, i0, k0⟩ := u_known (C := RX0) (T := TX0) (N := 5) ht gl0 (ht _ bX0)
  obtain ⟨c1, i1, k1⟩ := u_known (C := RX1) (T := TX1) (N := 3) ht gl1 (ht _ bX1)
  obtain ⟨c2, i2, k2⟩ := u_known (C := RX2) (T := TX2) (N := 4) ht gl2 (ht _ bX2)
  obtain ⟨c3, i3, k3⟩ := u_known (C := RX3) (T := TX3) (N := 2) ht gl3 (ht _ bX3)
  obtain ⟨c4, i4, k4⟩ := u_known (C := RX4) (T := TX4) (N := 10) ht gl4 (ht _ bX4)
  obtain ⟨c5, i5, k5⟩ := u_known (C := RX5) (T := TX5) (N := 3) ht gl5 (ht _ bX5)
  obtain ⟨c6, i6, k6⟩ := u_known (C := RX6) (T := TX6) (N := 11) ht gl6 (ht _ bX6)
  obtain ⟨c7, i7, k7⟩ := u_known (C := RX7) (T := TX7) (N := 3) ht gl7 (ht _ bX7)
  obtain ⟨c8, i8, k8⟩ := u_known (C := RX8) (T := TX8) (N := 6) ht gl8 (ht _ bX8)
  obtain ⟨c9, i9, k9⟩ := u_known (C := RX9) (T := TX9) (N := 28) ht gl9 (ht _ bX9)
  obtain ⟨a0, r0⟩ := g_arr (ht _ ac_int) (fun C h => by cases h)
  obtain ⟨a1, r1⟩ := g_arr (ht _ ac_long) (fun C h => by cases h)
  obtain ⟨a2, r2⟩ := g_arr (ht _ ac_boolean) (fun C h => by cases h)
  obtain ⟨a3, r3⟩ := g_arrO hao0
  obtain ⟨a4, r4⟩ := g_arrO hao5
  obtain ⟨a5, r5⟩ := g_arrA haaI
  obtain ⟨a6, r6⟩ := g_arrA haaJ
  refine ⟨(fun k => ([c0, c1, c2, c3, c4, c5, c6, c7, c8, c9] : List ClassId).getD k c0, fun k => ([i0, i1, i2, i3, i4, i5, i6, i7, i8, i9] : List (Nat → Nat)).getD k i0), fun k => ([a0, a1, a2, a3, a4, a5, a6] : List ClassId).getD k a0, ?_, ?_, fun q hq => va_Nw.of rfl (hts _ (gNs_in q hq)), ⟨hao0, hao5⟩, ⟨haaI, haaJ⟩⟩
  · intro c q hq
    match c, hq with
    | 0, hq => cases hq; exact k0
    | 1, hq => cases hq; exact k1
    | 2, hq => cases hq; exact k2
    | 3, hq => cases hq; exact k3
    | 4, hq => cases hq; exact k4
    | 5, hq => cases hq; exact k5
    | 6, hq => cases hq; exact k6
    | 7, hq => cases hq; exact k7
    | 8, hq => cases hq; exact k8
    | 9, hq => cases hq; exact k9
    | k + 10, hq => simp [vwCl] at hq
  · intro k hk
    match k, hk with
    | 0, _ => exact r0
    | 1, _ => exact r1
    | 2, _ => exact r2
    | 3, _ => exact r3
    | 4, _ => exact r4
    | 5, _ => exact r5
    | 6, _ => exact r6
    | k + 7, hk => exact absurd hk (by omega)
/-- the claim's walk out of the law's walk over pictures -/
theorem whole_of_go (hgo : ∀ (n : Nat) (xs : Nat → Int32) (h : gH), n ≤ 2048 → Go (some (n, xs)) RL cL_law 4 (some .boolean) false 9 0 [some (.double 0), none, none, none] [] h 0 600000 7302250 (fun v _ _ => v = some (.int 1)))
    {p : Program} {e : Env} {s : State} {m : MethodId} {below : List Frame} {meth : Method} {c : Code} (l : Launch) {b L : Nat} {xs : Nat → Int32} (hL : L ≤ 2048) (C0 : lw_At p s m meth c b L xs) : W p l e room_1 s m #[Value.ref b] below meth c s.heap [] 0 0 (lw_Z below #[Value.ref b] s) (entryFrame m ([Value.ref b] : List Value).toArray 4) := by
  obtain ⟨hx, hb, hr, hml, hown, hts, hX, hbl, hlocks, hgv⟩ := id C0
  obtain ⟨D, cA, hK⟩ := g_known hts
  have X : gX (some (L, xs)) D cA s.heap.size b RL cL_law 4 (some .boolean) false 9 600000 7302250 p room_1 s m #[Value.ref b] meth c :=
    ⟨hx, hb, hml, hr, hlocks, (fun h => by cases h), hown, fun w hw => hts w (List.mem_filter.mp hw).1, hK, ⟨by decide, by decide, Nat.le_of_ble_eq_true rfl, Nat.le_of_ble_eq_true rfl⟩, fun n ys hn => by cases hn; exact ⟨hX, hbl, hbl⟩⟩
  have hl0 := lv_entry ([.ref b]) (n := 4) (Nat.le_of_ble_eq_true rfl)
  rw [lg_entry_eq]
  refine hgo L xs (fun _ => .inr (0, [])) hL l D cA s.heap.size b p e room_1 s m #[Value.ref b] below meth c 600000 7302250 _ X ?_ _ s.heap [] 0 0 ?_ ⟨by omega, fun i hi => absurd hi (by omega)⟩ ⟨fun _ _ => rfl, fun _ h => by cases h⟩ (by omega) (by omega)
  · intro v pcr ls H locs h' N' cells slots hq hP' hS' hc hs hR
    subst hq
    rcases hR with ⟨h1, -, -⟩ | ⟨x, ty, h1, h2, -, hd⟩ | ⟨x, h1, -, -⟩ | ⟨i, C, h1, -, -⟩
    · cases h1
    · cases h1
      refine va_forget (fun q hq => hS'.2 q hq) ?_
      refine W.widen hc hs ?_
      exact lw_ret (d0 := s.drawn) (Drawn.sameBut.refl s.drawn lw_cs) hx hb hr hlocks hd
    · cases h1
    · cases h1
  · refine ⟨hl0.1, hl0.2.1, fun i v hv => ?_⟩
    match i, hv with
    | 0, hv =>
      cases hv
      exact hl0.2.2 (0, .ref b) List.mem_cons_self
    | 1, hv => cases hv
    | 2, hv => cases hv
    | 3, hv => cases hv
    | i + 4, hv => simp at hv
end
section
/-! ===== numbers, small things ===== -/
theorem hset_hset {h : gH} {a : Nat} {x y : gC} : hset (hset h a x) a y = hset h a y := by
  funext j
  by_cases e : j = a <;> simp [hset, e]
/-- a number that may be wanting: -1 -/
def nO : Option Nat → Int32
  | none => -1
  | some v => nI v
/-- how many are old: -9, if no edition was closed -/
def oI : Option Nat → Int32
  | none => -9
  | some v => nI v
def bI (b : Bool) : Int32 := if b then 1 else 0
theorem bI_t : bI true = 1 := rfl
theorem bI_f : bI false = 0 := rfl
theorem bI_01 (b : Bool) : bI b = 0 ∨ bI b = 1 := by cases b <;> simp [bI]
theorem nI_neg {n : Nat} (h : n < 2 ^ 31) {x : Int32} (hx : x < 0) : ¬ nI n ≤ x := by
  intro q
  have h1 := nI_toInt h
  have h2 : (nI n).toInt ≤ x.toInt := Int32.le_iff_toInt_le.mp q
  have h3 : x.toInt < (0 : Int32).toInt := Int32.lt_iff_toInt_lt.mp hx
  rw [Int32.toInt_zero] at h3
  omega
theorem nI_ne_m1 {n : Nat} (h : n < 2 ^ 31) : ¬ nI n = -1 := by
  intro q
  have h1 := nI_toInt h
  rw [q] at h1
  have : (-1 : Int32).toInt = -1 := by decide
  omega
theorem nI_ne_m9 {n : Nat} (h : n < 2 ^ 31) : ¬ nI n = -9 := by
  intro q
  have h1 := nI_toInt h
  rw [q] at h1
  have : (-9 : Int32).toInt = -9 := by decide
  omega
/-! ===== java.util.Arrays.fill ===== -/
def ffill (x : Int32) (f : Nat → Int32) (i : Nat) : Nat → Int32 := fun j => if j < i then x else f j
theorem ffill_0 (x : Int32) (f : Nat → Int32) : ffill x f 0 = f := by funext j; simp [ffill]
theorem ffill_succ (x : Int32) (f : Nat → Int32) (i : Nat) : upd (ffill x f i) i x = ffill x f (i + 1) := by
  funext j
  by_cases e : j = i
  · simp [upd, ffill, e]
  · by_cases e2 : j < i
    · simp [upd, ffill, e, e2, Nat.lt_succ_of_lt e2]
    · simp [upd, ffill, e, e2, show ¬ j < i + 1 by omega]
set_option maxRecDepth 100000 in
theorem fill_loop {d N a n : Nat} {h : gH} {f : Nat → Int32} {x : Int32} (ha : a < N) (hn : n < 2 ^ 31) : ∀ (m i : Nat), i + m = n → Go none RJ7 cJ7_fill_53178 4 none false d 5 [some (.ref a), some (.int x), some (.int (nI i)), some (.int (nI n))] [] (hset h a (.inl (0, n, .inl (ffill x f i)))) N 0 0 (fun v h' N' => v = none ∧ h' = hset h a (.inl (0, n, .inl (ffill x f n))) ∧ N' = N) := by
  intro m
  induction m with
  | zero =>
    intro i hi
    have e : i = n := by omega
    subst e
    refine go_iload_n dJ7_fill_53178_5 rfl ?_
    refine go_iload_n dJ7_fill_53178_6 rfl ?_
    refine go_icmp_ge (tgt := 20) dJ7_fill_53178_7 (by decide) (fun c_7 => ?_) (fun c_7 => ?_)
    · skip
      exact go_vret dJ7_fill_53178_20 rfl ⟨rfl, rfl, rfl⟩
    · exact absurd (nI_le (Nat.le_refl _) hn) c_7
  | succ m ih =>
    intro i hi
    refine go_iload_n dJ7_fill_53178_5 rfl ?_
    refine go_iload_n dJ7_fill_53178_6 rfl ?_
    refine go_icmp_ge (tgt := 20) dJ7_fill_53178_7 (by decide) (fun c_7 => ?_) (fun c_7 => ?_)
    · exact absurd c_7 (nI_ge (by omega) hn)
    · skip
      refine go_aload_n dJ7_fill_53178_10 rfl ?_
      refine go_iload_n dJ7_fill_53178_11 rfl ?_
      refine go_iload_n dJ7_fill_53178_12 rfl ?_
      refine go_iast dJ7_fill_53178_13 (by omega) hset_same rfl (by omega) (by omega) ?_
      rw [hset_hset, ffill_succ]
      refine go_inc (L' := [_, _, _, _]) dJ7_fill_53178_14 rfl (by decide) rfl ?_
      refine go_goto (tgt := 5) dJ7_fill_53178_17 (by decide) ?_
      exact ih (i + 1) (by omega)
theorem run_fill (d : Nat) {N a n : Nat} {h : gH} {f : Nat → Int32} {x : Int32} (ha : a < N) (hn : n < 2 ^ 31) (he : h a = .inl (0, n, .inl f)) : Run d yJ7_fill_53178 cJ7_fill_53178 4 none [.ref a, .int x] h N 0 0 (fun v h' N' => v = none ∧ h' = hset h a (.inl (0, n, .inl (ffill x f n))) ∧ N' = N) := by
  refine Run.of (ini := false) (L := [_, _, _, _]) mJ7_fill_53178 (fun h => by cases h) rfl (Nat.le_of_ble_eq_true rfl) rfl ?_
  refine go_iconst (v := nI 0) dJ7_fill_53178_0 (by decide) ?_
  refine go_istore_n (L' := [_, _, _, _]) dJ7_fill_53178_1 rfl (by decide) rfl ?_
  refine go_aload_n dJ7_fill_53178_2 rfl ?_
  refine go_alen dJ7_fill_53178_3 (by omega) he (by decide) ?_
  refine go_istore_n (L' := [_, _, _, _]) dJ7_fill_53178_4 rfl (by decide) rfl ?_
  have e : h = hset h a (.inl (0, n, .inl (ffill x f 0))) := by funext j; by_cases q : j = a <;> simp [hset, q, he, ffill_0]
  refine go_eqh e ?_
  have key := fill_loop (d := d) (h := h) (f := f) (x := x) ha hn n 0 (by omega)
  exact key
/-! ===== Chart: numbers, old, olds, classes, cost ===== -/
/-- what a chart holds: the number of each place, the old borders, how many they are (none: no edition), classes, cost -/
abbrev CD : Type := (Nat → Option Nat) × (Nat → Nat) × Option Nat × Nat × Nat
def Ct (h : gH) (i : Nat) (c : CD) : Prop := ∃ F G : Nat → Int32, h i = .inr (0, [.ref (i + 1), .ref (i + 2), .int (oI c.2.2.1), .int (nI c.2.2.2.1), .int (nI c.2.2.2.2)]) ∧ h (i + 1) = .inl (0, 100, .inl F) ∧ h (i + 2) = .inl (0, 5, .inl G) ∧ (∀ x, x < 100 → F x = nO (c.1 x)) ∧ (∀ x, x < 5 → G x = nI (c.2.1 x))
theorem Ct.kept {h h' : gH} {i : Nat} {c : CD} (hC : Ct h i c) (h0 : h' i = h i) (h1 : h' (i + 1) = h (i + 1)) (h2 : h' (i + 2) = h (i + 2)) : Ct h' i c := by
  obtain ⟨F, G, q⟩ := hC
  exact ⟨F, G, by rw [h0, h1, h2]; exact q⟩
/-- how many places of the first n have a number; their sum -/
def cP (f : Nat → Option Nat) : Nat → Nat
  | 0 => 0
  | n + 1 => cP f n + (if (f n).isSome then 1 else 0)
def sP (f : Nat → Option Nat) : Nat → Nat
  | 0 => 0
  | n + 1 => sP f n + (f n).getD 0
theorem cP_le (f : Nat → Option Nat) : ∀ n, cP f n ≤ n
  | 0 => Nat.le_refl _
  | n + 1 => by have := cP_le f n; unfold cP; split <;> omega
set_option maxRecDepth 100000 in
theorem places_loop {d N i : Nat} {h : gH} {c : CD} {F : Nat → Int32} (hw : ∀ x, x < 100 → ∀ v, c.1 x = some v → v ≤ 999) (hi : i + 2 < N) (hF : h (i + 1) = .inl (0, 100, .inl F)) (hf : ∀ x, x < 100 → F x = nO (c.1 x)) (w : Option Value) : ∀ (m k : Nat) (w : Option Value), k + m = 100 → Go none RX0 cX0_places 6 (some .int) false d 13 [some (.ref i), some (.int (nI (cP c.1 k))), some (.ref (i + 1)), some (.int (nI 100)), some (.int (nI k)), w] [] h N 0 0 (fun v h' N' => v = some (.int (nI (cP c.1 100))) ∧ h' = h ∧ N' = N) := by
  intro m
  induction m with
  | zero =>
    intro k w hk
    have e : k = 100 := by omega
    subst e
    refine go_iload dX0_places_13 rfl ?_
    refine go_iload_n dX0_places_15 rfl ?_
    refine go_icmp_ge (tgt := 40) dX0_places_16 (by decide) (fun c_16 => ?_) (fun c_16 => ?_)
    · skip
      refine go_iload_n dX0_places_40 rfl ?_
      exact go_iret dX0_places_41 rfl ⟨rfl, rfl, rfl⟩
    · exact absurd (nI_le (Nat.le_refl _) (by decide)) c_16
  | succ m ih =>
    intro k w hk
    refine go_iload dX0_places_13 rfl ?_
    refine go_iload_n dX0_places_15 rfl ?_
    refine go_icmp_ge (tgt := 40) dX0_places_16 (by decide) (fun c_16 => ?_) (fun c_16 => ?_)
    · exact absurd c_16 (nI_ge (by omega) (by decide))
    · skip
      refine go_aload_n dX0_places_19 rfl ?_
      refine go_iload dX0_places_20 rfl ?_
      refine go_iald dX0_places_22 (by omega) hF rfl (by omega) (by omega) ?_
      refine go_top (y := .int (nO (c.1 k))) (by rw [hf k (by omega)]) ?_
      refine go_istore (L' := [_, _, _, _, _, _]) dX0_places_23 (by decide) rfl ?_
      refine go_iload dX0_places_25 rfl ?_
      refine go_iconst (v := (-1)) dX0_places_27 (by decide) ?_
      refine go_icmp_eq (tgt := 34) dX0_places_28 (by decide) (fun c_28 => ?_) (fun c_28 => ?_)
      · skip
        have hn : c.1 k = none := by
          cases hq : c.1 k with
          | none => rfl
          | some v => rw [hq] at c_28; exact absurd c_28 (nI_ne_m1 (by have := hw k (by omega) v hq; omega))
        refine go_inc (L' := [_, _, _, _, _, _]) dX0_places_34 rfl (by decide) rfl ?_
        refine go_goto (tgt := 13) dX0_places_37 (by decide) ?_
        refine go_eqL ?_ (ih (k + 1) (some (.int (nO (c.1 k)))) (by omega))
        simp [cP, hn]
      · skip
        have hn : (c.1 k).isSome = true := by
          cases hq : c.1 k with
          | none => rw [hq] at c_28; exact absurd rfl c_28
          | some v => rfl
        refine go_inc (L' := [_, _, _, _, _, _]) dX0_places_31 rfl (by decide) rfl ?_
        refine go_inc (L' := [_, _, _, _, _, _]) dX0_places_34 rfl (by decide) rfl ?_
        refine go_goto (tgt := 13) dX0_places_37 (by decide) ?_
        refine go_eqL ?_ (ih (k + 1) (some (.int (nO (c.1 k)))) (by omega))
        simp [cP, hn]
theorem run_places (d : Nat) {N i : Nat} {h : gH} {c : CD} (hw : ∀ x, x < 100 → ∀ v, c.1 x = some v → v ≤ 999) (hi : i + 2 < N) (hC : Ct h i c) : Run d yX0_places cX0_places 6 (some .int) [.ref i] h N 0 0 (fun v h' N' => v = some (.int (nI (cP c.1 100))) ∧ h' = h ∧ N' = N) := by
  obtain ⟨F, G, h0, h1, h2, hf, hg⟩ := hC
  refine Run.of (ini := false) (L := [_, _, _, _, _, _]) mX0_places (fun h => by cases h) rfl (Nat.le_of_ble_eq_true rfl) rfl ?_
  refine go_iconst (v := nI 0) dX0_places_0 (by decide) ?_
  refine go_istore_n (L' := [_, _, _, _, _, _]) dX0_places_1 rfl (by decide) rfl ?_
  refine go_aload_n dX0_places_2 rfl ?_
  refine go_get dX0_places_3 fX0_9 (by omega) h0 rfl ?_
  refine go_astore_n (L' := [_, _, _, _, _, _]) dX0_places_6 rfl (by decide) rfl ?_
  refine go_aload_n dX0_places_7 rfl ?_
  refine go_alen dX0_places_8 (by omega) h1 (by decide) ?_
  refine go_istore_n (L' := [_, _, _, _, _, _]) dX0_places_9 rfl (by decide) rfl ?_
  refine go_iconst (v := nI 0) dX0_places_10 (by decide) ?_
  refine go_istore (L' := [_, _, _, _, _, _]) dX0_places_11 (by decide) rfl ?_
  exact places_loop hw hi h1 hf none 100 0 none (by omega)
set_option maxRecDepth 100000 in
theorem sum_loop {d N i : Nat} {h : gH} {c : CD} {F : Nat → Int32} (hw : ∀ x, x < 100 → ∀ v, c.1 x = some v → v ≤ 999) (hi : i + 2 < N) (hF : h (i + 1) = .inl (0, 100, .inl F)) (hf : ∀ x, x < 100 → F x = nO (c.1 x)) : ∀ (m k : Nat) (w : Option Value), k + m = 100 → Go none RX0 cX0_sum 6 (some .int) false d 13 [some (.ref i), some (.int (nI (sP c.1 k))), some (.ref (i + 1)), some (.int (nI 100)), some (.int (nI k)), w] [] h N 0 0 (fun v h' N' => v = some (.int (nI (sP c.1 100))) ∧ h' = h ∧ N' = N) := by
  intro m
  induction m with
  | zero =>
    intro k w hk
    have e : k = 100 := by omega
    subst e
    refine go_iload dX0_sum_13 rfl ?_
    refine go_iload_n dX0_sum_15 rfl ?_
    refine go_icmp_ge (tgt := 42) dX0_sum_16 (by decide) (fun c_16 => ?_) (fun c_16 => ?_)
    · skip
      refine go_iload_n dX0_sum_42 rfl ?_
      exact go_iret dX0_sum_43 rfl ⟨rfl, rfl, rfl⟩
    · exact absurd (nI_le (Nat.le_refl _) (by decide)) c_16
  | succ m ih =>
    intro k w hk
    refine go_iload dX0_sum_13 rfl ?_
    refine go_iload_n dX0_sum_15 rfl ?_
    refine go_icmp_ge (tgt := 42) dX0_sum_16 (by decide) (fun c_16 => ?_) (fun c_16 => ?_)
    · exact absurd c_16 (nI_ge (by omega) (by decide))
    · skip
      refine go_aload_n dX0_sum_19 rfl ?_
      refine go_iload dX0_sum_20 rfl ?_
      refine go_iald dX0_sum_22 (by omega) hF rfl (by omega) (by omega) ?_
      refine go_top (y := .int (nO (c.1 k))) (by rw [hf k (by omega)]) ?_
      refine go_istore (L' := [_, _, _, _, _, _]) dX0_sum_23 (by decide) rfl ?_
      refine go_iload dX0_sum_25 rfl ?_
      refine go_iconst (v := (-1)) dX0_sum_27 (by decide) ?_
      refine go_icmp_eq (tgt := 36) dX0_sum_28 (by decide) (fun c_28 => ?_) (fun c_28 => ?_)
      · skip
        have hn : c.1 k = none := by
          cases hq : c.1 k with
          | none => rfl
          | some v => rw [hq] at c_28; exact absurd c_28 (nI_ne_m1 (by have := hw k (by omega) v hq; omega))
        refine go_inc (L' := [_, _, _, _, _, _]) dX0_sum_36 rfl (by decide) rfl ?_
        refine go_goto (tgt := 13) dX0_sum_39 (by decide) ?_
        refine go_eqL ?_ (ih (k + 1) (some (.int (nO (c.1 k)))) (by omega))
        simp [sP, hn, nO, nI_add]
      · skip
        obtain ⟨v, hn⟩ : ∃ v, c.1 k = some v := by
          cases hq : c.1 k with
          | none => rw [hq] at c_28; exact absurd rfl c_28
          | some v => exact ⟨v, rfl⟩
        refine go_iload_n dX0_sum_31 rfl ?_
        refine go_iload dX0_sum_32 rfl ?_
        refine go_iadd dX0_sum_34 ?_
        refine go_istore_n (L' := [_, _, _, _, _, _]) dX0_sum_35 rfl (by decide) rfl ?_
        refine go_inc (L' := [_, _, _, _, _, _]) dX0_sum_36 rfl (by decide) rfl ?_
        refine go_goto (tgt := 13) dX0_sum_39 (by decide) ?_
        refine go_eqL ?_ (ih (k + 1) (some (.int (nO (c.1 k)))) (by omega))
        simp [sP, hn, nO, nI_add]
theorem run_sum (d : Nat) {N i : Nat} {h : gH} {c : CD} (hw : ∀ x, x < 100 → ∀ v, c.1 x = some v → v ≤ 999) (hi : i + 2 < N) (hC : Ct h i c) : Run d yX0_sum cX0_sum 6 (some .int) [.ref i] h N 0 0 (fun v h' N' => v = some (.int (nI (sP c.1 100))) ∧ h' = h ∧ N' = N) := by
  obtain ⟨F, G, h0, h1, h2, hf, hg⟩ := hC
  refine Run.of (ini := false) (L := [_, _, _, _, _, _]) mX0_sum (fun h => by cases h) rfl (Nat.le_of_ble_eq_true rfl) rfl ?_
  refine go_iconst (v := nI 0) dX0_sum_0 (by decide) ?_
  refine go_istore_n (L' := [_, _, _, _, _, _]) dX0_sum_1 rfl (by decide) rfl ?_
  refine go_aload_n dX0_sum_2 rfl ?_
  refine go_get dX0_sum_3 fX0_9 (by omega) h0 rfl ?_
  refine go_astore_n (L' := [_, _, _, _, _, _]) dX0_sum_6 rfl (by decide) rfl ?_
  refine go_aload_n dX0_sum_7 rfl ?_
  refine go_alen dX0_sum_8 (by omega) h1 (by decide) ?_
  refine go_istore_n (L' := [_, _, _, _, _, _]) dX0_sum_9 rfl (by decide) rfl ?_
  refine go_iconst (v := nI 0) dX0_sum_10 (by decide) ?_
  refine go_istore (L' := [_, _, _, _, _, _]) dX0_sum_11 (by decide) rfl ?_
  exact sum_loop hw hi h1 hf 100 0 none (by omega)
/-- whether v is among the first n of g -/
def oldB (g : Nat → Nat) (v : Nat) : Nat → Bool
  | 0 => false
  | n + 1 => oldB g v n || g n == v
def oK (o : Option Nat) : Nat := o.getD 0
theorem oldB_iff (g : Nat → Nat) (v : Nat) : ∀ n, oldB g v n = true ↔ ∃ i, i < n ∧ g i = v
  | 0 => by simp [oldB]
  | n + 1 => by
    rw [oldB, Bool.or_eq_true, oldB_iff g v n, beq_iff_eq]
    constructor
    · rintro (⟨i, h1, h2⟩ | h)
      · exact ⟨i, by omega, h2⟩
      · exact ⟨n, by omega, h⟩
    · rintro ⟨i, h1, h2⟩
      by_cases e : i = n
      · right; rw [← e]; exact h2
      · left; exact ⟨i, by omega, h2⟩
set_option maxRecDepth 100000 in
theorem isOld_loop {d N i v n : Nat} {h : gH} {c : CD} {G : Nat → Int32} (hv : v < 2 ^ 31) (hg5 : ∀ x, x < 5 → c.2.1 x < 2 ^ 31) (ho : c.2.2.1 = some n) (hn : n ≤ 5) (hi : i + 2 < N) (h0 : h i = .inr (0, [.ref (i + 1), .ref (i + 2), .int (oI c.2.2.1), .int (nI c.2.2.2.1), .int (nI c.2.2.2.2)])) (hG : h (i + 2) = .inl (0, 5, .inl G)) (hg : ∀ x, x < 5 → G x = nI (c.2.1 x)) : ∀ (m k : Nat), k + m = n → oldB c.2.1 v k = false → Go none RX0 cX0_isOld 3 (some .boolean) false d 2 [some (.ref i), some (.int (nI v)), some (.int (nI k))] [] h N 0 0 (fun r h' N' => r = some (.int (bI (oldB c.2.1 v n))) ∧ h' = h ∧ N' = N) := by
  intro m
  rw [ho] at h0
  induction m with
  | zero =>
    intro k hk hb
    have e : k = n := by omega
    subst e
    refine go_iload_n dX0_isOld_2 rfl ?_
    refine go_aload_n dX0_isOld_3 rfl ?_
    refine go_get dX0_isOld_4 fX0_27 (by omega) h0 rfl ?_
    refine go_icmp_ge (tgt := 37) dX0_isOld_7 (by decide) (fun c_7 => ?_) (fun c_7 => ?_)
    · skip
      refine go_iconst (v := nI 0) dX0_isOld_37 (by decide) ?_
      refine go_zret dX0_isOld_38 rfl (by first | exact Or.inl rfl | exact Or.inr rfl) ?_
      rw [hb]
      exact ⟨rfl, rfl, rfl⟩
    · exact absurd (nI_le (Nat.le_refl _) (by omega)) c_7
  | succ m ih =>
    intro k hk hb
    refine go_iload_n dX0_isOld_2 rfl ?_
    refine go_aload_n dX0_isOld_3 rfl ?_
    refine go_get dX0_isOld_4 fX0_27 (by omega) h0 rfl ?_
    refine go_icmp_ge (tgt := 37) dX0_isOld_7 (by decide) (fun c_7 => ?_) (fun c_7 => ?_)
    · exact absurd c_7 (nI_ge (by omega) (by omega))
    · skip
      refine go_iload_n dX0_isOld_10 rfl ?_
      refine go_aload_n dX0_isOld_11 rfl ?_
      refine go_get dX0_isOld_12 fX0_15 (by omega) h0 rfl ?_
      refine go_alen dX0_isOld_15 (by omega) hG (by decide) ?_
      refine go_icmp_ge (tgt := 37) dX0_isOld_16 (by decide) (fun c_16 => ?_) (fun c_16 => ?_)
      · exact absurd c_16 (nI_ge (by omega) (by omega))
      · skip
        refine go_aload_n dX0_isOld_19 rfl ?_
        refine go_get dX0_isOld_20 fX0_15 (by omega) h0 rfl ?_
        refine go_iload_n dX0_isOld_23 rfl ?_
        refine go_iald dX0_isOld_24 (by omega) hG rfl (by omega) (by omega) ?_
        refine go_top (y := .int (nI (c.2.1 k))) (by rw [hg k (by omega)]) ?_
        refine go_iload_n dX0_isOld_25 rfl ?_
        refine go_icmp_ne (tgt := 31) dX0_isOld_26 (by decide) (fun c_26 => ?_) (fun c_26 => ?_)
        · skip
          have hne : ¬ c.2.1 k = v := fun q => c_26 (by rw [q])
          refine go_inc (L' := [_, _, _]) dX0_isOld_31 rfl (by decide) rfl ?_
          refine go_goto (tgt := 2) dX0_isOld_34 (by decide) ?_
          exact ih (k + 1) (by omega) (by rw [oldB, hb]; simpa using hne)
        · skip
          refine go_iconst (v := nI 1) dX0_isOld_29 (by decide) ?_
          refine go_zret dX0_isOld_30 rfl (by first | exact Or.inl rfl | exact Or.inr rfl) ?_
          have hq : c.2.1 k = v := by
            have hq := Decidable.not_not.mp c_26
            exact (nI_eq (hg5 k (by omega)) hv).mp hq
          have hb2 : oldB c.2.1 v n = true := (oldB_iff _ _ _).mpr ⟨k, by omega, hq⟩
          rw [hb2]
          exact ⟨rfl, rfl, rfl⟩
theorem run_isOld (d : Nat) {N i v : Nat} {h : gH} {c : CD} (hv : v < 2 ^ 31) (hg5 : ∀ x, x < 5 → c.2.1 x < 2 ^ 31) (ho : ∀ n, c.2.2.1 = some n → n ≤ 5) (hi : i + 2 < N) (hC : Ct h i c) : Run d yX0_isOld cX0_isOld 3 (some .boolean) [.ref i, .int (nI v)] h N 0 0 (fun r h' N' => r = some (.int (bI (oldB c.2.1 v (oK c.2.2.1)))) ∧ h' = h ∧ N' = N) := by
  obtain ⟨F, G, h0, h1, h2, hf, hg⟩ := hC
  refine Run.of (ini := false) (L := [_, _, _]) mX0_isOld (fun h => by cases h) rfl (Nat.le_of_ble_eq_true rfl) rfl ?_
  cases hq : c.2.2.1 with
  | none =>
    rw [hq] at h0
    refine go_iconst (v := nI 0) dX0_isOld_0 (by decide) ?_
    refine go_istore_n (L' := [_, _, _]) dX0_isOld_1 rfl (by decide) rfl ?_
    refine go_iload_n dX0_isOld_2 rfl ?_
    refine go_aload_n dX0_isOld_3 rfl ?_
    refine go_get dX0_isOld_4 fX0_27 (by omega) h0 rfl ?_
    refine go_icmp_ge (tgt := 37) dX0_isOld_7 (by decide) (fun c_7 => ?_) (fun c_7 => ?_)
    · skip
      refine go_iconst (v := nI 0) dX0_isOld_37 (by decide) ?_
      exact go_zret dX0_isOld_38 rfl (by first | exact Or.inl rfl | exact Or.inr rfl) ⟨rfl, rfl, rfl⟩
    · exact absurd (by decide) c_7
  | some n =>
    have hn := ho n hq
    refine go_iconst (v := nI 0) dX0_isOld_0 (by decide) ?_
    refine go_istore_n (L' := [_, _, _]) dX0_isOld_1 rfl (by decide) rfl ?_
    exact isOld_loop hv hg5 hq hn hi h0 h2 hg n 0 (by omega) rfl
/-- what a border at v costs, in parts -/
def feeC (c : CD) (v : Nat) : Int64 := if c.2.2.1 = none then 0 else if oldB c.2.1 v (oK c.2.2.1) = true then 0 else lN c.2.2.2.2 * 5354228880
theorem run_feeOf (d : Nat) {N i v : Nat} {h : gH} {c : CD} (hv : v < 2 ^ 31) (hg5 : ∀ x, x < 5 → c.2.1 x < 2 ^ 31) (ho : ∀ n, c.2.2.1 = some n → n ≤ 5) (hc : c.2.2.2.2 < 2 ^ 31) (hi : i + 2 < N) (hC : Ct h i c) : Run (d + 1) yX0_feeOf cX0_feeOf 2 (some .long) [.ref i, .int (nI v)] h N 0 0 (fun r h' N' => r = some (.long (feeC c v)) ∧ h' = h ∧ N' = N) := by
  obtain ⟨F, G, h0, h1, h2, hf, hg⟩ := id hC
  refine Run.of (ini := false) (L := [_, _]) mX0_feeOf (fun h => by cases h) rfl (Nat.le_of_ble_eq_true rfl) rfl ?_
  cases hq : c.2.2.1 with
  | none =>
    rw [hq] at h0
    refine go_aload_n dX0_feeOf_0 rfl ?_
    refine go_get dX0_feeOf_1 fX0_27 (by omega) h0 rfl ?_
    refine go_bipush (v := (-9)) dX0_feeOf_4 (by decide) ?_
    refine go_icmp_eq (tgt := 17) dX0_feeOf_6 (by decide) (fun c_6 => ?_) (fun c_6 => ?_)
    · skip
      refine go_lconst (v := lN 0) dX0_feeOf_17 rfl ?_
      refine go_goto (tgt := 30) dX0_feeOf_18 (by decide) ?_
      refine go_lret dX0_feeOf_30 rfl ?_
      exact ⟨by rw [feeC, if_pos hq]; rfl, rfl, rfl⟩
    · exact absurd rfl c_6
  | some n =>
    rw [hq] at h0
    have hn := ho n hq
    refine go_aload_n dX0_feeOf_0 rfl ?_
    refine go_get dX0_feeOf_1 fX0_27 (by omega) h0 rfl ?_
    refine go_bipush (v := (-9)) dX0_feeOf_4 (by decide) ?_
    refine go_icmp_eq (tgt := 17) dX0_feeOf_6 (by decide) (fun c_6 => ?_) (fun c_6 => ?_)
    · exact absurd c_6 (nI_ne_m9 (by omega))
    · skip
      refine go_aload_n dX0_feeOf_9 rfl ?_
      refine go_iload_n dX0_feeOf_10 rfl ?_
      refine go_iv dX0_feeOf_11 mX0_isOld iX0_43 (run_isOld d hv hg5 ho hi hC) rfl rfl (by omega) h0 rfl (by decide) (Nat.zero_le _) (Nat.zero_le _) (fun v_11 h_11 n_11 q_11 => ?_)
      obtain ⟨rfl, rfl, rfl⟩ := q_11
      refine go_if_eq (tgt := 21) dX0_feeOf_14 (by decide) (fun c_14 => ?_) (fun c_14 => ?_)
      · skip
        have hb : oldB c.2.1 v (oK c.2.2.1) = false := by cases hb : oldB c.2.1 v (oK c.2.2.1) with | false => rfl | true => rw [hb] at c_14; exact absurd c_14 (by decide)
        refine go_aload_n dX0_feeOf_21 rfl ?_
        refine go_get dX0_feeOf_22 fX0_34 (by omega) h0 rfl ?_
        refine go_i2l dX0_feeOf_25 rfl ?_
        refine go_ldc2 dX0_feeOf_26 kX0_47 ?_
        refine go_lmul dX0_feeOf_29 ?_
        refine go_lret dX0_feeOf_30 rfl ?_
        exact ⟨by unfold feeC; rw [if_neg (by rw [hq]; simp)]; first | (rw [if_pos hb]; rfl) | (rw [if_neg (by rw [hb]; decide), nI_l hc]), rfl, rfl⟩
      · skip
        have hb : oldB c.2.1 v (oK c.2.2.1) = true := by cases hb : oldB c.2.1 v (oK c.2.2.1) with | true => rfl | false => rw [hb] at c_14; exact absurd rfl c_14
        refine go_lconst (v := lN 0) dX0_feeOf_17 rfl ?_
        refine go_goto (tgt := 30) dX0_feeOf_18 (by decide) ?_
        refine go_lret dX0_feeOf_30 rfl ?_
        exact ⟨by unfold feeC; rw [if_neg (by rw [hq]; simp)]; first | (rw [if_pos hb]; rfl) | (rw [if_neg (by rw [hb]; decide), nI_l hc]), rfl, rfl⟩
/-- nothing else has changed -/
def Fr (lo hi : Nat) (h h' : gH) : Prop := ∀ x, x < lo ∨ hi ≤ x → h' x = h x
theorem Fr.rf {lo hi : Nat} {h : gH} : Fr lo hi h h := fun _ _ => rfl
theorem Fr.trans {lo hi : Nat} {h h1 h2 : gH} (a : Fr lo hi h h1) (b : Fr lo hi h1 h2) : Fr lo hi h h2 := fun x hx => (b x hx).trans (a x hx)
theorem Fr.set {lo hi : Nat} {h h1 : gH} {a : Nat} {x : gC} (f : Fr lo hi h h1) (h1' : lo ≤ a) (h2 : a < hi) : Fr lo hi h (hset h1 a x) := fun y hy => (hset_ne (by omega)).trans (f y hy)
theorem Fr.wide {lo hi lo' hi' : Nat} {h h1 : gH} (f : Fr lo hi h h1) (h1' : lo' ≤ lo) (h2 : hi ≤ hi') : Fr lo' hi' h h1 := fun y hy => f y (by omega)
theorem Ct.fr {h h' : gH} {lo hi i : Nat} {c : CD} (hC : Ct h i c) (f : Fr lo hi h h') (hx : i + 2 < lo ∨ hi ≤ i) : Ct h' i c := hC.kept (f _ (by omega)) (f _ (by omega)) (f _ (by omega))
def c0 : CD := (fun _ => none, fun _ => 0, none, 3, 0)
set_option maxRecDepth 100000 in
theorem run_empty (d : Nat) {N i : Nat} {h : gH} {F G : Nat → Int32} {g : Nat → Nat} {o k c : Int32} (hi : i + 2 < N) (h0 : h i = .inr (0, [.ref (i + 1), .ref (i + 2), .int o, .int k, .int c])) (h1 : h (i + 1) = .inl (0, 100, .inl F)) (h2 : h (i + 2) = .inl (0, 5, .inl G)) (hg : ∀ x, x < 5 → G x = nI (g x)) : Run (d + 1) yX0_empty cX0_empty 1 none [.ref i] h N 0 0 (fun v h' N' => v = none ∧ N' = N ∧ Ct h' i (fun _ => none, g, none, 3, 0) ∧ Fr i (i + 3) h h') := by
  refine Run.of (ini := false) (L := [_]) mX0_empty (fun h => by cases h) rfl (Nat.le_of_ble_eq_true rfl) rfl ?_
  refine go_aload_n dX0_empty_0 rfl ?_
  refine go_get dX0_empty_1 fX0_9 (by omega) h0 rfl ?_
  refine go_iconst (v := (-1)) dX0_empty_4 (by decide) ?_
  refine go_is dX0_empty_5 mJ7_fill_53178 iX0_21 (run_fill d (by omega) (by omega) h1) rfl rfl (by decide) (Nat.zero_le _) (Nat.zero_le _) (fun v_5 h_5 n_5 q_5 => ?_)
  obtain ⟨rfl, rfl, rfl⟩ := q_5
  have e0 : hset h (i + 1) (.inl (0, 100, .inl (ffill (-1) F 100))) i = .inr (0, [.ref (i + 1), .ref (i + 2), .int o, .int k, .int c]) := (hset_ne (by omega)).trans h0
  refine go_aload_n dX0_empty_8 rfl ?_
  refine go_bipush (v := (-9)) dX0_empty_9 (by decide) ?_
  refine go_put (fs' := [_, _, _, _, _]) dX0_empty_11 fX0_27 (by omega) e0 (Nat.le_of_ble_eq_true rfl) (Or.inl rfl) ⟨_, _, _, rfl, Or.inl rfl⟩ rfl ?_
  refine go_aload_n dX0_empty_14 rfl ?_
  refine go_iconst (v := nI 3) dX0_empty_15 (by decide) ?_
  refine go_put (fs' := [_, _, _, _, _]) dX0_empty_16 fX0_31 (by omega) hset_same (Nat.le_of_ble_eq_true rfl) (Or.inl rfl) ⟨_, _, _, rfl, Or.inl rfl⟩ rfl ?_
  refine go_aload_n dX0_empty_19 rfl ?_
  refine go_iconst (v := nI 0) dX0_empty_20 (by decide) ?_
  refine go_put (fs' := [_, _, _, _, _]) dX0_empty_21 fX0_34 (by omega) hset_same (Nat.le_of_ble_eq_true rfl) (Or.inl rfl) ⟨_, _, _, rfl, Or.inl rfl⟩ rfl ?_
  refine go_vret dX0_empty_24 rfl ?_
  rw [hset_hset, hset_hset]
  refine ⟨rfl, rfl, ⟨ffill (-1) F 100, G, hset_same, (hset_ne (by omega)).trans hset_same, ((hset_ne (by omega)).trans (hset_ne (by omega))).trans h2, fun x hx => by simp [ffill, hx, nO], hg⟩, ((Fr.rf.set (by omega) (by omega)).set (by omega) (by omega))⟩
set_option maxRecDepth 100000 in
theorem run_become (d : Nat) {N i j : Nat} {h : gH} {a c : CD} (hi : i + 2 < N) (hj : j + 2 < N) (hij : i + 2 < j ∨ j + 2 < i) (hA : Ct h i a) (hC : Ct h j c) : Run (d + 1) yX0_become cX0_become 2 none [.ref i, .ref j] h N 0 0 (fun v h' N' => v = none ∧ N' = N ∧ Ct h' i c ∧ Fr i (i + 3) h h') := by
  obtain ⟨F, G, h0, h1, h2, hf, hg⟩ := hA
  obtain ⟨F', G', q0, q1, q2, hf', hg'⟩ := hC
  refine Run.of (ini := false) (L := [_, _]) mX0_become (fun h => by cases h) rfl (Nat.le_of_ble_eq_true rfl) rfl ?_
  refine go_aload_n dX0_become_0 rfl ?_
  refine go_get dX0_become_1 fX0_9 (by omega) q0 rfl ?_
  refine go_iconst (v := nI 0) dX0_become_4 (by decide) ?_
  refine go_aload_n dX0_become_5 rfl ?_
  refine go_get dX0_become_6 fX0_9 (by omega) h0 rfl ?_
  refine go_iconst (v := nI 0) dX0_become_9 (by decide) ?_
  refine go_aload_n dX0_become_10 rfl ?_
  refine go_get dX0_become_11 fX0_9 (by omega) h0 rfl ?_
  refine go_alen dX0_become_14 (by omega) h1 (by decide) ?_
  refine go_copy (z := 100) dX0_become_15 aX0_37 (by omega) (by omega) q1 h1 rfl rfl rfl (by omega) (by omega) (by omega) (by omega) (by decide) ?_
  have b0 : hset h (i + 1) (.inl (0, 100, .inl (va_cpy F' F 0 0 100))) i = h i := hset_ne (by omega)
  have b1 : hset h (i + 1) (.inl (0, 100, .inl (va_cpy F' F 0 0 100))) j = h j := hset_ne (by omega)
  have b2 : hset h (i + 1) (.inl (0, 100, .inl (va_cpy F' F 0 0 100))) (i + 2) = h (i + 2) := hset_ne (by omega)
  have b3 : hset h (i + 1) (.inl (0, 100, .inl (va_cpy F' F 0 0 100))) (j + 2) = h (j + 2) := hset_ne (by omega)
  refine go_aload_n dX0_become_18 rfl ?_
  refine go_get dX0_become_19 fX0_15 (by omega) (b1.trans q0) rfl ?_
  refine go_iconst (v := nI 0) dX0_become_22 (by decide) ?_
  refine go_aload_n dX0_become_23 rfl ?_
  refine go_get dX0_become_24 fX0_15 (by omega) (b0.trans h0) rfl ?_
  refine go_iconst (v := nI 0) dX0_become_27 (by decide) ?_
  refine go_aload_n dX0_become_28 rfl ?_
  refine go_get dX0_become_29 fX0_15 (by omega) (b0.trans h0) rfl ?_
  refine go_alen dX0_become_32 (by omega) (b2.trans h2) (by decide) ?_
  refine go_copy (z := 5) dX0_become_33 aX0_37 (by omega) (by omega) (b3.trans q2) (b2.trans h2) rfl rfl rfl (by omega) (by omega) (by omega) (by omega) (by decide) ?_
  have d0 : ∀ y, hset (hset h (i + 1) (.inl (0, 100, .inl (va_cpy F' F 0 0 100)))) (i + 2) y i = h i := fun y => (hset_ne (by omega)).trans b0
  have d1 : ∀ y, hset (hset h (i + 1) (.inl (0, 100, .inl (va_cpy F' F 0 0 100)))) (i + 2) y j = h j := fun y => (hset_ne (by omega)).trans b1
  refine go_aload_n dX0_become_36 rfl ?_
  refine go_aload_n dX0_become_37 rfl ?_
  refine go_get dX0_become_38 fX0_27 (by omega) ((d1 _).trans q0) rfl ?_
  refine go_put (fs' := [_, _, _, _, _]) dX0_become_41 fX0_27 (by omega) ((d0 _).trans h0) (Nat.le_of_ble_eq_true rfl) (Or.inl rfl) ⟨_, _, _, rfl, Or.inl rfl⟩ rfl ?_
  refine go_aload_n dX0_become_44 rfl ?_
  refine go_aload_n dX0_become_45 rfl ?_
  refine go_get dX0_become_46 fX0_31 (by omega) (((hset_ne (by omega)).trans (d1 _)).trans q0) rfl ?_
  refine go_put (fs' := [_, _, _, _, _]) dX0_become_49 fX0_31 (by omega) hset_same (Nat.le_of_ble_eq_true rfl) (Or.inl rfl) ⟨_, _, _, rfl, Or.inl rfl⟩ rfl ?_
  refine go_aload_n dX0_become_52 rfl ?_
  refine go_aload_n dX0_become_53 rfl ?_
  refine go_get dX0_become_54 fX0_34 (by omega) (((hset_ne (by omega)).trans ((hset_ne (by omega)).trans (d1 _))).trans q0) rfl ?_
  refine go_put (fs' := [_, _, _, _, _]) dX0_become_57 fX0_34 (by omega) hset_same (Nat.le_of_ble_eq_true rfl) (Or.inl rfl) ⟨_, _, _, rfl, Or.inl rfl⟩ rfl ?_
  refine go_vret dX0_become_60 rfl ?_
  rw [hset_hset, hset_hset]
  refine ⟨rfl, rfl, ⟨va_cpy F' F 0 0 100, va_cpy G' G 0 0 5, hset_same, ((hset_ne (by omega)).trans (hset_ne (by omega))).trans hset_same, (hset_ne (by omega)).trans hset_same, fun x hx => ?_, fun x hx => ?_⟩, (((Fr.rf.set (by omega) (by omega)).set (by omega) (by omega)).set (by omega) (by omega))⟩
  · rw [pk_cpy_in (by omega) (by omega)]; simpa using hf' x hx
  · rw [pk_cpy_in (by omega) (by omega)]; simpa using hg' x hx
set_option maxRecDepth 100000 in
theorem run_chart (d : Nat) {i : Nat} {h : gH} (h0 : h i = .inr (0, [.null, .null, .int 0, .int 0, .int 0])) : Run (d + 2) yX0_init cX0_init 1 none [.ref i] h (i + 1) 2 105 (fun v h' N' => v = none ∧ N' = i + 3 ∧ Ct h' i c0 ∧ Fr i (i + 3) h h') := by
  refine Run.of (ini := true) (L := [_]) mX0_init (fun h => rfl) rfl (Nat.le_of_ble_eq_true rfl) rfl ?_
  refine go_aload_n dX0_init_0 rfl ?_
  refine go_obj dX0_init_1 oX0 (by decide) ?_
  refine go_aload_n dX0_init_4 rfl ?_
  refine go_bipush (v := nI 100) dX0_init_5 (by decide) ?_
  refine go_newI (n := 100) dX0_init_7 rfl (by omega) (by decide) (by decide) ?_
  refine go_put (fs' := [_, _, _, _, _]) dX0_init_9 fX0_9 (by omega) ((hset_ne (by omega)).trans h0) (Nat.le_of_ble_eq_true rfl) rfl ⟨_, _, _, rfl, Or.inr ⟨rfl, rfl, rfl⟩⟩ rfl ?_
  refine go_aload_n dX0_init_12 rfl ?_
  refine go_iconst (v := nI 5) dX0_init_13 (by decide) ?_
  refine go_newI (n := 5) dX0_init_14 rfl (by omega) (by decide) (by decide) ?_
  refine go_put (fs' := [_, _, _, _, _]) dX0_init_16 fX0_15 (by omega) ((hset_ne (by omega)).trans hset_same) (Nat.le_of_ble_eq_true rfl) rfl ⟨_, _, _, rfl, Or.inr ⟨rfl, rfl, rfl⟩⟩ rfl ?_
  refine go_aload_n dX0_init_19 rfl ?_
  refine go_iv dX0_init_20 mX0_empty iX0_18 (run_empty d (F := fun _ => 0) (G := fun _ => 0) (g := fun _ => 0) (by omega) hset_same ((hset_ne (by omega)).trans ((hset_ne (by omega)).trans ((hset_ne (by omega)).trans hset_same))) ((hset_ne (by omega)).trans hset_same) (fun x hx => rfl)) rfl rfl (by omega) hset_same rfl (by decide) (Nat.zero_le _) (Nat.zero_le _) (fun v_20 h_20 n_20 q_20 => ?_)
  obtain ⟨rfl, rfl, hC, hF⟩ := q_20
  refine go_vret dX0_init_23 rfl ?_
  refine ⟨rfl, rfl, hC, fun x hx => (hF x hx).trans ?_⟩
  rw [hset_ne (by omega), hset_ne (by omega), hset_ne (by omega), hset_ne (by omega)]
end
section
/-! ===== comparisons of any int with a small number ===== -/
theorem ltN {x : Int32} {n : Nat} (h : n < 2 ^ 31) : x < nI n ↔ x.toInt < n := by rw [Int32.lt_iff_toInt_lt, nI_toInt h]
theorem leN {x : Int32} {n : Nat} (h : n < 2 ^ 31) : x ≤ nI n ↔ x.toInt ≤ n := by rw [Int32.le_iff_toInt_le, nI_toInt h]
theorem gtN {x : Int32} {n : Nat} (h : n < 2 ^ 31) : nI n < x ↔ (n : Int) < x.toInt := by rw [Int32.lt_iff_toInt_lt, nI_toInt h]
theorem geN {x : Int32} {n : Nat} (h : n < 2 ^ 31) : nI n ≤ x ↔ (n : Int) ≤ x.toInt := by rw [Int32.le_iff_toInt_le, nI_toInt h]
theorem lt0 {x : Int32} : x < 0 ↔ x.toInt < 0 := by rw [Int32.lt_iff_toInt_lt, Int32.toInt_zero]
/-- whether an int lies from lo to hi -/
def rI (lo hi : Nat) (x : Int32) : Bool := decide ((lo : Int) ≤ x.toInt ∧ x.toInt ≤ (hi : Int))
theorem rI_t {lo hi : Nat} {x : Int32} (h : rI lo hi x = true) : ∃ k, lo ≤ k ∧ k ≤ hi ∧ x = nI k := by
  have h := of_decide_eq_true h
  refine ⟨x.toInt.toNat, by omega, by omega, ?_⟩
  apply Int32.toInt_inj.mp
  have hx := Int32.toInt_lt x
  rw [nI_toInt (by omega)]
  omega
theorem rI_n {lo hi k : Nat} (hk : k < 2 ^ 31) : rI lo hi (nI k) = decide (lo ≤ k ∧ k ≤ hi) := by
  unfold rI
  rw [nI_toInt hk]
  congr 1
  apply propext
  omega
theorem rI_yes {lo hi k : Nat} (hk : k < 2 ^ 31) (h1 : lo ≤ k) (h2 : k ≤ hi) : rI lo hi (nI k) = true := by rw [rI_n hk]; simp [h1, h2]
theorem bI_eq {b : Bool} : bI b = 0 ↔ b = false := by cases b <;> simp [bI]
theorem bI_ne {b : Bool} : ¬ bI b = 0 ↔ b = true := by cases b <;> simp [bI]
/-! ===== isClasses, isSide, cellOf ===== -/
theorem run_isClasses (d : Nat) {N : Nat} {h : gH} (x : Int32) : Run d yX8_isClasses cX8_isClasses 1 (some .boolean) [.int x] h N 0 0 (fun v h' N' => v = some (.int (bI (rI 1 6 x))) ∧ h' = h ∧ N' = N) := by
  refine Run.of (ini := false) (L := [_]) mX8_isClasses (fun h => by cases h) rfl (Nat.le_of_ble_eq_true rfl) rfl ?_
  refine go_iload_n dX8_isClasses_0 rfl ?_
  refine go_iconst (v := nI 1) dX8_isClasses_1 (by decide) ?_
  refine go_icmp_lt (tgt := 15) dX8_isClasses_2 (by decide) (fun c_2 => ?_) (fun c_2 => ?_)
  · skip
    rw [ltN (by decide)] at c_2
    have e : rI 1 6 x = false := by unfold rI; exact decide_eq_false (by omega)
    refine go_iconst (v := nI 0) dX8_isClasses_15 (by decide) ?_
    refine go_zret dX8_isClasses_16 rfl (by first | exact Or.inl rfl | exact Or.inr rfl) ?_
    rw [e]
    exact ⟨rfl, rfl, rfl⟩
  · skip
    rw [ltN (by decide)] at c_2
    refine go_iload_n dX8_isClasses_5 rfl ?_
    refine go_bipush (v := nI 6) dX8_isClasses_6 (by decide) ?_
    refine go_icmp_gt (tgt := 15) dX8_isClasses_8 (by decide) (fun c_8 => ?_) (fun c_8 => ?_)
    · skip
      rw [gtN (by decide)] at c_8
      have e : rI 1 6 x = false := by unfold rI; exact decide_eq_false (by omega)
      refine go_iconst (v := nI 0) dX8_isClasses_15 (by decide) ?_
      refine go_zret dX8_isClasses_16 rfl (by first | exact Or.inl rfl | exact Or.inr rfl) ?_
      rw [e]
      exact ⟨rfl, rfl, rfl⟩
    · skip
      rw [gtN (by decide)] at c_8
      have e : rI 1 6 x = true := by unfold rI; exact decide_eq_true (by omega)
      refine go_iconst (v := nI 1) dX8_isClasses_11 (by decide) ?_
      refine go_goto (tgt := 16) dX8_isClasses_12 (by decide) ?_
      refine go_zret dX8_isClasses_16 rfl (by first | exact Or.inl rfl | exact Or.inr rfl) ?_
      rw [e]
      exact ⟨rfl, rfl, rfl⟩
theorem run_isSide (d : Nat) {N : Nat} {h : gH} (x : Int32) : Run d yX8_isSide cX8_isSide 1 (some .boolean) [.int x] h N 0 0 (fun v h' N' => v = some (.int (bI (rI 0 9 x))) ∧ h' = h ∧ N' = N) := by
  refine Run.of (ini := false) (L := [_]) mX8_isSide (fun h => by cases h) rfl (Nat.le_of_ble_eq_true rfl) rfl ?_
  refine go_iload_n dX8_isSide_0 rfl ?_
  refine go_if_lt (tgt := 14) dX8_isSide_1 (by decide) (fun c_1 => ?_) (fun c_1 => ?_)
  · skip
    rw [lt0] at c_1
    have e : rI 0 9 x = false := by unfold rI; exact decide_eq_false (by omega)
    refine go_iconst (v := nI 0) dX8_isSide_14 (by decide) ?_
    refine go_zret dX8_isSide_15 rfl (by first | exact Or.inl rfl | exact Or.inr rfl) ?_
    rw [e]
    exact ⟨rfl, rfl, rfl⟩
  · skip
    rw [lt0] at c_1
    refine go_iload_n dX8_isSide_4 rfl ?_
    refine go_bipush (v := nI 10) dX8_isSide_5 (by decide) ?_
    refine go_icmp_ge (tgt := 14) dX8_isSide_7 (by decide) (fun c_7 => ?_) (fun c_7 => ?_)
    · skip
      rw [geN (by decide)] at c_7
      have e : rI 0 9 x = false := by unfold rI; exact decide_eq_false (by omega)
      refine go_iconst (v := nI 0) dX8_isSide_14 (by decide) ?_
      refine go_zret dX8_isSide_15 rfl (by first | exact Or.inl rfl | exact Or.inr rfl) ?_
      rw [e]
      exact ⟨rfl, rfl, rfl⟩
    · skip
      rw [geN (by decide)] at c_7
      have e : rI 0 9 x = true := by unfold rI; exact decide_eq_true (by omega)
      refine go_iconst (v := nI 1) dX8_isSide_10 (by decide) ?_
      refine go_goto (tgt := 15) dX8_isSide_11 (by decide) ?_
      refine go_zret dX8_isSide_15 rfl (by first | exact Or.inl rfl | exact Or.inr rfl) ?_
      rw [e]
      exact ⟨rfl, rfl, rfl⟩
/-- a place's cell: -1, if there is no such place -/
def cellI (r c : Int32) : Int32 := if (rI 0 9 r && rI 0 9 c) = true then r * nI 10 + c else -1
theorem cellI_no {r c : Int32} (h : (rI 0 9 r && rI 0 9 c) = false) : cellI r c = -1 := by unfold cellI; rw [h]; rfl
theorem cellI_yes {r c : Int32} (h : (rI 0 9 r && rI 0 9 c) = true) : ∃ i j, i ≤ 9 ∧ j ≤ 9 ∧ r = nI i ∧ c = nI j ∧ cellI r c = nI (10 * i + j) := by
  have h2 := h
  rw [Bool.and_eq_true] at h2
  obtain ⟨i, -, h3, rfl⟩ := rI_t h2.1
  obtain ⟨j, -, h4, rfl⟩ := rI_t h2.2
  refine ⟨i, j, h3, h4, rfl, rfl, ?_⟩
  unfold cellI
  rw [if_pos h, pk_mul, nI_add, Nat.mul_comm]
theorem run_cellOf (d : Nat) {N : Nat} {h : gH} (r c : Int32) : Run (d + 1) yX8_cellOf cX8_cellOf 2 (some .int) [.int r, .int c] h N 0 0 (fun v h' N' => v = some (.int (cellI r c)) ∧ h' = h ∧ N' = N) := by
  refine Run.of (ini := false) (L := [_, _]) mX8_cellOf (fun h => by cases h) rfl (Nat.le_of_ble_eq_true rfl) rfl ?_
  refine go_iload_n dX8_cellOf_0 rfl ?_
  refine go_is dX8_cellOf_1 mX8_isSide iX8_180 (run_isSide d r) rfl rfl (Nat.le_of_ble_eq_true rfl) (Nat.zero_le _) (Nat.zero_le _) (fun v_1 h_1 n_1 q_1 => ?_)
  obtain ⟨rfl, rfl, rfl⟩ := q_1
  refine go_if_eq (tgt := 23) dX8_cellOf_4 (by decide) (fun c_4 => ?_) (fun c_4 => ?_)
  · skip
    have e : cellI r c = -1 := cellI_no (by rw [bI_eq.mp c_4]; rfl)
    refine go_iconst (v := (-1)) dX8_cellOf_23 (by decide) ?_
    refine go_iret dX8_cellOf_24 rfl ?_
    rw [e]
    exact ⟨rfl, rfl, rfl⟩
  · skip
    refine go_iload_n dX8_cellOf_7 rfl ?_
    refine go_is dX8_cellOf_8 mX8_isSide iX8_180 (run_isSide d c) rfl rfl (Nat.le_of_ble_eq_true rfl) (Nat.zero_le _) (Nat.zero_le _) (fun v_8 h_8 n_8 q_8 => ?_)
    obtain ⟨rfl, rfl, rfl⟩ := q_8
    refine go_if_eq (tgt := 23) dX8_cellOf_11 (by decide) (fun c_11 => ?_) (fun c_11 => ?_)
    · skip
      have e : cellI r c = -1 := cellI_no (by rw [bI_eq.mp c_11, Bool.and_false])
      refine go_iconst (v := (-1)) dX8_cellOf_23 (by decide) ?_
      refine go_iret dX8_cellOf_24 rfl ?_
      rw [e]
      exact ⟨rfl, rfl, rfl⟩
    · skip
      have e : cellI r c = r * nI 10 + c := if_pos (by rw [bI_ne.mp c_4, bI_ne.mp c_11]; rfl)
      refine go_iload_n dX8_cellOf_14 rfl ?_
      refine go_bipush (v := nI 10) dX8_cellOf_15 (by decide) ?_
      refine go_imul dX8_cellOf_17 ?_
      refine go_iload_n dX8_cellOf_18 rfl ?_
      refine go_iadd dX8_cellOf_19 ?_
      refine go_goto (tgt := 24) dX8_cellOf_20 (by decide) ?_
      refine go_iret dX8_cellOf_24 rfl ?_
      rw [e]
      exact ⟨rfl, rfl, rfl⟩
/-! ===== tintOf ===== -/
def tint (a r : Nat) : Nat := if r < 2 then 255 else 255 - 255 * a / (r - 1)
theorem tint_fp : ∀ r, r < 7 → ∀ a, a < 7 → 2 ≤ r → a < r → vf_n32 (FP.fmul 1132396544 (FP.i2f (nI a))) ∧ vf_n32 (FP.fdiv (FP.fmul 1132396544 (FP.i2f (nI a))) (FP.i2f (nI r - nI 1))) ∧ nI 255 - FP.f2i (FP.fdiv (FP.fmul 1132396544 (FP.i2f (nI a))) (FP.i2f (nI r - nI 1))) = nI (tint a r) := by
  unfold vf_n32
  decide +kernel
theorem run_tintOf (d : Nat) {N a r : Nat} {h : gH} (hr : r ≤ 6) (ha : a < r) : Run d yX8_tintOf cX8_tintOf 2 (some .int) [.int (nI a), .int (nI r)] h N 0 0 (fun v h' N' => v = some (.int (nI (tint a r))) ∧ h' = h ∧ N' = N) := by
  refine Run.of (ini := false) (L := [_, _]) mX8_tintOf (fun h => by cases h) rfl (Nat.le_of_ble_eq_true rfl) rfl ?_
  refine go_iload_n dX8_tintOf_0 rfl ?_
  refine go_iconst (v := nI 2) dX8_tintOf_1 (by decide) ?_
  refine go_icmp_ge (tgt := 9) dX8_tintOf_2 (by decide) (fun c_2 => ?_) (fun c_2 => ?_)
  · skip
    have h2 : 2 ≤ r := (nI_leI (by decide) (by omega)).mp c_2
    have hfp := tint_fp r (by omega) a (by omega) h2 ha
    refine go_sipush (v := nI 255) dX8_tintOf_9 (by decide) ?_
    refine go_ldcf dX8_tintOf_12 kX8_183 ?_
    refine go_iload_n dX8_tintOf_14 rfl ?_
    refine go_i2f dX8_tintOf_15 ?_
    refine go_fmul dX8_tintOf_16 hfp.1 ?_
    refine go_iload_n dX8_tintOf_17 rfl ?_
    refine go_iconst (v := nI 1) dX8_tintOf_18 (by decide) ?_
    refine go_isub dX8_tintOf_19 ?_
    refine go_i2f dX8_tintOf_20 ?_
    refine go_fdiv dX8_tintOf_21 hfp.2.1 ?_
    refine go_f2i dX8_tintOf_22 ?_
    refine go_isub dX8_tintOf_23 ?_
    refine go_iret dX8_tintOf_24 rfl ?_
    exact ⟨by rw [hfp.2.2], rfl, rfl⟩
  · skip
    refine go_sipush (v := nI 255) dX8_tintOf_5 (by decide) ?_
    refine go_iret dX8_tintOf_8 rfl ?_
    have h2 : r < 2 := by have := mt (nI_leI (a := 2) (b := r) (by decide) (by omega)).mpr c_2; omega
    exact ⟨by rw [show tint a r = 255 by simp [tint, h2]], rfl, rfl⟩
/-! ===== the common divisor ===== -/
theorem lrem_N {a b : Nat} (ha : a < 2 ^ 63) (h0 : 0 < b) (hb : b < 2 ^ 63) : lN a - lN a / lN b * lN b = lN (a % b) := pk_lRem ha h0 hb
theorem gcd_half {b r : Nat} (h0 : 0 < r) (hr : r < b) : b % r ≤ (b - 1) / 2 := by
  have h1 := Nat.mod_lt b h0
  rcases Nat.lt_or_ge b (2 * r) with h | h
  · have e : b % r = b - r := by
      rw [Nat.mod_eq_sub_mod (by omega), Nat.mod_eq_of_lt (by omega)]
    omega
  · omega
theorem gcd_step (a b : Nat) : Nat.gcd a b = Nat.gcd b (a % b) := by rw [Nat.gcd_comm a b, Nat.gcd_rec b a, Nat.gcd_comm]
set_option maxRecDepth 100000 in
theorem cd_exit {d N a step : Nat} {h : gH} {x y : Int64} {w9 w10 : Option Value} (hs : step ≤ 100) : Go none RX8 cX8_commonDivisor 11 (some .long) false d 9 [some (.long x), none, some (.long y), none, some (.long (lN a)), none, some (.long (lN 0)), none, some (.int (nI step)), w9, w10] [] h N 0 0 (fun v h' N' => v = some (.long (lN a)) ∧ h' = h ∧ N' = N) := by
  refine go_iload dX8_commonDivisor_9 rfl ?_
  refine go_bipush (v := nI 100) dX8_commonDivisor_11 (by decide) ?_
  refine go_icmp_ge (tgt := 44) dX8_commonDivisor_13 (by decide) (fun c_13 => ?_) (fun c_13 => ?_)
  · skip
    refine go_lload dX8_commonDivisor_44 rfl ?_
    exact go_lret dX8_commonDivisor_46 rfl ⟨rfl, rfl, rfl⟩
  · skip
    refine go_lload dX8_commonDivisor_16 rfl ?_
    refine go_lconst (v := lN 0) dX8_commonDivisor_18 rfl ?_
    refine go_lcmp dX8_commonDivisor_19 ?_
    refine go_if_eq (tgt := 44) dX8_commonDivisor_20 (by decide) (fun c_20 => ?_) (fun c_20 => ?_)
    · skip
      refine go_lload dX8_commonDivisor_44 rfl ?_
      exact go_lret dX8_commonDivisor_46 rfl ⟨rfl, rfl, rfl⟩
    · exact absurd ((lg_cmp_eq _ _).mpr rfl) c_20
set_option maxRecDepth 100000 in
theorem cd_step {d N a b step : Nat} {h : gH} {x y : Int64} {w9 w10 : Option Value} {Q : Option Value → gH → Nat → Prop} (hs : step < 100) (ha : a < 2 ^ 63) (hb0 : 0 < b) (hb : b < 2 ^ 63)
    (k : ∀ w9 w10, Go none RX8 cX8_commonDivisor 11 (some .long) false d 9 [some (.long x), none, some (.long y), none, some (.long (lN b)), none, some (.long (lN (a % b))), none, some (.int (nI (step + 1))), w9, w10] [] h N 0 0 Q) : Go none RX8 cX8_commonDivisor 11 (some .long) false d 9 [some (.long x), none, some (.long y), none, some (.long (lN a)), none, some (.long (lN b)), none, some (.int (nI step)), w9, w10] [] h N 0 0 Q := by
  have hne : ¬ lN b = 0 := by
    intro q
    have := (pk_lEQ (a := b) (b := 0) hb (by decide)).mp q
    omega
  refine go_iload dX8_commonDivisor_9 rfl ?_
  refine go_bipush (v := nI 100) dX8_commonDivisor_11 (by decide) ?_
  refine go_icmp_ge (tgt := 44) dX8_commonDivisor_13 (by decide) (fun c_13 => ?_) (fun c_13 => ?_)
  · exact absurd c_13 (nI_ge hs (by decide))
  · skip
    refine go_lload dX8_commonDivisor_16 rfl ?_
    refine go_lconst (v := lN 0) dX8_commonDivisor_18 rfl ?_
    refine go_lcmp dX8_commonDivisor_19 ?_
    refine go_if_eq (tgt := 44) dX8_commonDivisor_20 (by decide) (fun c_20 => ?_) (fun c_20 => ?_)
    · exact absurd ((lg_cmp_eq _ _).mp c_20) hne
    · skip
      refine go_lload dX8_commonDivisor_23 rfl ?_
      refine go_lload dX8_commonDivisor_25 rfl ?_
      refine go_lrem dX8_commonDivisor_27 hne ?_
      refine go_top (y := .long (lN (a % b))) (by rw [lrem_N ha hb0 hb]) ?_
      refine go_lstore (L' := [_, _, _, _, _, _, _, _, _, _, _]) dX8_commonDivisor_28 (by decide) rfl ?_
      refine go_lload dX8_commonDivisor_30 rfl ?_
      refine go_lstore (L' := [_, _, _, _, _, _, _, _, _, _, _]) dX8_commonDivisor_32 (by decide) rfl ?_
      refine go_lload dX8_commonDivisor_34 rfl ?_
      refine go_lstore (L' := [_, _, _, _, _, _, _, _, _, _, _]) dX8_commonDivisor_36 (by decide) rfl ?_
      refine go_inc (L' := [_, _, _, _, _, _, _, _, _, _, _]) dX8_commonDivisor_38 rfl (by decide) rfl ?_
      refine go_goto (tgt := 9) dX8_commonDivisor_41 (by decide) ?_
      exact k _ _
theorem cd_loop {d N : Nat} {h : gH} {x y : Int64} : ∀ (k a b step : Nat) (w9 w10 : Option Value), b < 2 ^ k → step + 2 * k ≤ 100 → a < 2 ^ 63 → b < 2 ^ 63 → Go none RX8 cX8_commonDivisor 11 (some .long) false d 9 [some (.long x), none, some (.long y), none, some (.long (lN a)), none, some (.long (lN b)), none, some (.int (nI step)), w9, w10] [] h N 0 0 (fun v h' N' => v = some (.long (lN (Nat.gcd a b))) ∧ h' = h ∧ N' = N) := by
  intro k
  induction k with
  | zero =>
    intro a b step w9 w10 hb hs ha hb3
    have e : b = 0 := by simpa using hb
    subst e
    rw [Nat.gcd_zero_right]
    exact cd_exit (by omega)
  | succ k ih =>
    intro a b step w9 w10 hb hs ha hb3
    rcases Nat.eq_zero_or_pos b with e | h0
    · subst e
      rw [Nat.gcd_zero_right]
      exact cd_exit (by omega)
    · refine cd_step (by omega) ha h0 hb3 fun w9 w10 => ?_
      rw [gcd_step]
      have hr := Nat.mod_lt a h0
      rcases Nat.eq_zero_or_pos (a % b) with e | h1
      · rw [e, Nat.gcd_zero_right]
        exact cd_exit (by omega)
      · refine cd_step (by omega) hb3 h1 (by omega) fun w9 w10 => ?_
        rw [gcd_step]
        have h2 := gcd_half h1 hr
        rw [Nat.pow_succ] at hb
        exact ih _ _ (step + 2) _ _ (by omega) (by omega) (by omega) (by omega)
theorem run_commonDivisor (d : Nat) {N p : Nat} {h : gH} (hp : p < 2 ^ 63) : Run d yX8_commonDivisor cX8_commonDivisor 11 (some .long) [.long (lN p), .long 5354228880] h N 0 0 (fun v h' N' => v = some (.long (lN (Nat.gcd p 5354228880))) ∧ h' = h ∧ N' = N) := by
  refine Run.of (ini := false) (L := [_, _, _, _, _, _, _, _, _, _, _]) mX8_commonDivisor (fun h => by cases h) rfl (Nat.le_of_ble_eq_true rfl) rfl ?_
  refine go_lload_n dX8_commonDivisor_0 rfl ?_
  refine go_lstore (L' := [_, _, _, _, _, _, _, _, _, _, _]) dX8_commonDivisor_1 (by decide) rfl ?_
  refine go_lload_n dX8_commonDivisor_3 rfl ?_
  refine go_lstore (L' := [_, _, _, _, _, _, _, _, _, _, _]) dX8_commonDivisor_4 (by decide) rfl ?_
  refine go_iconst (v := nI 0) dX8_commonDivisor_6 (by decide) ?_
  refine go_istore (L' := [_, _, _, _, _, _, _, _, _, _, _]) dX8_commonDivisor_7 (by decide) rfl ?_
  exact cd_loop 33 p 5354228880 0 none none (by decide) (by omega) hp (by decide)
theorem run_inLeastTerms (d : Nat) {N p : Nat} {h : gH} (hp : p < 2 ^ 63) (u : Bool) : Run (d + 1) yX8_inLeastTerms cX8_inLeastTerms 5 (some .long) [.long (lN p), .int (bI u)] h N 0 0 (fun v h' N' => v = some (.long (lN ((if u = true then p else 5354228880) / Nat.gcd p 5354228880))) ∧ h' = h ∧ N' = N) := by
  have hg0 : 0 < Nat.gcd p 5354228880 := Nat.gcd_pos_of_pos_right p (by decide)
  have hg1 : Nat.gcd p 5354228880 ≤ 5354228880 := Nat.le_of_dvd (by decide) (Nat.gcd_dvd_right p 5354228880)
  have hne : ¬ lN (Nat.gcd p 5354228880) = 0 := by
    intro q
    have := (pk_lEQ (a := Nat.gcd p 5354228880) (b := 0) (by omega) (by decide)).mp q
    omega
  refine Run.of (ini := false) (L := [_, _, _, _, _]) mX8_inLeastTerms (fun h => by cases h) rfl (Nat.le_of_ble_eq_true rfl) rfl ?_
  refine go_lload_n dX8_inLeastTerms_0 rfl ?_
  refine go_ldc2 dX8_inLeastTerms_1 kX8_184 ?_
  refine go_is dX8_inLeastTerms_4 mX8_commonDivisor iX8_186 (run_commonDivisor d hp) rfl rfl (Nat.le_of_ble_eq_true rfl) (Nat.zero_le _) (Nat.zero_le _) (fun v_4 h_4 n_4 q_4 => ?_)
  obtain ⟨rfl, rfl, rfl⟩ := q_4
  refine go_lstore_n (L' := [_, _, _, _, _]) dX8_inLeastTerms_7 rfl (by decide) rfl ?_
  refine go_lload_n dX8_inLeastTerms_8 rfl ?_
  refine go_lconst (v := lN 1) dX8_inLeastTerms_9 rfl ?_
  refine go_lcmp dX8_inLeastTerms_10 ?_
  refine go_if_ge (tgt := 18) dX8_inLeastTerms_11 (by decide) (fun c_11 => ?_) (fun c_11 => ?_)
  · skip
    refine go_iload_n dX8_inLeastTerms_18 rfl ?_
    refine go_if_eq (tgt := 26) dX8_inLeastTerms_19 (by decide) (fun c_19 => ?_) (fun c_19 => ?_)
    · skip
      have e := bI_eq.mp c_19
      refine go_ldc2 dX8_inLeastTerms_26 kX8_184 ?_
      refine go_lload_n dX8_inLeastTerms_29 rfl ?_
      refine go_ldiv dX8_inLeastTerms_30 hne ?_
      refine go_lret dX8_inLeastTerms_31 rfl ?_
      rw [e]
      refine ⟨?_, rfl, rfl⟩
      first | rw [if_neg (by decide), ← pk_lDiv (a := 5354228880) (by decide) hg0 (by omega)]; rfl | rw [if_pos rfl, ← pk_lDiv hp hg0 (by omega)]
    · skip
      have e := bI_ne.mp c_19
      refine go_lload_n dX8_inLeastTerms_22 rfl ?_
      refine go_goto (tgt := 29) dX8_inLeastTerms_23 (by decide) ?_
      refine go_lload_n dX8_inLeastTerms_29 rfl ?_
      refine go_ldiv dX8_inLeastTerms_30 hne ?_
      refine go_lret dX8_inLeastTerms_31 rfl ?_
      rw [e]
      refine ⟨?_, rfl, rfl⟩
      first | rw [if_neg (by decide), ← pk_lDiv (a := 5354228880) (by decide) hg0 (by omega)]; rfl | rw [if_pos rfl, ← pk_lDiv hp hg0 (by omega)]
  · exact absurd ((lg_cmp_ge _ _).mpr ((pk_lLE (a := 1) (b := Nat.gcd p 5354228880) (by decide) (by omega)).mpr hg0)) c_11
/-! ===== Parting ===== -/
/-- a parting: runs, where they begin, spread -/
abbrev PD : Type := Nat × (Nat → Nat) × Int64
def Pg (h : gH) (i : Nat) (q : PD) : Prop := ∃ F : Nat → Int32, h i = .inr (5, [.ref (i + 1), .int (nI q.1), .long q.2.2]) ∧ h (i + 1) = .inl (0, 6, .inl F) ∧ q.1 ≤ 6 ∧ (∀ x, x < q.1 → F x = nI (q.2.1 x))
theorem Pg.kept {h h' : gH} {i : Nat} {c : PD} (hC : Pg h i c) (h0 : h' i = h i) (h1 : h' (i + 1) = h (i + 1)) : Pg h' i c := by
  obtain ⟨F, q⟩ := hC
  exact ⟨F, by rw [h0, h1]; exact q⟩
theorem Pg.fr {h h' : gH} {lo hi i : Nat} {c : PD} (hC : Pg h i c) (f : Fr lo hi h h') (hx : i + 1 < lo ∨ hi ≤ i) : Pg h' i c := hC.kept (f _ (by omega)) (f _ (by omega))
theorem run_parting (d : Nat) {i : Nat} {h : gH} (h0 : h i = .inr (5, [.null, .int 0, .long 0])) : Run (d + 1) yX5_init cX5_init 1 none [.ref i] h (i + 1) 1 6 (fun v h' N' => v = none ∧ N' = i + 2 ∧ Pg h' i (0, fun _ => 0, 0) ∧ Fr i (i + 2) h h') := by
  refine Run.of (ini := true) (L := [_]) mX5_init (fun h => rfl) rfl (Nat.le_of_ble_eq_true rfl) rfl ?_
  refine go_aload_n dX5_init_0 rfl ?_
  refine go_obj dX5_init_1 oX5 (Nat.le_of_ble_eq_true rfl) ?_
  refine go_aload_n dX5_init_4 rfl ?_
  refine go_bipush (v := nI 6) dX5_init_5 (by decide) ?_
  refine go_newI (n := 6) dX5_init_7 rfl (by omega) (by decide) (by decide) ?_
  refine go_put (fs' := [_, _, _]) dX5_init_9 fX5_9 (by omega) ((hset_ne (by omega)).trans h0) (Nat.le_of_ble_eq_true rfl) rfl ⟨_, _, _, rfl, Or.inr ⟨rfl, rfl, rfl⟩⟩ rfl ?_
  refine go_vret dX5_init_12 rfl ?_
  refine ⟨rfl, rfl, ⟨fun _ => 0, hset_same, (hset_ne (by omega)).trans hset_same, by decide, fun x hx => absurd hx (by omega)⟩, (Fr.rf.set (by omega) (by omega)).set (by omega) (by omega)⟩
theorem run_beginOf (d : Nat) {N i k : Nat} {h : gH} {q : PD} (hi : i + 1 < N) (hk : k < q.1) (hP : Pg h i q) : Run d yX5_beginOf cX5_beginOf 2 (some .int) [.ref i, .int (nI k)] h N 0 0 (fun v h' N' => v = some (.int (nI (q.2.1 k))) ∧ h' = h ∧ N' = N) := by
  obtain ⟨F, h0, h1, h6, hf⟩ := hP
  refine Run.of (ini := false) (L := [_, _]) mX5_beginOf (fun h => by cases h) rfl (Nat.le_of_ble_eq_true rfl) rfl ?_
  refine go_iload_n dX5_beginOf_0 rfl ?_
  refine go_if_lt (tgt := 27) dX5_beginOf_1 (by decide) (fun c_1 => ?_) (fun c_1 => ?_)
  · exact absurd c_1 (nI_pos (by omega))
  · skip
    refine go_iload_n dX5_beginOf_4 rfl ?_
    refine go_aload_n dX5_beginOf_5 rfl ?_
    refine go_get dX5_beginOf_6 fX5_15 (by omega) h0 rfl ?_
    refine go_icmp_ge (tgt := 27) dX5_beginOf_9 (by decide) (fun c_9 => ?_) (fun c_9 => ?_)
    · exact absurd c_9 (nI_ge hk (by omega))
    · skip
      refine go_iload_n dX5_beginOf_12 rfl ?_
      refine go_bipush (v := nI 6) dX5_beginOf_13 (by decide) ?_
      refine go_icmp_ge (tgt := 27) dX5_beginOf_15 (by decide) (fun c_15 => ?_) (fun c_15 => ?_)
      · exact absurd c_15 (nI_ge (by omega) (by omega))
      · skip
        refine go_aload_n dX5_beginOf_18 rfl ?_
        refine go_get dX5_beginOf_19 fX5_9 (by omega) h0 rfl ?_
        refine go_iload_n dX5_beginOf_22 rfl ?_
        refine go_iald dX5_beginOf_23 (by omega) h1 rfl (by omega) (by omega) ?_
        refine go_goto (tgt := 29) dX5_beginOf_24 (by decide) ?_
        refine go_iret dX5_beginOf_29 rfl ?_
        exact ⟨by rw [hf k hk], rfl, rfl⟩
/-- the run in which a place of SORTED lies: as long as the next one begins no later -/
def rO (P : Nat → Bool) (r : Nat) : Nat → Nat → Nat
  | 0, run => run
  | m + 1, run => if run + 1 < r ∧ P (run + 1) = true then rO P r m (run + 1) else run
theorem rO_lt {P : Nat → Bool} {r : Nat} : ∀ (m run : Nat), run < r → rO P r m run < r
  | 0, run, h => h
  | m + 1, run, h => by
    unfold rO
    split
    · next q => exact rO_lt m (run + 1) q.1
    · exact h
set_option maxRecDepth 100000 in
theorem runOf_loop {d N i k : Nat} {h : gH} {q : PD} (hi : i + 1 < N) (hk : k < 2 ^ 31) (hB : ∀ x, x < q.1 → q.2.1 x < 2 ^ 31) (hP : Pg h i q) : ∀ (m run : Nat), q.1 ≤ run + 1 + m → run ≤ q.1 → Go none RX5 cX5_runOf 3 (some .int) false (d + 1) 2 [some (.ref i), some (.int (nI k)), some (.int (nI run))] [] h N 0 0 (fun v h' N' => v = some (.int (nI (rO (fun j => decide (q.2.1 j ≤ k)) q.1 m run))) ∧ h' = h ∧ N' = N) := by
  intro m
  obtain ⟨F, h0, h1, h6, hf⟩ := id hP
  induction m with
  | zero =>
    intro run hr h2
    refine go_iload_n dX5_runOf_2 rfl ?_
    refine go_iconst (v := nI 1) dX5_runOf_3 (by decide) ?_
    refine go_iadd dX5_runOf_4 ?_
    refine go_top (y := .int (nI (run + 1))) (by rw [nI_add]) ?_
    refine go_aload_n dX5_runOf_5 rfl ?_
    refine go_get dX5_runOf_6 fX5_15 (by omega) h0 rfl ?_
    refine go_icmp_ge (tgt := 29) dX5_runOf_9 (by decide) (fun c_9 => ?_) (fun c_9 => ?_)
    · skip
      refine go_iload_n dX5_runOf_29 rfl ?_
      exact go_iret dX5_runOf_30 rfl ⟨rfl, rfl, rfl⟩
    · exact absurd (nI_le (by omega) (by omega)) c_9
  | succ m ih =>
    intro run hr h2
    refine go_iload_n dX5_runOf_2 rfl ?_
    refine go_iconst (v := nI 1) dX5_runOf_3 (by decide) ?_
    refine go_iadd dX5_runOf_4 ?_
    refine go_top (y := .int (nI (run + 1))) (by rw [nI_add]) ?_
    refine go_aload_n dX5_runOf_5 rfl ?_
    refine go_get dX5_runOf_6 fX5_15 (by omega) h0 rfl ?_
    refine go_icmp_ge (tgt := 29) dX5_runOf_9 (by decide) (fun c_9 => ?_) (fun c_9 => ?_)
    · skip
      have e := (nI_leI (by omega) (by omega)).mp c_9
      refine go_iload_n dX5_runOf_29 rfl ?_
      refine go_iret dX5_runOf_30 rfl ?_
      first | exact ⟨by rw [rO, if_neg (by omega)], rfl, rfl⟩ | exact ⟨by rw [rO, if_neg (by simp; omega)], rfl, rfl⟩
    · skip
      have e : run + 1 < q.1 := by have := mt (nI_leI (a := q.1) (b := run + 1) (by omega) (by omega)).mpr c_9; omega
      refine go_aload_n dX5_runOf_12 rfl ?_
      refine go_iload_n dX5_runOf_13 rfl ?_
      refine go_iconst (v := nI 1) dX5_runOf_14 (by decide) ?_
      refine go_iadd dX5_runOf_15 ?_
      refine go_top (y := .int (nI (run + 1))) (by rw [nI_add]) ?_
      refine go_iv dX5_runOf_16 mX5_beginOf iX5_19 (run_beginOf d hi e hP) rfl rfl (by omega) h0 rfl (Nat.le_of_ble_eq_true rfl) (Nat.zero_le _) (Nat.zero_le _) (fun v_16 h_16 n_16 q_16 => ?_)
      obtain ⟨rfl, rfl, rfl⟩ := q_16
      refine go_iload_n dX5_runOf_19 rfl ?_
      refine go_icmp_gt (tgt := 29) dX5_runOf_20 (by decide) (fun c_20 => ?_) (fun c_20 => ?_)
      · skip
        have e2 := (nI_ltI hk (hB _ e)).mp c_20
        refine go_iload_n dX5_runOf_29 rfl ?_
        refine go_iret dX5_runOf_30 rfl ?_
        first | exact ⟨by rw [rO, if_neg (by omega)], rfl, rfl⟩ | exact ⟨by rw [rO, if_neg (by simp; omega)], rfl, rfl⟩
      · skip
        have e2 : q.2.1 (run + 1) ≤ k := by have := mt (nI_ltI (a := k) (b := q.2.1 (run + 1)) hk (hB _ e)).mpr c_20; omega
        refine go_inc (L' := [_, _, _]) dX5_runOf_23 rfl (by decide) rfl ?_
        refine go_goto (tgt := 2) dX5_runOf_26 (by decide) ?_
        rw [show rO (fun j => decide (q.2.1 j ≤ k)) q.1 (m + 1) run = rO (fun j => decide (q.2.1 j ≤ k)) q.1 m (run + 1) by rw [rO, if_pos ⟨e, by simpa using e2⟩]]
        exact ih (run + 1) (by omega) (by omega)
theorem run_runOf (d : Nat) {N i k : Nat} {h : gH} {q : PD} (hi : i + 1 < N) (hk : k < 2 ^ 31) (hB : ∀ x, x < q.1 → q.2.1 x < 2 ^ 31) (hP : Pg h i q) : Run (d + 1) yX5_runOf cX5_runOf 3 (some .int) [.ref i, .int (nI k)] h N 0 0 (fun v h' N' => v = some (.int (nI (rO (fun j => decide (q.2.1 j ≤ k)) q.1 q.1 0))) ∧ h' = h ∧ N' = N) := by
  refine Run.of (ini := false) (L := [_, _, _]) mX5_runOf (fun h => by cases h) rfl (Nat.le_of_ble_eq_true rfl) rfl ?_
  refine go_iconst (v := nI 0) dX5_runOf_0 (by decide) ?_
  refine go_istore_n (L' := [_, _, _]) dX5_runOf_1 rfl (by decide) rfl ?_
  exact runOf_loop hi hk hB hP q.1 0 (by omega) (by omega)
end
section
/-! ===== History: cell 4, its array 5, its charts 6, 9 .. 33 ===== -/
def Hs (h : gH) (nx kn : Nat) (H : Nat → CD) : Prop := ∃ R : Nat → Option Nat, h 4 = .inr (1, [.ref 5, .int (nI nx), .int (nI kn)]) ∧ h 5 = .inl (3, 10, .inr (.inr (.inr (.inr R)))) ∧ (∀ i, i < 10 → R i = some (6 + 3 * i)) ∧ ∀ i, i < 10 → Ct h (6 + 3 * i) (H i)
theorem Hs.fr {h h' : gH} {lo hi nx kn : Nat} {H : Nat → CD} (q : Hs h nx kn H) (f : Fr lo hi h h') (hx : 36 ≤ lo ∨ hi ≤ 4) : Hs h' nx kn H := by
  obtain ⟨R, h0, h1, h2, h3⟩ := q
  exact ⟨R, (f _ (by omega)).trans h0, (f _ (by omega)).trans h1, h2, fun i hi => (h3 i hi).fr f (by omega)⟩
def updH (H : Nat → CD) (k : Nat) (c : CD) : Nat → CD := fun j => if j = k then c else H j
set_option maxRecDepth 100000 in
theorem run_remember (d : Nat) {N nx kn : Nat} {h : gH} {H : Nat → CD} {c : CD} (hN : 36 ≤ N) (hx : nx < 10) (hk : kn ≤ 10) (hH : Hs h nx kn H) (hC : Ct h 1 c) : Run (d + 2) yX1_remember cX1_remember 2 none [.ref 4, .ref 1] h N 0 0 (fun v h' N' => v = none ∧ N' = N ∧ Hs h' ((nx + 1) % 10) (min (kn + 1) 10) (updH H nx c) ∧ Fr 4 36 h h') := by
  obtain ⟨R, h0, h1, h2, h3⟩ := id hH
  obtain ⟨F, G, g0, -⟩ := id (h3 nx hx)
  refine Run.of (ini := false) (L := [_, _]) mX1_remember (fun h => by cases h) rfl (Nat.le_of_ble_eq_true rfl) rfl ?_
  refine go_aload_n dX1_remember_0 rfl ?_
  refine go_get dX1_remember_1 fX1_11 (by omega) h0 rfl ?_
  refine go_aload_n dX1_remember_4 rfl ?_
  refine go_get dX1_remember_5 fX1_18 (by omega) h0 rfl ?_
  refine go_aald dX1_remember_8 (by omega) h1 (by decide) (by decide) rfl hx (by omega) (h2 nx hx) ?_
  refine go_aload_n dX1_remember_9 rfl ?_
  refine go_iv dX1_remember_10 mX0_become iX1_22 (run_become d (by omega) (by omega) (by omega) (h3 nx hx) hC) rfl rfl (by omega) g0 rfl (Nat.le_of_ble_eq_true rfl) (Nat.zero_le _) (Nat.zero_le _) (fun v_10 h_10 n_10 q_10 => ?_)
  obtain ⟨rfl, rfl, hCn, hF⟩ := q_10
  have k0 := (hF 4 (by omega)).trans h0
  refine go_aload_n dX1_remember_13 rfl ?_
  refine go_aload_n dX1_remember_14 rfl ?_
  refine go_get dX1_remember_15 fX1_18 (by omega) k0 rfl ?_
  refine go_iconst (v := nI 1) dX1_remember_18 (by decide) ?_
  refine go_iadd dX1_remember_19 ?_
  refine go_top (y := .int (nI (nx + 1))) (by rw [nI_add]) ?_
  refine go_bipush (v := nI 10) dX1_remember_20 (by decide) ?_
  refine go_irem dX1_remember_22 (by decide) ?_
  refine go_top (y := .int (nI ((nx + 1) % 10))) (by rw [pk_rem (by omega) (by decide) (by decide)]) ?_
  refine go_put (fs' := [_, _, _]) dX1_remember_23 fX1_18 (by omega) k0 (Nat.le_of_ble_eq_true rfl) (Or.inl rfl) ⟨_, _, _, rfl, Or.inl rfl⟩ rfl ?_
  refine go_aload_n dX1_remember_26 rfl ?_
  refine go_aload_n dX1_remember_27 rfl ?_
  refine go_get dX1_remember_28 fX1_26 (by omega) hset_same rfl ?_
  refine go_iconst (v := nI 1) dX1_remember_31 (by decide) ?_
  refine go_iadd dX1_remember_32 ?_
  refine go_top (y := .int (nI (kn + 1))) (by rw [nI_add]) ?_
  refine go_bipush (v := nI 10) dX1_remember_33 (by decide) ?_
  refine go_min dX1_remember_35 iX1_29 (Nat.le_of_ble_eq_true rfl) ?_
  refine go_top (y := .int (nI (min (kn + 1) 10))) ?_ ?_
  · by_cases e : 10 < kn + 1
    · rw [if_pos (nI_lt e (by omega)), show min (kn + 1) 10 = 10 by omega]
    · rw [if_neg (nI_nlt (by omega) (by decide)), show min (kn + 1) 10 = kn + 1 by omega]
  refine go_put (fs' := [_, _, _]) dX1_remember_38 fX1_26 (by omega) hset_same (Nat.le_of_ble_eq_true rfl) (Or.inl rfl) ⟨_, _, _, rfl, Or.inl rfl⟩ rfl ?_
  refine go_vret dX1_remember_41 rfl ?_
  rw [hset_hset]
  have hz : ∀ y, ∀ x, x ≠ 4 → hset h_10 4 y x = h_10 x := fun y x hx => hset_ne hx
  refine ⟨rfl, rfl, ⟨R, hset_same, (hz _ _ (by omega)).trans ((hF 5 (by omega)).trans h1), h2, fun i hi => ?_⟩, (hF.wide (by omega) (by omega)).set (by omega) (by omega)⟩
  by_cases e : i = nx
  · subst e
    rw [updH, if_pos rfl]
    exact hCn.kept (hz _ _ (by omega)) (hz _ _ (by omega)) (hz _ _ (by omega))
  · rw [updH, if_neg e]
    exact ((h3 i hi).fr hF (by omega)).kept (hz _ _ (by omega)) (hz _ _ (by omega)) (hz _ _ (by omega))
set_option maxRecDepth 100000 in
theorem run_recall (d : Nat) {N nx kn : Nat} {h : gH} {H : Nat → CD} {c : CD} (hN : 36 ≤ N) (hx : nx < 10) (hk0 : 0 < kn) (hk : kn ≤ 10) (hH : Hs h nx kn H) (hC : Ct h 1 c) : Run (d + 2) yX1_recall cX1_recall 2 none [.ref 4, .ref 1] h N 0 0 (fun v h' N' => v = none ∧ N' = N ∧ Hs h' ((nx + 9) % 10) (kn - 1) H ∧ Ct h' 1 (H ((nx + 9) % 10)) ∧ Fr 1 5 h h') := by
  obtain ⟨R, h0, h1, h2, h3⟩ := id hH
  obtain ⟨F, G, g0, -⟩ := id hC
  have hy : (nx + 9) % 10 < 10 := Nat.mod_lt _ (by decide)
  refine Run.of (ini := false) (L := [_, _]) mX1_recall (fun h => by cases h) rfl (Nat.le_of_ble_eq_true rfl) rfl ?_
  refine go_aload_n dX1_recall_0 rfl ?_
  refine go_aload_n dX1_recall_1 rfl ?_
  refine go_get dX1_recall_2 fX1_18 (by omega) h0 rfl ?_
  refine go_bipush (v := nI 10) dX1_recall_5 (by decide) ?_
  refine go_iadd dX1_recall_7 ?_
  refine go_top (y := .int (nI (nx + 10))) (by rw [nI_add]) ?_
  refine go_iconst (v := nI 1) dX1_recall_8 (by decide) ?_
  refine go_isub dX1_recall_9 ?_
  refine go_top (y := .int (nI (nx + 9))) (by rw [pk_sub (by omega)]; rfl) ?_
  refine go_bipush (v := nI 10) dX1_recall_10 (by decide) ?_
  refine go_irem dX1_recall_12 (by decide) ?_
  refine go_top (y := .int (nI ((nx + 9) % 10))) (by rw [pk_rem (by omega) (by decide) (by decide)]) ?_
  refine go_put (fs' := [_, _, _]) dX1_recall_13 fX1_18 (by omega) h0 (Nat.le_of_ble_eq_true rfl) (Or.inl rfl) ⟨_, _, _, rfl, Or.inl rfl⟩ rfl ?_
  refine go_aload_n dX1_recall_16 rfl ?_
  refine go_aload_n dX1_recall_17 rfl ?_
  refine go_get dX1_recall_18 fX1_11 (by omega) hset_same rfl ?_
  refine go_aload_n dX1_recall_21 rfl ?_
  refine go_get dX1_recall_22 fX1_18 (by omega) hset_same rfl ?_
  refine go_aald dX1_recall_25 (by omega) ((hset_ne (by omega)).trans h1) (by decide) (by decide) rfl hy (by omega) (h2 _ hy) ?_
  have hz : ∀ y, ∀ x, x ≠ 4 → hset h 4 y x = h x := fun y x hx => hset_ne hx
  refine go_iv dX1_recall_26 mX0_become iX1_22 (run_become d (i := 1) (j := 6 + 3 * ((nx + 9) % 10)) (by omega) (by omega) (by omega) (hC.kept (hz _ _ (by omega)) (hz _ _ (by omega)) (hz _ _ (by omega))) ((h3 _ hy).kept (hz _ _ (by omega)) (hz _ _ (by omega)) (hz _ _ (by omega)))) rfl rfl (by omega) ((hz _ 1 (by omega)).trans g0) rfl (Nat.le_of_ble_eq_true rfl) (Nat.zero_le _) (Nat.zero_le _) (fun v_26 h_26 n_26 q_26 => ?_)
  obtain ⟨rfl, rfl, hCn, hF⟩ := q_26
  have k0 := (hF 4 (by omega)).trans hset_same
  refine go_aload_n dX1_recall_29 rfl ?_
  refine go_aload_n dX1_recall_30 rfl ?_
  refine go_get dX1_recall_31 fX1_26 (by omega) k0 rfl ?_
  refine go_iconst (v := nI 1) dX1_recall_34 (by decide) ?_
  refine go_isub dX1_recall_35 ?_
  refine go_top (y := .int (nI (kn - 1))) (by rw [pk_sub (by omega)]) ?_
  refine go_iconst (v := nI 0) dX1_recall_36 (by decide) ?_
  refine go_max dX1_recall_37 iX1_35 (Nat.le_of_ble_eq_true rfl) ?_
  refine go_top (y := .int (nI (kn - 1))) (by rw [if_neg (nI_nlt (by omega) (by omega))]) ?_
  refine go_put (fs' := [_, _, _]) dX1_recall_40 fX1_26 (by omega) k0 (Nat.le_of_ble_eq_true rfl) (Or.inl rfl) ⟨_, _, _, rfl, Or.inl rfl⟩ rfl ?_
  refine go_vret dX1_recall_43 rfl ?_
  have hz2 : ∀ y, ∀ x, x ≠ 4 → hset h_26 4 y x = h_26 x := fun y x hx => hset_ne hx
  refine ⟨rfl, rfl, ⟨R, hset_same, (hz2 _ _ (by omega)).trans ((hF 5 (by omega)).trans ((hz _ _ (by omega)).trans h1)), h2, fun i hi => ?_⟩, hCn.kept (hz2 _ _ (by omega)) (hz2 _ _ (by omega)) (hz2 _ _ (by omega)), fun x hx => (hz2 _ x (by omega)).trans ((hF x (by omega)).trans (hz _ x (by omega)))⟩
  have e1 : Ct h_26 (6 + 3 * i) (H i) := ((h3 i hi).kept (hz _ _ (by omega)) (hz _ _ (by omega)) (hz _ _ (by omega))).fr hF (by omega)
  exact e1.kept (hz2 _ _ (by omega)) (hz2 _ _ (by omega)) (hz2 _ _ (by omega))
theorem run_hforget (d : Nat) {N nx kn : Nat} {h : gH} {H : Nat → CD} (hN : 36 ≤ N) (hH : Hs h nx kn H) : Run d yX1_forget cX1_forget 1 none [.ref 4] h N 0 0 (fun v h' N' => v = none ∧ N' = N ∧ Hs h' nx 0 H ∧ Fr 4 5 h h') := by
  obtain ⟨R, h0, h1, h2, h3⟩ := id hH
  refine Run.of (ini := false) (L := [_]) mX1_forget (fun h => by cases h) rfl (Nat.le_of_ble_eq_true rfl) rfl ?_
  refine go_aload_n dX1_forget_0 rfl ?_
  refine go_iconst (v := nI 0) dX1_forget_1 (by decide) ?_
  refine go_put (fs' := [_, _, _]) dX1_forget_2 fX1_26 (by omega) h0 (Nat.le_of_ble_eq_true rfl) (Or.inl rfl) ⟨_, _, _, rfl, Or.inl rfl⟩ rfl ?_
  refine go_vret dX1_forget_5 rfl ?_
  have hz : ∀ y, ∀ x, x ≠ 4 → hset h 4 y x = h x := fun y x hx => hset_ne hx
  exact ⟨rfl, rfl, ⟨R, hset_same, (hz _ _ (by omega)).trans h1, h2, fun i hi => (h3 i hi).kept (hz _ _ (by omega)) (hz _ _ (by omega)) (hz _ _ (by omega))⟩, Fr.rf.set (by omega) (by omega)⟩
set_option maxRecDepth 100000 in
theorem hist_loop {d : Nat} : ∀ (m k : Nat) (h : gH) (R : Nat → Option Nat), k + m = 10 → h 4 = .inr (1, [.ref 5, .int 0, .int 0]) → h 5 = .inl (3, 10, .inr (.inr (.inr (.inr R)))) → (∀ i, i < k → R i = some (6 + 3 * i)) → (∀ i, i < k → Ct h (6 + 3 * i) c0) → Go none RX1 cX1_init 2 none true (d + 3) 15 [some (.ref 4), some (.int (nI k))] [] h (6 + 3 * k) (3 * m) (110 * m) (fun v h' N' => v = none ∧ N' = 36 ∧ Hs h' 0 0 (fun _ => c0) ∧ Fr 4 36 h h') := by
  intro m
  induction m with
  | zero =>
    intro k h R hk h0 h1 h2 h3
    have e : k = 10 := by omega
    subst e
    refine go_iload_n dX1_init_15 rfl ?_
    refine go_bipush (v := nI 10) dX1_init_16 (by decide) ?_
    refine go_icmp_ge (tgt := 40) dX1_init_18 (by decide) (fun c_18 => ?_) (fun c_18 => ?_)
    · skip
      refine go_vret dX1_init_40 rfl ?_
      exact ⟨rfl, rfl, ⟨R, h0, h1, h2, h3⟩, Fr.rf⟩
    · exact absurd (nI_le (Nat.le_refl _) (by decide)) c_18
  | succ m ih =>
    intro k h R hk h0 h1 h2 h3
    refine go_iload_n dX1_init_15 rfl ?_
    refine go_bipush (v := nI 10) dX1_init_16 (by decide) ?_
    refine go_icmp_ge (tgt := 40) dX1_init_18 (by decide) (fun c_18 => ?_) (fun c_18 => ?_)
    · exact absurd c_18 (nI_ge (by omega) (by decide))
    · skip
      refine go_aload_n dX1_init_21 rfl ?_
      refine go_get dX1_init_22 fX1_11 (by omega) h0 rfl ?_
      refine go_iload_n dX1_init_25 rfl ?_
      refine go_new (ci := 0) (fs := [.null, .null, .int 0, .int 0, .int 0]) dX1_init_26 nX1_9 rfl bX0 in_X0 (fun j hj => by rcases (show j = 0 ∨ j = 1 ∨ j = 2 ∨ j = 3 ∨ j = 4 by omega) with rfl | rfl | rfl | rfl | rfl <;> rfl) (fun _ _ => rfl) (by omega) (by omega) ?_
      refine go_dup dX1_init_29 rfl ?_
      refine go_ii dX1_init_30 mX0_init iX1_17 (run_chart d (i := 6 + 3 * k) hset_same) rfl rfl (Nat.le_of_ble_eq_true rfl) (by omega) (by omega) (fun v_30 h_30 n_30 q_30 => ?_)
      obtain ⟨rfl, rfl, hCn, hF⟩ := q_30
      have hz : ∀ x, x < 6 + 3 * k → h_30 x = h x := fun x hx => (hF x (by omega)).trans (hset_ne (by omega))
      obtain ⟨F, G, g0, -⟩ := id hCn
      refine go_aast dX1_init_33 (by omega) ((hz 5 (by omega)).trans h1) (Or.inl ⟨rfl, rfl⟩) (by omega) g0 rfl (by omega) (by omega) ?_
      refine go_inc (L' := [_, _]) dX1_init_34 rfl (by decide) rfl ?_
      refine go_goto (tgt := 15) dX1_init_37 (by decide) ?_
      have hz2 : ∀ y, ∀ x, x ≠ 5 → hset h_30 5 y x = h_30 x := fun y x hx => hset_ne hx
      have hR' : ∀ i, i < k + 1 → va_up R k (some (6 + 3 * k)) i = some (6 + 3 * i) := by
        intro i hi
        by_cases e : i = k
        · subst e; simp [va_up]
        · simp only [va_up, if_neg e]; exact h2 i (by omega)
      have hC' : ∀ i, i < k + 1 → Ct (hset h_30 5 (.inl (3, 10, .inr (.inr (.inr (.inr (va_up R k (some (6 + 3 * k))))))))) (6 + 3 * i) c0 := by
        intro i hi
        by_cases e : i = k
        · subst e; exact hCn.kept (hz2 _ _ (by omega)) (hz2 _ _ (by omega)) (hz2 _ _ (by omega))
        · exact ((h3 i (by omega)).kept (hz _ (by omega)) (hz _ (by omega)) (hz _ (by omega))).kept (hz2 _ _ (by omega)) (hz2 _ _ (by omega)) (hz2 _ _ (by omega))
      exact go_room (bc' := 3 * m) (bs' := 110 * m) (by omega) (by omega) (go_Q (fun v h' N' q => ⟨q.1, q.2.1, q.2.2.1, fun y hy => (q.2.2.2 y hy).trans ((hz2 _ y (by omega)).trans ((hF y (by omega)).trans (hset_ne (by omega))))⟩) (ih (k + 1) _ _ (by omega) ((hz2 _ 4 (by omega)).trans ((hz 4 (by omega)).trans h0)) hset_same hR' hC'))
theorem run_history (d : Nat) {h : gH} (h0 : h 4 = .inr (1, [.null, .int 0, .int 0])) : Run (d + 3) yX1_init cX1_init 2 none [.ref 4] h 5 31 1110 (fun v h' N' => v = none ∧ N' = 36 ∧ Hs h' 0 0 (fun _ => c0) ∧ Fr 4 36 h h') := by
  refine Run.of (ini := true) (L := [_, _]) mX1_init (fun h => rfl) rfl (Nat.le_of_ble_eq_true rfl) rfl ?_
  refine go_aload_n dX1_init_0 rfl ?_
  refine go_obj dX1_init_1 oX1 (Nat.le_of_ble_eq_true rfl) ?_
  refine go_aload_n dX1_init_4 rfl ?_
  refine go_bipush (v := nI 10) dX1_init_5 (by decide) ?_
  refine go_newQ (n := 10) (kd := 3) dX1_init_7 nX1_9 (Or.inl ⟨rfl, rfl⟩) rfl (by omega) (by decide) (by decide) ?_
  refine go_put (fs' := [_, _, _]) dX1_init_10 fX1_11 (by omega) ((hset_ne (by omega)).trans h0) (Nat.le_of_ble_eq_true rfl) rfl ⟨_, _, _, rfl, Or.inr ⟨rfl, rfl, rfl⟩⟩ rfl ?_
  refine go_iconst (v := nI 0) dX1_init_13 (by decide) ?_
  refine go_istore_n (L' := [_, _]) dX1_init_14 rfl (by decide) rfl ?_
  refine go_Q (fun v h' N' q => ⟨q.1, q.2.1, q.2.2.1, fun x hx => (q.2.2.2 x hx).trans ((hset_ne (by omega)).trans (hset_ne (by omega)))⟩) (hist_loop 10 0 _ (fun _ => none) rfl hset_same ((hset_ne (by omega)).trans hset_same) (fun i hi => absurd hi (by omega)) (fun i hi => absurd hi (by omega)))
end
section
/-! ===== SORTED, by counts ===== -/
/-- n unlike numbers A, rising, with their weights W: just those that cnt counts -/
def Srt (n : Nat) (A W cnt : Nat → Nat) : Prop := (∀ i j, i < j → j < n → A i < A j) ∧ (∀ i, i < n → W i = cnt (A i) ∧ 0 < cnt (A i)) ∧ ∀ v, 0 < cnt v → ∃ i, i < n ∧ A i = v
def bump (cnt : Nat → Nat) (v : Nat) : Nat → Nat := fun x => if x = v then cnt x + 1 else cnt x
/-- how many of the first k places have the number v -/
def cF (f : Nat → Option Nat) : Nat → Nat → Nat
  | 0, _ => 0
  | k + 1, v => cF f k v + (if f k = some v then 1 else 0)
theorem Srt.zero {A W : Nat → Nat} : Srt 0 A W (fun _ => 0) := ⟨fun i j _ h => absurd h (by omega), fun i h => absurd h (by omega), fun v h => absurd h (Nat.lt_irrefl 0)⟩
/-- the first r are less than v, the others aren't -/
def Rk (n : Nat) (A : Nat → Nat) (v r : Nat) : Prop := r ≤ n ∧ (∀ i, i < r → A i < v) ∧ ∀ i, r ≤ i → i < n → v ≤ A i
def insA (A : Nat → Nat) (r v : Nat) : Nat → Nat := fun i => if i < r then A i else if i = r then v else A (i - 1)
theorem Srt.hit {n v r : Nat} {A W cnt : Nat → Nat} (h : Srt n A W cnt) (hr : r < n) (hv : A r = v) : Srt n A (fun i => if i = r then W i + 1 else W i) (bump cnt v) := by
  obtain ⟨h1, h2, h3⟩ := h
  have inj : ∀ i, i < n → A i = v → i = r := by
    intro i hi e
    rcases Nat.lt_trichotomy i r with q | q | q
    · have := h1 i r q hr; omega
    · exact q
    · have := h1 r i q hi; omega
  refine ⟨h1, fun i hi => ?_, fun w hw => ?_⟩
  · obtain ⟨q1, q2⟩ := h2 i hi
    by_cases e : i = r
    · subst e
      simp [bump, hv, q1]
    · have : ¬ A i = v := fun q => e (inj i hi q)
      simp [bump, e, this, q1]
      exact q2
  · by_cases e : w = v
    · exact ⟨r, hr, by rw [hv, e]⟩
    · simp [bump, e] at hw
      exact h3 w hw
theorem Srt.new {n v r : Nat} {A W cnt : Nat → Nat} (h : Srt n A W cnt) (hr : Rk n A v r) (hv : ∀ i, i < n → A i ≠ v) : Srt (n + 1) (insA A r v) (insA W r 1) (bump cnt v) := by
  obtain ⟨h1, h2, h3⟩ := h
  obtain ⟨r1, r2, r3⟩ := hr
  have hc : cnt v = 0 := by
    rcases Nat.eq_zero_or_pos (cnt v) with q | q
    · exact q
    · obtain ⟨i, hi, e⟩ := h3 v q
      exact absurd e (hv i hi)
  have gt : ∀ i, r ≤ i → i < n → v < A i := fun i h4 h5 => by
    have := r3 i h4 h5
    have := hv i h5
    omega
  refine ⟨fun i j hij hj => ?_, fun i hi => ?_, fun w hw => ?_⟩
  · unfold insA
    by_cases a1 : i < r
    · rw [if_pos a1]
      by_cases b1 : j < r
      · rw [if_pos b1]; exact h1 i j hij (by omega)
      · rw [if_neg b1]
        by_cases b2 : j = r
        · rw [if_pos b2]; exact r2 i a1
        · rw [if_neg b2]
          have := r2 i a1
          have := gt (j - 1) (by omega) (by omega)
          omega
    · rw [if_neg a1, if_neg (show ¬ j < r by omega), if_neg (show ¬ j = r by omega)]
      by_cases a2 : i = r
      · rw [if_pos a2]; exact gt (j - 1) (by omega) (by omega)
      · rw [if_neg a2]; exact h1 (i - 1) (j - 1) (by omega) (by omega)
  · unfold insA
    by_cases a1 : i < r
    · rw [if_pos a1, if_pos a1]
      have hne := hv i (by omega)
      simp only [bump, if_neg hne]
      exact h2 i (by omega)
    · rw [if_neg a1, if_neg a1]
      by_cases a2 : i = r
      · rw [if_pos a2, if_pos a2]
        simp [bump, hc]
      · rw [if_neg a2, if_neg a2]
        have hne := hv (i - 1) (by omega)
        simp only [bump, if_neg hne]
        exact h2 (i - 1) (by omega)
  · by_cases e : w = v
    · refine ⟨r, by omega, ?_⟩
      simp [insA, e]
    · simp only [bump, if_neg e] at hw
      obtain ⟨i, hi, q⟩ := h3 w hw
      by_cases a1 : i < r
      · exact ⟨i, by omega, by simp [insA, a1, q]⟩
      · exact ⟨i + 1, by omega, by simp [insA, show ¬ i + 1 < r by omega, show ¬ i + 1 = r by omega, q]⟩
/-- two such are the same -/
theorem Srt.same {n n' : Nat} {A W A' W' cnt : Nat → Nat} (h : Srt n A W cnt) (h' : Srt n' A' W' cnt) : n = n' ∧ ∀ i, i < n → A i = A' i ∧ W i = W' i := by
  have low : ∀ {n n' : Nat} {A W A' W' : Nat → Nat}, Srt n A W cnt → Srt n' A' W' cnt → ∀ i, i < n → i < n' → (∀ j, j < i → A j = A' j) → A' i ≤ A i := by
    intro n n' A W A' W' h h' i hi hi' hj
    obtain ⟨k, hk, e⟩ := h'.2.2 (A i) (h.2.1 i hi).2
    rcases Nat.lt_or_ge k i with q | q
    · have := h.1 k i q hi
      have := hj k q
      omega
    · rcases Nat.lt_or_ge i k with q2 | q2
      · have := h'.1 i k q2 hk
        omega
      · have : k = i := by omega
        subst this
        omega
  have eq : ∀ i, i < n → i < n' → A i = A' i := by
    intro i
    induction i using Nat.strongRecOn with
    | _ i ih =>
      intro hi hi'
      have h1 := low h h' i hi hi' (fun j hj => ih j hj (by omega) (by omega))
      have h2 := low h' h i hi' hi (fun j hj => (ih j hj (by omega) (by omega)).symm)
      omega
  have len : ∀ {n n' : Nat} {A W A' W' : Nat → Nat}, Srt n A W cnt → Srt n' A' W' cnt → (∀ i, i < n → i < n' → A i = A' i) → n ≤ n' := by
    intro n n' A W A' W' h h' he
    rcases Nat.lt_or_ge n' n with q | q
    · exfalso
      obtain ⟨k, hk, e⟩ := h'.2.2 (A n') (h.2.1 n' q).2
      have := he k (by omega) hk
      have := h.1 k n' hk q
      omega
    · exact q
  have e : n = n' := Nat.le_antisymm (len h h' eq) (len h' h (fun i h1 h2 => (eq i h2 h1).symm))
  subst e
  refine ⟨rfl, fun i hi => ⟨eq i hi hi, ?_⟩⟩
  rw [(h.2.1 i hi).1, (h'.2.1 i hi).1, eq i hi hi]
theorem Srt.le {n m : Nat} {A W cnt : Nat → Nat} (h : Srt n A W cnt) (hm : ∀ v, 0 < cnt v → v ≤ m) : ∀ i, i < n → A i ≤ m := fun i hi => hm _ (h.2.1 i hi).2
/-! ===== Ladder: cell 50, numbers 51, weights 52, spreads 53, its rows 54 .. 78 ===== -/
def Lc (h : gH) (n : Nat) (A W : Nat → Nat) : Prop := ∃ FA FW : Nat → Int32, h 50 = .inr (2, [.ref 51, .ref 52, .ref 53, .int (nI n)]) ∧ h 51 = .inl (0, 24, .inl FA) ∧ h 52 = .inl (0, 24, .inl FW) ∧ n ≤ 24 ∧ (∀ i, i < n → FA i = nI (A i)) ∧ (∀ i, i < n → FW i = nI (W i))
theorem Lc.fr {h h' : gH} {lo hi n : Nat} {A W : Nat → Nat} (q : Lc h n A W) (f : Fr lo hi h h') (hx : 53 ≤ lo ∨ hi ≤ 50) : Lc h' n A W := by
  obtain ⟨FA, FW, h0, h1, h2, h3⟩ := q
  exact ⟨FA, FW, (f _ (by omega)).trans h0, (f _ (by omega)).trans h1, (f _ (by omega)).trans h2, h3⟩
set_option maxRecDepth 100000 in
theorem rankOf_loop {d N n v : Nat} {h : gH} {A W : Nat → Nat} (hN : 79 ≤ N) (hv : v < 2 ^ 31) (hA : ∀ i, i < n → A i < 2 ^ 31) (hS : ∀ i j, i < j → j < n → A i < A j) (hL : Lc h n A W) : ∀ (m k : Nat), k + m = n → (∀ i, i < k → A i < v) → Go none RX2 cX2_rankOf 3 (some .int) false d 2 [some (.ref 50), some (.int (nI v)), some (.int (nI k))] [] h N 0 0 (fun x h' N' => (∃ r, x = some (.int (nI r)) ∧ Rk n A v r) ∧ h' = h ∧ N' = N) := by
  obtain ⟨FA, FW, h0, h1, h2, h3, h4, h5⟩ := hL
  intro m
  induction m with
  | zero =>
    intro k hk hl
    have e : k = n := by omega
    subst e
    refine go_iload_n dX2_rankOf_2 rfl ?_
    refine go_aload_n dX2_rankOf_3 rfl ?_
    refine go_get dX2_rankOf_4 fX2_23 (by omega) h0 rfl ?_
    refine go_icmp_ge (tgt := 26) dX2_rankOf_7 (by decide) (fun c_7 => ?_) (fun c_7 => ?_)
    · skip
      refine go_iload_n dX2_rankOf_26 rfl ?_
      refine go_iret dX2_rankOf_27 rfl ?_
      exact ⟨⟨k, rfl, Nat.le_refl _, hl, fun i q1 q2 => absurd q2 (by omega)⟩, rfl, rfl⟩
    · exact absurd (nI_le (Nat.le_refl _) (by omega)) c_7
  | succ m ih =>
    intro k hk hl
    refine go_iload_n dX2_rankOf_2 rfl ?_
    refine go_aload_n dX2_rankOf_3 rfl ?_
    refine go_get dX2_rankOf_4 fX2_23 (by omega) h0 rfl ?_
    refine go_icmp_ge (tgt := 26) dX2_rankOf_7 (by decide) (fun c_7 => ?_) (fun c_7 => ?_)
    · exact absurd c_7 (nI_ge (by omega) (by omega))
    · skip
      refine go_aload_n dX2_rankOf_10 rfl ?_
      refine go_get dX2_rankOf_11 fX2_9 (by omega) h0 rfl ?_
      refine go_iload_n dX2_rankOf_14 rfl ?_
      refine go_iald dX2_rankOf_15 (by omega) h1 rfl (by omega) (by omega) ?_
      refine go_top (y := .int (nI (A k))) (by rw [h4 k (by omega)]) ?_
      refine go_iload_n dX2_rankOf_16 rfl ?_
      refine go_icmp_ge (tgt := 26) dX2_rankOf_17 (by decide) (fun c_17 => ?_) (fun c_17 => ?_)
      · skip
        have e := (nI_leI hv (hA k (by omega))).mp c_17
        refine go_iload_n dX2_rankOf_26 rfl ?_
        refine go_iret dX2_rankOf_27 rfl ?_
        refine ⟨⟨k, rfl, by omega, hl, fun i q1 q2 => ?_⟩, rfl, rfl⟩
        rcases Nat.lt_or_ge k i with q | q
        · have := hS k i q q2; omega
        · have : i = k := by omega
          subst this; exact e
      · skip
        have e : A k < v := by have := mt (nI_leI (a := v) (b := A k) hv (hA k (by omega))).mpr c_17; omega
        refine go_inc (L' := [_, _, _]) dX2_rankOf_20 rfl (by decide) rfl ?_
        refine go_goto (tgt := 2) dX2_rankOf_23 (by decide) ?_
        exact ih (k + 1) (by omega) (fun i hi => by by_cases q : i < k <;> first | exact hl i q | (rw [show i = k by omega]; exact e))
theorem run_rankOf (d : Nat) {N n v : Nat} {h : gH} {A W : Nat → Nat} (hN : 79 ≤ N) (hv : v < 2 ^ 31) (hA : ∀ i, i < n → A i < 2 ^ 31) (hS : ∀ i j, i < j → j < n → A i < A j) (hL : Lc h n A W) : Run d yX2_rankOf cX2_rankOf 3 (some .int) [.ref 50, .int (nI v)] h N 0 0 (fun x h' N' => (∃ r, x = some (.int (nI r)) ∧ Rk n A v r) ∧ h' = h ∧ N' = N) := by
  refine Run.of (ini := false) (L := [_, _, _]) mX2_rankOf (fun h => by cases h) rfl (Nat.le_of_ble_eq_true rfl) rfl ?_
  refine go_iconst (v := nI 0) dX2_rankOf_0 (by decide) ?_
  refine go_istore_n (L' := [_, _, _]) dX2_rankOf_1 rfl (by decide) rfl ?_
  exact rankOf_loop hN hv hA hS hL n 0 (by omega) (fun i hi => absurd hi (by omega))
theorem run_numberAt (d : Nat) {N n k : Nat} {h : gH} {A W : Nat → Nat} (hN : 79 ≤ N) (hk : k < n) (hL : Lc h n A W) : Run d yX2_numberAt cX2_numberAt 2 (some .int) [.ref 50, .int (nI k)] h N 0 0 (fun v h' N' => v = some (.int (nI (A k))) ∧ h' = h ∧ N' = N) := by
  obtain ⟨FA, FW, h0, h1, h2, h3, h4, h5⟩ := hL
  refine Run.of (ini := false) (L := [_, _]) mX2_numberAt (fun h => by cases h) rfl (Nat.le_of_ble_eq_true rfl) rfl ?_
  refine go_iload_n dX2_numberAt_0 rfl ?_
  refine go_if_lt (tgt := 21) dX2_numberAt_1 (by decide) (fun c_1 => ?_) (fun c_1 => ?_)
  · exact absurd c_1 (nI_pos (by omega))
  · skip
    refine go_iload_n dX2_numberAt_4 rfl ?_
    refine go_aload_n dX2_numberAt_5 rfl ?_
    refine go_get dX2_numberAt_6 fX2_23 (by omega) h0 rfl ?_
    refine go_icmp_ge (tgt := 21) dX2_numberAt_9 (by decide) (fun c_9 => ?_) (fun c_9 => ?_)
    · exact absurd c_9 (nI_ge hk (by omega))
    · skip
      refine go_aload_n dX2_numberAt_12 rfl ?_
      refine go_get dX2_numberAt_13 fX2_9 (by omega) h0 rfl ?_
      refine go_iload_n dX2_numberAt_16 rfl ?_
      refine go_iald dX2_numberAt_17 (by omega) h1 rfl (by omega) (by omega) ?_
      refine go_goto (tgt := 23) dX2_numberAt_18 (by decide) ?_
      refine go_iret dX2_numberAt_23 rfl ?_
      exact ⟨by rw [h4 k hk], rfl, rfl⟩
theorem run_weightAt (d : Nat) {N n k : Nat} {h : gH} {A W : Nat → Nat} (hN : 79 ≤ N) (hk : k < n) (hL : Lc h n A W) : Run d yX2_weightAt cX2_weightAt 2 (some .int) [.ref 50, .int (nI k)] h N 0 0 (fun v h' N' => v = some (.int (nI (W k))) ∧ h' = h ∧ N' = N) := by
  obtain ⟨FA, FW, h0, h1, h2, h3, h4, h5⟩ := hL
  refine Run.of (ini := false) (L := [_, _]) mX2_weightAt (fun h => by cases h) rfl (Nat.le_of_ble_eq_true rfl) rfl ?_
  refine go_iload_n dX2_weightAt_0 rfl ?_
  refine go_if_lt (tgt := 21) dX2_weightAt_1 (by decide) (fun c_1 => ?_) (fun c_1 => ?_)
  · exact absurd c_1 (nI_pos (by omega))
  · skip
    refine go_iload_n dX2_weightAt_4 rfl ?_
    refine go_aload_n dX2_weightAt_5 rfl ?_
    refine go_get dX2_weightAt_6 fX2_23 (by omega) h0 rfl ?_
    refine go_icmp_ge (tgt := 21) dX2_weightAt_9 (by decide) (fun c_9 => ?_) (fun c_9 => ?_)
    · exact absurd c_9 (nI_ge hk (by omega))
    · skip
      refine go_aload_n dX2_weightAt_12 rfl ?_
      refine go_get dX2_weightAt_13 fX2_15 (by omega) h0 rfl ?_
      refine go_iload_n dX2_weightAt_16 rfl ?_
      refine go_iald dX2_weightAt_17 (by omega) h2 rfl (by omega) (by omega) ?_
      refine go_goto (tgt := 22) dX2_weightAt_18 (by decide) ?_
      refine go_iret dX2_weightAt_22 rfl ?_
      exact ⟨by rw [h5 k hk], rfl, rfl⟩
theorem ins_ok {n r : Nat} {F : Nat → Int32} {A : Nat → Nat} {v : Nat} (hr : r ≤ n) (h : ∀ i, i < n → F i = nI (A i)) : ∀ i, i < n + 1 → upd (va_cpy F F r (r + 1) (n - r)) r (nI v) i = nI (insA A r v i) := by
  intro i hi
  by_cases e : i = r
  · subst e; simp [upd, insA]
  · rw [pk_un e]
    by_cases e2 : i < r
    · rw [pk_cpy_out (by omega), h i (by omega)]; simp [insA, e2]
    · rw [pk_cpy_in (by omega) (by omega), h _ (by omega)]
      simp only [insA, if_neg e2, if_neg e]
      congr 2
      omega
set_option maxRecDepth 100000 in
theorem run_add (d : Nat) {N n v : Nat} {h : gH} {A W cnt : Nat → Nat} (hN : 79 ≤ N) (hv : v ≤ 999) (hn : n < 24) (hA : ∀ w, 0 < cnt w → w ≤ 999) (hS : Srt n A W cnt) (hL : Lc h n A W) : Run (d + 1) yX2_add cX2_add 3 none [.ref 50, .int (nI v)] h N 0 0 (fun x h' N' => x = none ∧ N' = N ∧ (∃ n' A' W', Lc h' n' A' W' ∧ Srt n' A' W' (bump cnt v) ∧ n' ≤ n + 1) ∧ Fr 50 53 h h') := by
  have hA9 := hS.le hA
  obtain ⟨FA, FW, h0, h1, h2, h3, h4, h5⟩ := id hL
  refine Run.of (ini := false) (L := [_, _, _]) mX2_add (fun h => by cases h) rfl (Nat.le_of_ble_eq_true rfl) rfl ?_
  refine go_aload_n dX2_add_0 rfl ?_
  refine go_iload_n dX2_add_1 rfl ?_
  refine go_iv dX2_add_2 mX2_rankOf iX2_37 (run_rankOf d hN (by omega) (fun i hi => by have := hA9 i hi; omega) hS.1 hL) rfl rfl (by omega) h0 rfl (Nat.le_of_ble_eq_true rfl) (Nat.zero_le _) (Nat.zero_le _) (fun v_2 h_2 n_2 q_2 => ?_)
  obtain ⟨⟨r, rfl, hr⟩, rfl, rfl⟩ := q_2
  have hr1 := hr.1
  refine go_istore_n (L' := [_, _, _]) dX2_add_5 rfl (by decide) rfl ?_
  refine go_iload_n dX2_add_6 rfl ?_
  refine go_aload_n dX2_add_7 rfl ?_
  refine go_get dX2_add_8 fX2_23 (by omega) h0 rfl ?_
  refine go_icmp_ge (tgt := 35) dX2_add_11 (by decide) (fun c_11 => ?_) (fun c_11 => ?_)
  · skip
    have e := (nI_leI (by omega) (by have := hr.1; omega)).mp c_11
    have hno : ∀ i, i < n → A i ≠ v := fun i hi q => by have := hr.2.1 i (by omega); omega
    refine go_aload_n dX2_add_35 rfl ?_
    refine go_get dX2_add_36 fX2_23 (by omega) h0 rfl ?_
    refine go_bipush (v := nI 24) dX2_add_39 (by decide) ?_
    refine go_icmp_lt (tgt := 45) dX2_add_41 (by decide) (fun c_41 => ?_) (fun c_41 => ?_)
    · skip
      refine go_aload_n dX2_add_45 rfl ?_
      refine go_get dX2_add_46 fX2_9 (by omega) h0 rfl ?_
      refine go_iload_n dX2_add_49 rfl ?_
      refine go_aload_n dX2_add_50 rfl ?_
      refine go_get dX2_add_51 fX2_9 (by omega) h0 rfl ?_
      refine go_iload_n dX2_add_54 rfl ?_
      refine go_iconst (v := nI 1) dX2_add_55 (by decide) ?_
      refine go_iadd dX2_add_56 ?_
      refine go_top (y := .int (nI (r + 1))) (by rw [nI_add]) ?_
      refine go_aload_n dX2_add_57 rfl ?_
      refine go_get dX2_add_58 fX2_23 (by omega) h0 rfl ?_
      refine go_iload_n dX2_add_61 rfl ?_
      refine go_isub dX2_add_62 ?_
      refine go_top (y := .int (nI (n - r))) (by rw [pk_sub hr.1]) ?_
      refine go_copy (x := r) (y := r + 1) (z := n - r) dX2_add_63 aX2_41 (by omega) (by omega) h1 h1 rfl rfl rfl (by omega) (by omega) (by omega) (by omega) (by decide) ?_
      have k0 := fun y => (hset_ne (a := 51) (j := 50) (x := y) (by omega)).trans h0
      have k2 := fun y => (hset_ne (a := 51) (j := 52) (x := y) (by omega)).trans h2
      refine go_aload_n dX2_add_66 rfl ?_
      refine go_get dX2_add_67 fX2_15 (by omega) (k0 _) rfl ?_
      refine go_iload_n dX2_add_70 rfl ?_
      refine go_aload_n dX2_add_71 rfl ?_
      refine go_get dX2_add_72 fX2_15 (by omega) (k0 _) rfl ?_
      refine go_iload_n dX2_add_75 rfl ?_
      refine go_iconst (v := nI 1) dX2_add_76 (by decide) ?_
      refine go_iadd dX2_add_77 ?_
      refine go_top (y := .int (nI (r + 1))) (by rw [nI_add]) ?_
      refine go_aload_n dX2_add_78 rfl ?_
      refine go_get dX2_add_79 fX2_23 (by omega) (k0 _) rfl ?_
      refine go_iload_n dX2_add_82 rfl ?_
      refine go_isub dX2_add_83 ?_
      refine go_top (y := .int (nI (n - r))) (by rw [pk_sub hr.1]) ?_
      refine go_copy (x := r) (y := r + 1) (z := n - r) dX2_add_84 aX2_41 (by omega) (by omega) (k2 _) (k2 _) rfl rfl rfl (by omega) (by omega) (by omega) (by omega) (by decide) ?_
      refine go_aload_n dX2_add_87 rfl ?_
      refine go_get dX2_add_88 fX2_9 (by omega) ((hset_ne (by omega)).trans (k0 _)) rfl ?_
      refine go_iload_n dX2_add_91 rfl ?_
      refine go_iload_n dX2_add_92 rfl ?_
      refine go_iast dX2_add_93 (by omega) ((hset_ne (by omega)).trans hset_same) rfl (by omega) (by omega) ?_
      refine go_aload_n dX2_add_94 rfl ?_
      refine go_get dX2_add_95 fX2_15 (by omega) ((hset_ne (by omega)).trans ((hset_ne (by omega)).trans (k0 _))) rfl ?_
      refine go_iload_n dX2_add_98 rfl ?_
      refine go_iconst (v := nI 1) dX2_add_99 (by decide) ?_
      refine go_iast dX2_add_100 (by omega) ((hset_ne (by omega)).trans hset_same) rfl (by omega) (by omega) ?_
      refine go_aload_n dX2_add_101 rfl ?_
      refine go_dup dX2_add_102 rfl ?_
      refine go_get dX2_add_103 fX2_23 (by omega) ((hset_ne (by omega)).trans ((hset_ne (by omega)).trans ((hset_ne (by omega)).trans (k0 _)))) rfl ?_
      refine go_iconst (v := nI 1) dX2_add_106 (by decide) ?_
      refine go_iadd dX2_add_107 ?_
      refine go_top (y := .int (nI (n + 1))) (by rw [nI_add]) ?_
      refine go_put (fs' := [_, _, _, _]) dX2_add_108 fX2_23 (by omega) ((hset_ne (by omega)).trans ((hset_ne (by omega)).trans ((hset_ne (by omega)).trans (k0 _)))) (Nat.le_of_ble_eq_true rfl) (Or.inl rfl) ⟨_, _, _, rfl, Or.inl rfl⟩ rfl ?_
      refine go_vret dX2_add_111 rfl ?_
      refine ⟨rfl, rfl, ⟨n + 1, insA A r v, insA W r 1, ⟨_, _, hset_same, ((hset_ne (by omega)).trans (hset_ne (by omega))).trans hset_same, (hset_ne (by omega)).trans hset_same, by omega, ins_ok hr.1 h4, ins_ok hr.1 h5⟩, hS.new hr hno, by omega⟩, ((((Fr.rf.set (by omega) (by omega)).set (by omega) (by omega)).set (by omega) (by omega)).set (by omega) (by omega)).set (by omega) (by omega)⟩
    · exact absurd (nI_lt hn (by decide)) c_41
  · skip
    have e : r < n := by have := mt (nI_leI (a := n) (b := r) (by omega) (by have := hr.1; omega)).mpr c_11; omega
    refine go_aload_n dX2_add_14 rfl ?_
    refine go_get dX2_add_15 fX2_9 (by omega) h0 rfl ?_
    refine go_iload_n dX2_add_18 rfl ?_
    refine go_iald dX2_add_19 (by omega) h1 rfl (by omega) (by omega) ?_
    refine go_top (y := .int (nI (A r))) (by rw [h4 r e]) ?_
    refine go_iload_n dX2_add_20 rfl ?_
    refine go_icmp_ne (tgt := 35) dX2_add_21 (by decide) (fun c_21 => ?_) (fun c_21 => ?_)
    · skip
      have hne : ¬ A r = v := fun q => c_21 (by rw [q])
      have hno : ∀ i, i < n → A i ≠ v := by
        intro i hi q
        have h9 := hr.2.2 r (by omega) e
        rcases Nat.lt_trichotomy i r with z | z | z
        · have := hr.2.1 i z; omega
        · subst z; exact hne q
        · have := hS.1 r i z hi; omega
      refine go_aload_n dX2_add_35 rfl ?_
      refine go_get dX2_add_36 fX2_23 (by omega) h0 rfl ?_
      refine go_bipush (v := nI 24) dX2_add_39 (by decide) ?_
      refine go_icmp_lt (tgt := 45) dX2_add_41 (by decide) (fun c_41 => ?_) (fun c_41 => ?_)
      · skip
        refine go_aload_n dX2_add_45 rfl ?_
        refine go_get dX2_add_46 fX2_9 (by omega) h0 rfl ?_
        refine go_iload_n dX2_add_49 rfl ?_
        refine go_aload_n dX2_add_50 rfl ?_
        refine go_get dX2_add_51 fX2_9 (by omega) h0 rfl ?_
        refine go_iload_n dX2_add_54 rfl ?_
        refine go_iconst (v := nI 1) dX2_add_55 (by decide) ?_
        refine go_iadd dX2_add_56 ?_
        refine go_top (y := .int (nI (r + 1))) (by rw [nI_add]) ?_
        refine go_aload_n dX2_add_57 rfl ?_
        refine go_get dX2_add_58 fX2_23 (by omega) h0 rfl ?_
        refine go_iload_n dX2_add_61 rfl ?_
        refine go_isub dX2_add_62 ?_
        refine go_top (y := .int (nI (n - r))) (by rw [pk_sub hr.1]) ?_
        refine go_copy (x := r) (y := r + 1) (z := n - r) dX2_add_63 aX2_41 (by omega) (by omega) h1 h1 rfl rfl rfl (by omega) (by omega) (by omega) (by omega) (by decide) ?_
        have k0 := fun y => (hset_ne (a := 51) (j := 50) (x := y) (by omega)).trans h0
        have k2 := fun y => (hset_ne (a := 51) (j := 52) (x := y) (by omega)).trans h2
        refine go_aload_n dX2_add_66 rfl ?_
        refine go_get dX2_add_67 fX2_15 (by omega) (k0 _) rfl ?_
        refine go_iload_n dX2_add_70 rfl ?_
        refine go_aload_n dX2_add_71 rfl ?_
        refine go_get dX2_add_72 fX2_15 (by omega) (k0 _) rfl ?_
        refine go_iload_n dX2_add_75 rfl ?_
        refine go_iconst (v := nI 1) dX2_add_76 (by decide) ?_
        refine go_iadd dX2_add_77 ?_
        refine go_top (y := .int (nI (r + 1))) (by rw [nI_add]) ?_
        refine go_aload_n dX2_add_78 rfl ?_
        refine go_get dX2_add_79 fX2_23 (by omega) (k0 _) rfl ?_
        refine go_iload_n dX2_add_82 rfl ?_
        refine go_isub dX2_add_83 ?_
        refine go_top (y := .int (nI (n - r))) (by rw [pk_sub hr.1]) ?_
        refine go_copy (x := r) (y := r + 1) (z := n - r) dX2_add_84 aX2_41 (by omega) (by omega) (k2 _) (k2 _) rfl rfl rfl (by omega) (by omega) (by omega) (by omega) (by decide) ?_
        refine go_aload_n dX2_add_87 rfl ?_
        refine go_get dX2_add_88 fX2_9 (by omega) ((hset_ne (by omega)).trans (k0 _)) rfl ?_
        refine go_iload_n dX2_add_91 rfl ?_
        refine go_iload_n dX2_add_92 rfl ?_
        refine go_iast dX2_add_93 (by omega) ((hset_ne (by omega)).trans hset_same) rfl (by omega) (by omega) ?_
        refine go_aload_n dX2_add_94 rfl ?_
        refine go_get dX2_add_95 fX2_15 (by omega) ((hset_ne (by omega)).trans ((hset_ne (by omega)).trans (k0 _))) rfl ?_
        refine go_iload_n dX2_add_98 rfl ?_
        refine go_iconst (v := nI 1) dX2_add_99 (by decide) ?_
        refine go_iast dX2_add_100 (by omega) ((hset_ne (by omega)).trans hset_same) rfl (by omega) (by omega) ?_
        refine go_aload_n dX2_add_101 rfl ?_
        refine go_dup dX2_add_102 rfl ?_
        refine go_get dX2_add_103 fX2_23 (by omega) ((hset_ne (by omega)).trans ((hset_ne (by omega)).trans ((hset_ne (by omega)).trans (k0 _)))) rfl ?_
        refine go_iconst (v := nI 1) dX2_add_106 (by decide) ?_
        refine go_iadd dX2_add_107 ?_
        refine go_top (y := .int (nI (n + 1))) (by rw [nI_add]) ?_
        refine go_put (fs' := [_, _, _, _]) dX2_add_108 fX2_23 (by omega) ((hset_ne (by omega)).trans ((hset_ne (by omega)).trans ((hset_ne (by omega)).trans (k0 _)))) (Nat.le_of_ble_eq_true rfl) (Or.inl rfl) ⟨_, _, _, rfl, Or.inl rfl⟩ rfl ?_
        refine go_vret dX2_add_111 rfl ?_
        refine ⟨rfl, rfl, ⟨n + 1, insA A r v, insA W r 1, ⟨_, _, hset_same, ((hset_ne (by omega)).trans (hset_ne (by omega))).trans hset_same, (hset_ne (by omega)).trans hset_same, by omega, ins_ok hr.1 h4, ins_ok hr.1 h5⟩, hS.new hr hno, by omega⟩, ((((Fr.rf.set (by omega) (by omega)).set (by omega) (by omega)).set (by omega) (by omega)).set (by omega) (by omega)).set (by omega) (by omega)⟩
      · exact absurd (nI_lt hn (by decide)) c_41
    · skip
      have heq : A r = v := (nI_eq (by have := hA9 r e; omega) (by omega)).mp (Decidable.not_not.mp c_21)
      refine go_aload_n dX2_add_24 rfl ?_
      refine go_get dX2_add_25 fX2_15 (by omega) h0 rfl ?_
      refine go_iload_n dX2_add_28 rfl ?_
      refine go_dup2 dX2_add_29 rfl rfl ?_
      refine go_iald dX2_add_30 (by omega) h2 rfl (by omega) (by omega) ?_
      refine go_top (y := .int (nI (W r))) (by rw [h5 r e]) ?_
      refine go_iconst (v := nI 1) dX2_add_31 (by decide) ?_
      refine go_iadd dX2_add_32 ?_
      refine go_top (y := .int (nI (W r + 1))) (by rw [nI_add]) ?_
      refine go_iast dX2_add_33 (by omega) h2 rfl (by omega) (by omega) ?_
      refine go_vret dX2_add_34 rfl ?_
      refine ⟨rfl, rfl, ⟨n, A, fun i => if i = r then W i + 1 else W i, ⟨FA, _, (hset_ne (by omega)).trans h0, (hset_ne (by omega)).trans h1, hset_same, h3, h4, fun i hi => ?_⟩, hS.hit e heq, by omega⟩, Fr.rf.set (by omega) (by omega)⟩
      by_cases q : i = r
      · subst q; simp [upd]
      · rw [pk_un q, h5 i hi]; simp [q]
/-! ===== sums and spreads ===== -/
/-- f a + .. + f (a + m - 1) -/
def sm (f : Nat → Nat) (a : Nat) : Nat → Nat
  | 0 => 0
  | m + 1 => sm f a m + f (a + m)
/-- the spread of the run from a to ahead of b, in parts -/
def spr (A W : Nat → Nat) (a b : Nat) : Int64 := lN (sm (fun i => W i * A i * A i) a (b - a)) * 5354228880 - lN (sm (fun i => W i * A i) a (b - a)) * lN (sm (fun i => W i * A i) a (b - a)) * lN (5354228880 / sm W a (b - a))
theorem parts_div : ∀ w, w < 25 → 0 < w → w * (5354228880 / w) = 5354228880 := by decide
theorem spr_eq {w s1 s2 : Nat} (h0 : 0 < w) (h24 : w ≤ 24) : (lN w * lN s2 - lN s1 * lN s1) * (5354228880 / lN w) = lN s2 * 5354228880 - lN s1 * lN s1 * lN (5354228880 / w) := by
  have e : (5354228880 : Int64) / lN w = lN (5354228880 / w) := pk_lDiv (a := 5354228880) (by decide) h0 (by omega)
  have e2 : lN w * lN (5354228880 / w) = 5354228880 := by rw [lN_mul, parts_div w (by omega) h0]; rfl
  rw [e, Int64.sub_mul]
  congr 1
  rw [Int64.mul_comm (lN w) (lN s2), Int64.mul_assoc, e2]
/-- a row of the spreads: kind 1, 25 longs -/
def Rw (h : gH) (i : Nat) (F : Nat → Int64) : Prop := h i = .inl (1, 25, .inr (.inl F))
def Lr (h : gH) : Prop := ∃ R : Nat → Option Nat, h 53 = .inl (6, 25, .inr (.inr (.inr (.inr R)))) ∧ (∀ i, i < 25 → R i = some (54 + i)) ∧ ∀ i, i < 25 → ∃ F, Rw h (54 + i) F
theorem Lr.fr {h h' : gH} {lo hi : Nat} (q : Lr h) (f : Fr lo hi h h') (hx : 79 ≤ lo ∨ hi ≤ 53) : Lr h' := by
  obtain ⟨R, h0, h1, h2⟩ := q
  refine ⟨R, (f _ (by omega)).trans h0, h1, fun i hi => ?_⟩
  obtain ⟨F, hF⟩ := h2 i hi
  exact ⟨F, (f _ (by omega)).trans hF⟩
set_option maxRecDepth 100000 in
theorem measure_loop {d N n a : Nat} {h : gH} {A W : Nat → Nat} {R : Nat → Option Nat} (hN : 79 ≤ N) (hA : ∀ i, i < n → A i < 2 ^ 31) (hW0 : ∀ i, i < n → 0 < W i) (hW : sm W a (n - a) ≤ 24) (hmono : ∀ m, m ≤ n - a → sm W a m ≤ 24) (h53 : h 53 = .inl (6, 25, .inr (.inr (.inr (.inr R))))) (hR : ∀ i, i < 25 → R i = some (54 + i)) (hL : Lc h n A W) (ha : a < n) : ∀ (m k : Nat) (F : Nat → Int64), a + k + m = n → (∀ j, a < j → j ≤ a + k → F j = spr A W a j) → Go none RX2 cX2_measureFrom 9 none false d 11 [some (.ref 50), some (.int (nI a)), some (.long (lN (sm W a k))), none, some (.long (lN (sm (fun i => W i * A i) a k))), none, some (.long (lN (sm (fun i => W i * A i * A i) a k))), none, some (.int (nI (a + k)))] [] (hset h (54 + a) (.inl (1, 25, .inr (.inl F)))) N 0 0 (fun x h' N' => x = none ∧ N' = N ∧ (∃ F', h' = hset h (54 + a) (.inl (1, 25, .inr (.inl F'))) ∧ ∀ j, a < j → j ≤ n → F' j = spr A W a j)) := by
  obtain ⟨FA, FW, h0, h1, h2, h3, h4, h5⟩ := hL
  have k0 := fun y => (hset_ne (a := 54 + a) (j := 50) (x := y) (by omega)).trans h0
  have k1 := fun y => (hset_ne (a := 54 + a) (j := 51) (x := y) (by omega)).trans h1
  have k2 := fun y => (hset_ne (a := 54 + a) (j := 52) (x := y) (by omega)).trans h2
  have k3 := fun y => (hset_ne (a := 54 + a) (j := 53) (x := y) (by omega)).trans h53
  intro m
  induction m with
  | zero =>
    intro k F hk hF
    have e : a + k = n := by omega
    refine go_iload dX2_measureFrom_11 rfl ?_
    refine go_aload_n dX2_measureFrom_13 rfl ?_
    refine go_get dX2_measureFrom_14 fX2_23 (by omega) (k0 _) rfl ?_
    refine go_icmp_ge (tgt := 123) dX2_measureFrom_17 (by decide) (fun c_17 => ?_) (fun c_17 => ?_)
    · skip
      refine go_vret dX2_measureFrom_123 rfl ?_
      exact ⟨rfl, rfl, F, rfl, fun j h1 h2 => hF j h1 (by omega)⟩
    · exact absurd (nI_le (by omega) (by omega)) c_17
  | succ m ih =>
    intro k F hk hF
    have hWk : W (a + k) < 2 ^ 31 := by
      have := hmono (k + 1) (by omega)
      rw [sm] at this
      omega
    have hAk := hA (a + k) (by omega)
    have hpos : 0 < sm W a (k + 1) := by
      have := hW0 (a + k) (by omega)
      rw [sm]
      omega
    have hle := hmono (k + 1) (by omega)
    refine go_iload dX2_measureFrom_11 rfl ?_
    refine go_aload_n dX2_measureFrom_13 rfl ?_
    refine go_get dX2_measureFrom_14 fX2_23 (by omega) (k0 _) rfl ?_
    refine go_icmp_ge (tgt := 123) dX2_measureFrom_17 (by decide) (fun c_17 => ?_) (fun c_17 => ?_)
    · exact absurd c_17 (nI_ge (by omega) (by omega))
    · skip
      refine go_lload_n dX2_measureFrom_20 rfl ?_
      refine go_aload_n dX2_measureFrom_21 rfl ?_
      refine go_get dX2_measureFrom_22 fX2_15 (by omega) (k0 _) rfl ?_
      refine go_iload dX2_measureFrom_25 rfl ?_
      refine go_iald dX2_measureFrom_27 (by omega) (k2 _) rfl (by omega) (by omega) ?_
      refine go_top (y := .int (nI (W (a + k)))) (by rw [h5 _ (by omega)]) ?_
      refine go_i2l dX2_measureFrom_28 rfl ?_
      refine go_top (y := .long (lN (W (a + k)))) (by rw [nI_l hWk]) ?_
      refine go_ladd dX2_measureFrom_29 ?_
      refine go_top (y := .long (lN (sm W a (k + 1)))) (by rw [lN_add, sm]) ?_
      refine go_lstore_n (L' := [_, _, _, _, _, _, _, _, _]) dX2_measureFrom_30 rfl (by decide) rfl ?_
      refine go_lload dX2_measureFrom_31 rfl ?_
      refine go_aload_n dX2_measureFrom_33 rfl ?_
      refine go_get dX2_measureFrom_34 fX2_15 (by omega) (k0 _) rfl ?_
      refine go_iload dX2_measureFrom_37 rfl ?_
      refine go_iald dX2_measureFrom_39 (by omega) (k2 _) rfl (by omega) (by omega) ?_
      refine go_top (y := .int (nI (W (a + k)))) (by rw [h5 _ (by omega)]) ?_
      refine go_i2l dX2_measureFrom_40 rfl ?_
      refine go_top (y := .long (lN (W (a + k)))) (by rw [nI_l hWk]) ?_
      refine go_aload_n dX2_measureFrom_41 rfl ?_
      refine go_get dX2_measureFrom_42 fX2_9 (by omega) (k0 _) rfl ?_
      refine go_iload dX2_measureFrom_45 rfl ?_
      refine go_iald dX2_measureFrom_47 (by omega) (k1 _) rfl (by omega) (by omega) ?_
      refine go_top (y := .int (nI (A (a + k)))) (by rw [h4 _ (by omega)]) ?_
      refine go_i2l dX2_measureFrom_48 rfl ?_
      refine go_top (y := .long (lN (A (a + k)))) (by rw [nI_l hAk]) ?_
      refine go_lmul dX2_measureFrom_49 ?_
      refine go_top (y := .long (lN (W (a + k) * A (a + k)))) (by rw [lN_mul]) ?_
      refine go_ladd dX2_measureFrom_50 ?_
      refine go_top (y := .long (lN (sm (fun i => W i * A i) a (k + 1)))) (by rw [lN_add, sm]) ?_
      refine go_lstore (L' := [_, _, _, _, _, _, _, _, _]) dX2_measureFrom_51 (by decide) rfl ?_
      refine go_lload dX2_measureFrom_53 rfl ?_
      refine go_aload_n dX2_measureFrom_55 rfl ?_
      refine go_get dX2_measureFrom_56 fX2_15 (by omega) (k0 _) rfl ?_
      refine go_iload dX2_measureFrom_59 rfl ?_
      refine go_iald dX2_measureFrom_61 (by omega) (k2 _) rfl (by omega) (by omega) ?_
      refine go_top (y := .int (nI (W (a + k)))) (by rw [h5 _ (by omega)]) ?_
      refine go_i2l dX2_measureFrom_62 rfl ?_
      refine go_top (y := .long (lN (W (a + k)))) (by rw [nI_l hWk]) ?_
      refine go_aload_n dX2_measureFrom_63 rfl ?_
      refine go_get dX2_measureFrom_64 fX2_9 (by omega) (k0 _) rfl ?_
      refine go_iload dX2_measureFrom_67 rfl ?_
      refine go_iald dX2_measureFrom_69 (by omega) (k1 _) rfl (by omega) (by omega) ?_
      refine go_top (y := .int (nI (A (a + k)))) (by rw [h4 _ (by omega)]) ?_
      refine go_i2l dX2_measureFrom_70 rfl ?_
      refine go_top (y := .long (lN (A (a + k)))) (by rw [nI_l hAk]) ?_
      refine go_lmul dX2_measureFrom_71 ?_
      refine go_top (y := .long (lN (W (a + k) * A (a + k)))) (by rw [lN_mul]) ?_
      refine go_aload_n dX2_measureFrom_72 rfl ?_
      refine go_get dX2_measureFrom_73 fX2_9 (by omega) (k0 _) rfl ?_
      refine go_iload dX2_measureFrom_76 rfl ?_
      refine go_iald dX2_measureFrom_78 (by omega) (k1 _) rfl (by omega) (by omega) ?_
      refine go_top (y := .int (nI (A (a + k)))) (by rw [h4 _ (by omega)]) ?_
      refine go_i2l dX2_measureFrom_79 rfl ?_
      refine go_top (y := .long (lN (A (a + k)))) (by rw [nI_l hAk]) ?_
      refine go_lmul dX2_measureFrom_80 ?_
      refine go_top (y := .long (lN (W (a + k) * A (a + k) * A (a + k)))) (by rw [lN_mul]) ?_
      refine go_ladd dX2_measureFrom_81 ?_
      refine go_top (y := .long (lN (sm (fun i => W i * A i * A i) a (k + 1)))) (by rw [lN_add, sm]) ?_
      refine go_lstore (L' := [_, _, _, _, _, _, _, _, _]) dX2_measureFrom_82 (by decide) rfl ?_
      refine go_lload_n dX2_measureFrom_84 rfl ?_
      refine go_lconst (v := lN 0) dX2_measureFrom_85 rfl ?_
      refine go_lcmp dX2_measureFrom_86 ?_
      refine go_if_le (tgt := 117) dX2_measureFrom_87 (by decide) (fun c_87 => ?_) (fun c_87 => ?_)
      · exact absurd ((lg_cmp_le _ _).mp c_87) (fun q => absurd ((pk_lLE (a := sm W a (k + 1)) (b := 0) (by omega) (by decide)).mp q) (by omega))
      · skip
        refine go_aload_n dX2_measureFrom_90 rfl ?_
        refine go_get dX2_measureFrom_91 fX2_20 (by omega) (k0 _) rfl ?_
        refine go_iload_n dX2_measureFrom_94 rfl ?_
        refine go_aald dX2_measureFrom_95 (by omega) (k3 _) (by decide) (by decide) rfl (by omega) (by omega) (hR a (by omega)) ?_
        refine go_iload dX2_measureFrom_96 rfl ?_
        refine go_iconst (v := nI 1) dX2_measureFrom_98 (by decide) ?_
        refine go_iadd dX2_measureFrom_99 ?_
        refine go_top (y := .int (nI (a + k + 1))) (by rw [nI_add]) ?_
        refine go_lload_n dX2_measureFrom_100 rfl ?_
        refine go_lload dX2_measureFrom_101 rfl ?_
        refine go_lmul dX2_measureFrom_103 ?_
        refine go_lload dX2_measureFrom_104 rfl ?_
        refine go_lload dX2_measureFrom_106 rfl ?_
        refine go_lmul dX2_measureFrom_108 ?_
        refine go_lsub dX2_measureFrom_109 ?_
        refine go_ldc2 dX2_measureFrom_110 kX2_47 ?_
        refine go_lload_n dX2_measureFrom_113 rfl ?_
        refine go_ldiv dX2_measureFrom_114 (fun q => absurd ((pk_lEQ (a := sm W a (k + 1)) (b := 0) (by omega) (by decide)).mp q) (by omega)) ?_
        refine go_lmul dX2_measureFrom_115 ?_
        refine go_top (y := .long (spr A W a (a + k + 1))) (by rw [spr_eq hpos hle, spr, show a + k + 1 - a = k + 1 by omega]) ?_
        refine go_last dX2_measureFrom_116 (by omega) hset_same rfl (by omega) (by omega) ?_
        rw [hset_hset]
        refine go_inc (L' := [_, _, _, _, _, _, _, _, _]) dX2_measureFrom_117 rfl (by decide) rfl ?_
        refine go_goto (tgt := 11) dX2_measureFrom_120 (by decide) ?_
        refine go_eqL ?_ (ih (k + 1) _ (by omega) (fun j q1 q2 => ?_))
        · rfl
        · by_cases e : j = a + k + 1
          · subst e; rw [pk_uLs]
          · rw [pk_uLn e]; exact hF j q1 (by omega)
theorem sm_mono (f : Nat → Nat) (a : Nat) {m m' : Nat} (h : m ≤ m') : sm f a m ≤ sm f a m' := by
  induction m' with
  | zero => rw [show m = 0 by omega]; exact Nat.le_refl _
  | succ m' ih =>
    rcases Nat.lt_or_ge m (m' + 1) with q | q
    · have := ih (by omega)
      rw [sm]
      omega
    · rw [show m = m' + 1 by omega]; exact Nat.le_refl _
theorem run_measure (d : Nat) {N n a : Nat} {h : gH} {A W : Nat → Nat} (hN : 79 ≤ N) (hA : ∀ i, i < n → A i < 2 ^ 31) (hW0 : ∀ i, i < n → 0 < W i) (hW : sm W a (n - a) ≤ 24) (hR : Lr h) (hL : Lc h n A W) (ha : a < n) : Run d yX2_measureFrom cX2_measureFrom 9 none [.ref 50, .int (nI a)] h N 0 0 (fun x h' N' => x = none ∧ N' = N ∧ (∃ F', h' = hset h (54 + a) (.inl (1, 25, .inr (.inl F'))) ∧ ∀ j, a < j → j ≤ n → F' j = spr A W a j)) := by
  obtain ⟨R, h53, hR1, hR2⟩ := hR
  obtain ⟨F, hF⟩ := hR2 a (by obtain ⟨_, _, _, _, _, q, _⟩ := hL; omega)
  refine Run.of (ini := false) (L := [_, _, _, _, _, _, _, _, _]) mX2_measureFrom (fun h => by cases h) rfl (Nat.le_of_ble_eq_true rfl) rfl ?_
  refine go_lconst (v := lN 0) dX2_measureFrom_0 rfl ?_
  refine go_lstore_n (L' := [_, _, _, _, _, _, _, _, _]) dX2_measureFrom_1 rfl (by decide) rfl ?_
  refine go_lconst (v := lN 0) dX2_measureFrom_2 rfl ?_
  refine go_lstore (L' := [_, _, _, _, _, _, _, _, _]) dX2_measureFrom_3 (by decide) rfl ?_
  refine go_lconst (v := lN 0) dX2_measureFrom_5 rfl ?_
  refine go_lstore (L' := [_, _, _, _, _, _, _, _, _]) dX2_measureFrom_6 (by decide) rfl ?_
  refine go_iload_n dX2_measureFrom_8 rfl ?_
  refine go_istore (L' := [_, _, _, _, _, _, _, _, _]) dX2_measureFrom_9 (by decide) rfl ?_
  have e : h = hset h (54 + a) (.inl (1, 25, .inr (.inl F))) := by funext j; by_cases q : j = 54 + a; (subst q; rw [hset_same]; exact hF); (rw [hset_ne q])
  refine go_eqh e ?_
  exact measure_loop hN hA hW0 hW (fun m hm => Nat.le_trans (sm_mono W a hm) hW) h53 hR1 hL ha (n - a) 0 F (by omega) (fun j q1 q2 => absurd q1 (by omega))
end
section
/-! ===== Ladder.build, its constructor ===== -/
theorem cF_some {f : Nat → Option Nat} {k v : Nat} (h : f k = some v) : cF f (k + 1) = bump (cF f k) v := by
  funext w
  by_cases e : w = v
  · subst e; simp [cF, bump, h]
  · have : ¬ v = w := fun q => e q.symm
    simp [cF, bump, h, e, this]
theorem cF_none {f : Nat → Option Nat} {k : Nat} (h : f k = none) : cF f (k + 1) = cF f k := by
  funext w
  simp [cF, h]
theorem cF_pos {f : Nat → Option Nat} {v : Nat} : ∀ {k : Nat}, 0 < cF f k v → ∃ x, x < k ∧ f x = some v
  | 0, h => by simp [cF] at h
  | k + 1, h => by
    by_cases e : f k = some v
    · exact ⟨k, by omega, e⟩
    · simp [cF, e] at h
      obtain ⟨x, h1, h2⟩ := cF_pos h
      exact ⟨x, by omega, h2⟩
theorem sm_add (f g : Nat → Nat) (a : Nat) : ∀ m, sm (fun i => f i + g i) a m = sm f a m + sm g a m
  | 0 => rfl
  | m + 1 => by simp only [sm, sm_add f g a m]; omega
theorem sm_cong {f g : Nat → Nat} {a : Nat} : ∀ {m}, (∀ i, a ≤ i → i < a + m → f i = g i) → sm f a m = sm g a m
  | 0, _ => rfl
  | m + 1, h => by rw [sm, sm, sm_cong (fun i h1 h2 => h i h1 (by omega)), h (a + m) (by omega) (by omega)]
theorem sm_split (f : Nat → Nat) (a m : Nat) : ∀ p, sm f a (m + p) = sm f a m + sm f (a + m) p
  | 0 => rfl
  | p + 1 => by rw [← Nat.add_assoc, sm, sm_split f a m p, sm, show a + (m + p) = a + m + p by omega]; omega
theorem sm_zero {f : Nat → Nat} {a : Nat} : ∀ {m}, (∀ i, a ≤ i → i < a + m → f i = 0) → sm f a m = 0
  | 0, _ => rfl
  | m + 1, h => by rw [sm, sm_zero (fun i h1 h2 => h i h1 (by omega)), h (a + m) (by omega) (by omega)]
theorem sm_one {A : Nat → Nat} {v : Nat} : ∀ {m : Nat}, (∀ i j, i < j → j < m → A i < A j) → sm (fun i => if some v = some (A i) then 1 else 0) 0 m ≤ 1
  | 0, _ => by simp [sm]
  | m + 1, h => by
    have ih := sm_one (A := A) (v := v) (m := m) (fun i j h1 h2 => h i j h1 (by omega))
    rw [sm]
    by_cases e : v = A (0 + m)
    · rw [sm_zero (m := m)]
      · simp [e]
      · intro i h1 h2
        have := h i (0 + m) (by omega) (by omega)
        simp
        omega
    · have e2 : ¬ v = A m := by simpa using e
      simp [e2]
      simpa using ih
theorem sm_le_cP {f : Nat → Option Nat} {A : Nat → Nat} {n : Nat} (hA : ∀ i j, i < j → j < n → A i < A j) : ∀ k, sm (fun i => cF f k (A i)) 0 n ≤ cP f k
  | 0 => by
    have e : sm (fun i => cF f 0 (A i)) 0 n = 0 := sm_zero (fun i _ _ => rfl)
    rw [e]; exact Nat.zero_le _
  | k + 1 => by
    have ih := sm_le_cP hA k (f := f)
    show sm (fun i => cF f k (A i) + (if f k = some (A i) then 1 else 0)) 0 n ≤ _
    rw [sm_add, cP]
    cases hq : f k with
    | none =>
      have : sm (fun i => if (none : Option Nat) = some (A i) then 1 else 0) 0 n = 0 := sm_zero (fun i _ _ => by simp)
      rw [this]
      simpa using ih
    | some v =>
      have := sm_one (v := v) hA
      simp only [Option.isSome_some, if_true]
      omega
theorem Srt.total {f : Nat → Option Nat} {A W : Nat → Nat} {n k : Nat} (h : Srt n A W (cF f k)) : sm W 0 n ≤ cP f k := by
  have := sm_le_cP (f := f) h.1 k
  rw [sm_cong (f := W) (g := fun i => cF f k (A i)) (fun i _ hi => (h.2.1 i (by omega)).1)]
  exact this
theorem sm_tail (f : Nat → Nat) {a n : Nat} (h : a ≤ n) : sm f a (n - a) ≤ sm f 0 n := by
  have := sm_split f 0 a (n - a)
  rw [show a + (n - a) = n by omega] at this
  rw [this, Nat.zero_add]
  omega
def Ld (h : gH) (n : Nat) (A W : Nat → Nat) : Prop := Lc h n A W ∧ ∃ R : Nat → Option Nat, h 53 = .inl (6, 25, .inr (.inr (.inr (.inr R)))) ∧ (∀ i, i < 25 → R i = some (54 + i)) ∧ ∀ i, i < 25 → ∃ F, Rw h (54 + i) F ∧ ∀ j, i < n → i < j → j ≤ n → F j = spr A W i j
theorem Ld.fr {h h' : gH} {lo hi n : Nat} {A W : Nat → Nat} (q : Ld h n A W) (f : Fr lo hi h h') (hx : 79 ≤ lo ∨ hi ≤ 50) : Ld h' n A W := by
  obtain ⟨hL, R, h0, h1, h2⟩ := q
  refine ⟨hL.fr f (by omega), R, (f _ (by omega)).trans h0, h1, fun i hi => ?_⟩
  obtain ⟨F, hF, hG⟩ := h2 i hi
  exact ⟨F, (f _ (by omega)).trans hF, hG⟩
/-- the ladder's cells, whatever they hold -/
def Ls (h : gH) : Prop := (∃ (FA FW : Nat → Int32) (z : Int32), h 50 = .inr (2, [.ref 51, .ref 52, .ref 53, .int z]) ∧ h 51 = .inl (0, 24, .inl FA) ∧ h 52 = .inl (0, 24, .inl FW)) ∧ Lr h
theorem Ls.fr {h h' : gH} {lo hi : Nat} (q : Ls h) (f : Fr lo hi h h') (hx : 79 ≤ lo ∨ hi ≤ 50) : Ls h' := by
  obtain ⟨⟨FA, FW, z, h0, h1, h2⟩, hR⟩ := q
  exact ⟨⟨FA, FW, z, (f _ (by omega)).trans h0, (f _ (by omega)).trans h1, (f _ (by omega)).trans h2⟩, hR.fr f (by omega)⟩
theorem Ld.ls {h : gH} {n : Nat} {A W : Nat → Nat} (q : Ld h n A W) : Ls h := by
  obtain ⟨⟨FA, FW, h0, h1, h2, -⟩, R, r0, r1, r2⟩ := q
  refine ⟨⟨FA, FW, _, h0, h1, h2⟩, R, r0, r1, fun i hi => ?_⟩
  obtain ⟨F, hF, -⟩ := r2 i hi
  exact ⟨F, hF⟩
set_option maxRecDepth 100000 in
theorem build_loop2 {d N n : Nat} {A W cnt : Nat → Nat} {w3 w4 w5 : Option Value} (hN : 79 ≤ N) (hA : ∀ i, i < n → A i < 2 ^ 31) (hW0 : ∀ i, i < n → 0 < W i) (hW : sm W 0 n ≤ 24) : ∀ (m k : Nat) (h : gH), k + m = n → Lc h n A W → Lr h → (∀ i, i < k → ∃ F, Rw h (54 + i) F ∧ ∀ j, i < j → j ≤ n → F j = spr A W i j) → Go none RX2 cX2_build 6 none false (d + 1) 48 [some (.ref 50), some (.ref 1), some (.int (nI k)), w3, w4, w5] [] h N 0 0 (fun x h' N' => x = none ∧ N' = N ∧ Ld h' n A W ∧ Fr 54 79 h h') := by
  intro m
  induction m with
  | zero =>
    intro k h hk hL hR hD
    obtain ⟨FA, FW, h0, h1, h2, h3, h4, h5⟩ := id hL
    obtain ⟨R, r0, r1, r2⟩ := id hR
    have e : k = n := by omega
    subst e
    refine go_iload_n dX2_build_48 rfl ?_
    refine go_aload_n dX2_build_49 rfl ?_
    refine go_get dX2_build_50 fX2_23 (by omega) h0 rfl ?_
    refine go_icmp_ge (tgt := 67) dX2_build_53 (by decide) (fun c_53 => ?_) (fun c_53 => ?_)
    · skip
      refine go_vret dX2_build_67 rfl ?_
      refine ⟨rfl, rfl, ⟨hL, R, r0, r1, fun i hi => ?_⟩, Fr.rf⟩
      by_cases q : i < k
      · obtain ⟨F, f1, f2⟩ := hD i q
        exact ⟨F, f1, fun j _ q1 q2 => f2 j q1 q2⟩
      · obtain ⟨F, f1⟩ := r2 i hi
        exact ⟨F, f1, fun j q0 => absurd q0 q⟩
    · exact absurd (nI_le (Nat.le_refl _) (by omega)) c_53
  | succ m ih =>
    intro k h hk hL hR hD
    obtain ⟨FA, FW, h0, h1, h2, h3, h4, h5⟩ := id hL
    obtain ⟨R, r0, r1, r2⟩ := id hR
    have hkn : k < n := by omega
    refine go_iload_n dX2_build_48 rfl ?_
    refine go_aload_n dX2_build_49 rfl ?_
    refine go_get dX2_build_50 fX2_23 (by omega) h0 rfl ?_
    refine go_icmp_ge (tgt := 67) dX2_build_53 (by decide) (fun c_53 => ?_) (fun c_53 => ?_)
    · exact absurd c_53 (nI_ge hkn (by omega))
    · skip
      refine go_aload_n dX2_build_56 rfl ?_
      refine go_iload_n dX2_build_57 rfl ?_
      refine go_iv dX2_build_58 mX2_measureFrom iX2_34 (run_measure d hN hA hW0 (Nat.le_trans (sm_tail W (by omega)) hW) hR hL hkn) rfl rfl (by omega) h0 rfl (Nat.le_of_ble_eq_true rfl) (Nat.zero_le _) (Nat.zero_le _) (fun v_58 h_58 n_58 q_58 => ?_)
      obtain ⟨rfl, rfl, F', rfl, hF'⟩ := q_58
      refine go_inc (L' := [_, _, _, _, _, _]) dX2_build_61 rfl (by decide) rfl ?_
      refine go_goto (tgt := 48) dX2_build_64 (by decide) ?_
      have fr : Fr (54 + k) (55 + k) h (hset h (54 + k) (.inl (1, 25, .inr (.inl F')))) := Fr.rf.set (by omega) (by omega)
      have hR' : Lr (hset h (54 + k) (.inl (1, 25, .inr (.inl F')))) := by
        refine ⟨R, (fr _ (by omega)).trans r0, r1, fun i hi => ?_⟩
        by_cases q : i = k
        · subst q; exact ⟨F', hset_same⟩
        · obtain ⟨F, f1⟩ := r2 i hi
          exact ⟨F, (fr _ (by omega)).trans f1⟩
      have hD' : ∀ i, i < k + 1 → ∃ F, Rw (hset h (54 + k) (.inl (1, 25, .inr (.inl F')))) (54 + i) F ∧ ∀ j, i < j → j ≤ n → F j = spr A W i j := by
        intro i hi
        by_cases q : i = k
        · subst q; exact ⟨F', hset_same, hF'⟩
        · obtain ⟨F, f1, f2⟩ := hD i (by omega)
          exact ⟨F, (fr _ (by omega)).trans f1, f2⟩
      exact go_Q (fun v h' N' q => ⟨q.1, q.2.1, q.2.2.1, (fr.wide (by omega) (by omega)).trans q.2.2.2⟩) (ih (k + 1) _ (by omega) (hL.fr fr (by omega)) hR' hD')
set_option maxRecDepth 100000 in
theorem build_loop1 {d N : Nat} {c : CD} (hN : 79 ≤ N) (hw : ∀ x, x < 100 → ∀ v, c.1 x = some v → v ≤ 999) (hp : cP c.1 100 ≤ 24) : ∀ (m k n : Nat) (A W : Nat → Nat) (h : gH) (w5 : Option Value), k + m = 100 → Ct h 1 c → Lc h n A W → Lr h → Srt n A W (cF c.1 k) → n ≤ cP c.1 k → Go none RX2 cX2_build 6 none false (d + 2) 16 [some (.ref 50), some (.ref 1), some (.ref 2), some (.int (nI 100)), some (.int (nI k)), w5] [] h N 0 0 (fun x h' N' => x = none ∧ N' = N ∧ (∃ n A W, Ld h' n A W ∧ Srt n A W (cF c.1 100)) ∧ Fr 50 79 h h') := by
  intro m
  have hcP : ∀ a b, a ≤ b → cP c.1 a ≤ cP c.1 b := by
    intro a b hab
    induction b with
    | zero => rw [show a = 0 by omega]; exact Nat.le_refl _
    | succ b ih =>
      rcases Nat.lt_or_ge a (b + 1) with q | q
      · have := ih (by omega)
        rw [cP]
        omega
      · rw [show a = b + 1 by omega]; exact Nat.le_refl _
  induction m with
  | zero =>
    intro k n A W h w5 hk hC hL hR hS hn
    have e : k = 100 := by omega
    subst e
    have hA9 : ∀ i, i < n → A i ≤ 999 := hS.le (fun v hv => by obtain ⟨x, h1, h2⟩ := cF_pos hv; exact hw x h1 v h2)
    refine go_iload dX2_build_16 rfl ?_
    refine go_iload_n dX2_build_18 rfl ?_
    refine go_icmp_ge (tgt := 46) dX2_build_19 (by decide) (fun c_19 => ?_) (fun c_19 => ?_)
    · skip
      refine go_iconst (v := nI 0) dX2_build_46 (by decide) ?_
      refine go_istore_n (L' := [_, _, _, _, _, _]) dX2_build_47 rfl (by decide) rfl ?_
      exact go_Q (fun v h' N' q => ⟨q.1, q.2.1, ⟨n, A, W, q.2.2.1, hS⟩, q.2.2.2.wide (by omega) (by omega)⟩) (build_loop2 (d := d + 1) (cnt := A) hN (fun i hi => by have := hA9 i hi; omega) (fun i hi => by have := hS.2.1 i hi; omega) (Nat.le_trans hS.total hp) n 0 h (by omega) hL hR (fun i hi => absurd hi (by omega)))
    · exact absurd (nI_le (Nat.le_refl _) (by decide)) c_19
  | succ m ih =>
    intro k n A W h w5 hk hC hL hR hS hn
    obtain ⟨F, G, g0, g1, g2, hf, hg⟩ := id hC
    obtain ⟨FA, FW, h0, h1, h2, h3, h4, h5⟩ := id hL
    refine go_iload dX2_build_16 rfl ?_
    refine go_iload_n dX2_build_18 rfl ?_
    refine go_icmp_ge (tgt := 46) dX2_build_19 (by decide) (fun c_19 => ?_) (fun c_19 => ?_)
    · exact absurd c_19 (nI_ge (by omega) (by decide))
    · skip
      refine go_aload_n dX2_build_22 rfl ?_
      refine go_iload dX2_build_23 rfl ?_
      refine go_iald dX2_build_25 (by omega) g1 rfl (by omega) (by omega) ?_
      refine go_top (y := .int (nO (c.1 k))) (by rw [hf k (by omega)]) ?_
      refine go_istore (L' := [_, _, _, _, _, _]) dX2_build_26 (by decide) rfl ?_
      refine go_iload dX2_build_28 rfl ?_
      refine go_iconst (v := (-1)) dX2_build_30 (by decide) ?_
      refine go_icmp_eq (tgt := 40) dX2_build_31 (by decide) (fun c_31 => ?_) (fun c_31 => ?_)
      · skip
        have hq : c.1 k = none := by
          cases hq : c.1 k with
          | none => rfl
          | some v => rw [hq] at c_31; exact absurd c_31 (nI_ne_m1 (by have := hw k (by omega) v hq; omega))
        have hS' : Srt n A W (cF c.1 (k + 1)) := by rw [cF_none hq]; exact hS
        have hn' : n ≤ cP c.1 (k + 1) := by rw [cP, hq]; simpa using hn
        refine go_inc (L' := [_, _, _, _, _, _]) dX2_build_40 rfl (by decide) rfl ?_
        refine go_goto (tgt := 16) dX2_build_43 (by decide) ?_
        first | exact go_Q (fun v h' N' q => ⟨q.1, q.2.1, q.2.2.1, (hF1.wide (by omega) (by omega)).trans q.2.2.2⟩) (ih (k + 1) n1 A1 W1 _ _ (by omega) (hC.fr hF1 (by omega)) hL1 (hR.fr hF1 (by omega)) hS1' hn1') | exact ih (k + 1) n A W h _ (by omega) hC hL hR hS' hn'
      · skip
        obtain ⟨v, hq⟩ : ∃ v, c.1 k = some v := by
          cases hq : c.1 k with
          | none => rw [hq] at c_31; exact absurd rfl c_31
          | some v => exact ⟨v, rfl⟩
        have hv9 := hw k (by omega) v hq
        have h24 : n < 24 := by
          have := hcP (k + 1) 100 (by omega)
          rw [cP, hq] at this
          simp at this
          omega
        rw [hq]
        refine go_aload_n dX2_build_34 rfl ?_
        refine go_iload dX2_build_35 rfl ?_
        refine go_iv dX2_build_37 mX2_add iX2_30 (run_add d (v := v) hN hv9 h24 (fun w hw' => by obtain ⟨x, q1, q2⟩ := cF_pos hw'; exact hw x (by omega) w q2) hS hL) rfl rfl (by omega) h0 rfl (Nat.le_of_ble_eq_true rfl) (Nat.zero_le _) (Nat.zero_le _) (fun v_37 h_37 n_37 q_37 => ?_)
        obtain ⟨rfl, rfl, ⟨n1, A1, W1, hL1, hS1, hn1⟩, hF1⟩ := q_37
        have hS1' : Srt n1 A1 W1 (cF c.1 (k + 1)) := by rw [cF_some hq]; exact hS1
        have hn1' : n1 ≤ cP c.1 (k + 1) := by rw [cP, hq]; simp; omega
        refine go_inc (L' := [_, _, _, _, _, _]) dX2_build_40 rfl (by decide) rfl ?_
        refine go_goto (tgt := 16) dX2_build_43 (by decide) ?_
        first | exact go_Q (fun v h' N' q => ⟨q.1, q.2.1, q.2.2.1, (hF1.wide (by omega) (by omega)).trans q.2.2.2⟩) (ih (k + 1) n1 A1 W1 _ _ (by omega) (hC.fr hF1 (by omega)) hL1 (hR.fr hF1 (by omega)) hS1' hn1') | exact ih (k + 1) n A W h _ (by omega) hC hL hR hS' hn'
theorem run_build (d : Nat) {N : Nat} {h : gH} {c : CD} (hN : 79 ≤ N) (hw : ∀ x, x < 100 → ∀ v, c.1 x = some v → v ≤ 999) (hp : cP c.1 100 ≤ 24) (hC : Ct h 1 c) (hL : Ls h) : Run (d + 2) yX2_build cX2_build 6 none [.ref 50, .ref 1] h N 0 0 (fun x h' N' => x = none ∧ N' = N ∧ (∃ n A W, Ld h' n A W ∧ Srt n A W (cF c.1 100)) ∧ Fr 50 79 h h') := by
  obtain ⟨F, G, g0, g1, g2, hf, hg⟩ := id hC
  obtain ⟨⟨FA, FW, z, h0, h1, h2⟩, hR⟩ := hL
  refine Run.of (ini := false) (L := [_, _, _, _, _, _]) mX2_build (fun h => by cases h) rfl (Nat.le_of_ble_eq_true rfl) rfl ?_
  refine go_aload_n dX2_build_0 rfl ?_
  refine go_iconst (v := nI 0) dX2_build_1 (by decide) ?_
  refine go_put (fs' := [_, _, _, _]) dX2_build_2 fX2_23 (by omega) h0 (Nat.le_of_ble_eq_true rfl) (Or.inl rfl) ⟨_, _, _, rfl, Or.inl rfl⟩ rfl ?_
  have fr : Fr 50 51 h (hset h 50 (.inr (2, [.ref 51, .ref 52, .ref 53, .int (nI 0)]))) := Fr.rf.set (by omega) (by omega)
  refine go_aload_n dX2_build_5 rfl ?_
  refine go_get dX2_build_6 fX2_27 (by omega) ((fr _ (by omega)).trans g0) rfl ?_
  refine go_astore_n (L' := [_, _, _, _, _, _]) dX2_build_9 rfl (by decide) rfl ?_
  refine go_aload_n dX2_build_10 rfl ?_
  refine go_alen dX2_build_11 (by omega) ((fr _ (by omega)).trans g1) (by decide) ?_
  refine go_istore_n (L' := [_, _, _, _, _, _]) dX2_build_12 rfl (by decide) rfl ?_
  refine go_iconst (v := nI 0) dX2_build_13 (by decide) ?_
  refine go_istore (L' := [_, _, _, _, _, _]) dX2_build_14 (by decide) rfl ?_
  exact go_Q (fun v h' N' q => ⟨q.1, q.2.1, q.2.2.1, (fr.wide (by omega) (by omega)).trans q.2.2.2⟩) (build_loop1 hN hw hp 100 0 0 (fun _ => 0) (fun _ => 0) _ none (by omega) (hC.fr fr (by omega)) ⟨FA, FW, hset_same, (fr _ (by omega)).trans h1, (fr _ (by omega)).trans h2, by omega, fun i hi => absurd hi (by omega), fun i hi => absurd hi (by omega)⟩ (hR.fr fr (by omega)) Srt.zero (by omega))
set_option maxRecDepth 100000 in
theorem run_ladder (d : Nat) {h : gH} (h0 : h 50 = .inr (2, [.null, .null, .null, .int 0])) : Run (d + 1) yX2_init cX2_init 1 none [.ref 50] h 51 28 698 (fun v h' N' => v = none ∧ N' = 79 ∧ Ls h' ∧ Fr 50 79 h h') := by
  refine Run.of (ini := true) (L := [_]) mX2_init (fun h => rfl) rfl (Nat.le_of_ble_eq_true rfl) rfl ?_
  refine go_aload_n dX2_init_0 rfl ?_
  refine go_obj dX2_init_1 oX2 (Nat.le_of_ble_eq_true rfl) ?_
  refine go_aload_n dX2_init_4 rfl ?_
  refine go_bipush (v := nI 24) dX2_init_5 (by decide) ?_
  refine go_newI (n := 24) dX2_init_7 rfl (by omega) (by decide) (by decide) ?_
  refine go_put (fs' := [_, _, _, _]) dX2_init_9 fX2_9 (by omega) ((hset_ne (by omega)).trans h0) (Nat.le_of_ble_eq_true rfl) rfl ⟨_, _, _, rfl, Or.inr ⟨rfl, rfl, rfl⟩⟩ rfl ?_
  refine go_aload_n dX2_init_12 rfl ?_
  refine go_bipush (v := nI 24) dX2_init_13 (by decide) ?_
  refine go_newI (n := 24) dX2_init_15 rfl (by omega) (by decide) (by decide) ?_
  refine go_put (fs' := [_, _, _, _]) dX2_init_17 fX2_15 (by omega) ((hset_ne (by omega)).trans hset_same) (Nat.le_of_ble_eq_true rfl) rfl ⟨_, _, _, rfl, Or.inr ⟨rfl, rfl, rfl⟩⟩ rfl ?_
  refine go_aload_n dX2_init_20 rfl ?_
  refine go_bipush (v := nI 25) dX2_init_21 (by decide) ?_
  refine go_bipush (v := nI 25) dX2_init_23 (by decide) ?_
  refine go_mna (n := 25) (w := 25) (kd := 6) (ki := 1) (ty := .long) dX2_init_25 nX2_18 ac_long (Or.inr ⟨rfl, rfl, rfl, rfl⟩) rfl rfl (by omega) (by omega) (by decide) (by decide) ?_
  have hg : ∀ (h : gH) (z : gC) (j : Nat), j < 53 → hgrid h 53 25 6 z j = h j := fun h z j hj => by unfold hgrid; rw [if_neg (by omega), if_neg (by omega)]
  have hg2 : ∀ (h : gH) (z : gC) (j : Nat), 79 ≤ j → hgrid h 53 25 6 z j = h j := fun h z j hj => by unfold hgrid; rw [if_neg (by omega), if_neg (by omega)]
  refine go_put (fs' := [_, _, _, _]) dX2_init_29 fX2_20 (by omega) ((hg _ _ _ (by omega)).trans hset_same) (Nat.le_of_ble_eq_true rfl) rfl ⟨_, _, _, rfl, Or.inr ⟨rfl, rfl, rfl⟩⟩ rfl ?_
  refine go_vret dX2_init_32 rfl ?_
  refine ⟨rfl, rfl, ⟨⟨fun _ => 0, fun _ => 0, 0, hset_same, ?_, ?_⟩, fun i => if i < 25 then some (53 + 1 + i) else none, ?_, fun i hi => ?_, fun i hi => ⟨fun _ => 0, ?_⟩⟩, fun x hx => ?_⟩
  · rw [hset_ne (by omega), hg _ _ _ (by omega), hset_ne (by omega), hset_ne (by omega), hset_ne (by omega), hset_same]
  · rw [hset_ne (by omega), hg _ _ _ (by omega), hset_ne (by omega), hset_same]
  · rw [hset_ne (by omega)]; rfl
  · show (if i < 25 then some (53 + 1 + i) else none) = _; rw [if_pos hi]
  · show hset _ 50 _ (54 + i) = _; rw [hset_ne (by omega)]; unfold hgrid; rw [if_neg (by omega), if_pos (by omega)]
  · rw [hset_ne (by omega)]
    rcases hx with hx | hx
    · rw [hg _ _ _ (by omega), hset_ne (by omega), hset_ne (by omega), hset_ne (by omega), hset_ne (by omega)]
    · rw [hg2 _ _ _ (by omega), hset_ne (by omega), hset_ne (by omega), hset_ne (by omega), hset_ne (by omega)]
end
section
/-! ===== partings from behind ===== -/
/-- the least of x a .. x (a + m), and where it stands first -/
def fm (x : Nat → Int64) (a : Nat) : Nat → Int64 × Nat
  | 0 => (x a, a)
  | m + 1 => if x (a + m + 1) < (fm x a m).1 then (x (a + m + 1), a + m + 1) else fm x a m
theorem fm_in (x : Nat → Int64) (a : Nat) : ∀ m, a ≤ (fm x a m).2 ∧ (fm x a m).2 ≤ a + m
  | 0 => ⟨Nat.le_refl _, Nat.le_refl _⟩
  | m + 1 => by
    have := fm_in x a m
    unfold fm
    split
    · exact ⟨by omega, by show a + m + 1 ≤ _; omega⟩
    · omega
theorem fm_val (x : Nat → Int64) (a : Nat) : ∀ m, (fm x a m).1 = x (fm x a m).2
  | 0 => rfl
  | m + 1 => by
    have := fm_val x a m
    unfold fm
    split
    · rfl
    · exact this
theorem fm_cong {x y : Nat → Int64} {a : Nat} : ∀ {m}, (∀ t, a ≤ t → t ≤ a + m → x t = y t) → fm x a m = fm y a m
  | 0, h => by simp only [fm]; rw [h a (by omega) (by omega)]
  | m + 1, h => by
    have ih := fm_cong (x := x) (y := y) (a := a) (m := m) (fun t h1 h2 => h t h1 (by omega))
    simp only [fm, ih]
    rw [h (a + m + 1) (by omega) (by omega)]
/-- the best parting in k of all from a on: its spread with the costs, and where its second run begins -/
def bst (n : Nat) (S : Nat → Nat → Int64) (fee : Nat → Int64) : Nat → Nat → Int64 × Nat
  | 0, _ => (0, 0)
  | 1, a => (S a n, n)
  | k + 2, a => fm (fun t => S a t + fee t + (bst n S fee (k + 1) t).1) (a + 1) (n - (k + 2) - a)
theorem bst_in {n : Nat} {S : Nat → Nat → Int64} {fee : Nat → Int64} : ∀ {k a : Nat}, 1 ≤ k → a + k ≤ n → a < (bst n S fee k a).2 ∧ (bst n S fee k a).2 + (k - 1) ≤ n
  | 0, a, h, _ => absurd h (by omega)
  | 1, a, _, h => by show a < n ∧ n + 0 ≤ n; omega
  | k + 2, a, _, h => by
    have := fm_in (fun t => S a t + fee t + (bst n S fee (k + 1) t).1) (a + 1) (n - (k + 2) - a)
    unfold bst
    omega
/-- where the runs begin -/
def bg (n : Nat) (S : Nat → Nat → Int64) (fee : Nat → Int64) (r : Nat) : Nat → Nat
  | 0 => 0
  | i + 1 => (bst n S fee (r - i) (bg n S fee r i)).2
def tot (n : Nat) (S : Nat → Nat → Int64) (fee : Nat → Int64) (r : Nat) : Nat → Int64
  | 0 => 0
  | i + 1 => tot n S fee r i + S (bg n S fee r i) (bg n S fee r (i + 1))
theorem bg_in {n r : Nat} {S : Nat → Nat → Int64} {fee : Nat → Int64} (hr : r ≤ n) : ∀ {i : Nat}, i ≤ r → bg n S fee r i + (r - i) ≤ n ∧ i ≤ bg n S fee r i
  | 0, _ => ⟨by show 0 + _ ≤ _; omega, Nat.zero_le _⟩
  | i + 1, h => by
    have ih := bg_in hr (S := S) (fee := fee) (i := i) (by omega)
    have := bst_in (n := n) (S := S) (fee := fee) (k := r - i) (a := bg n S fee r i) (by omega) (by omega)
    show (bst n S fee (r - i) (bg n S fee r i)).2 + _ ≤ _ ∧ _ ≤ (bst n S fee (r - i) (bg n S fee r i)).2
    omega
theorem bg_end {n r : Nat} {S : Nat → Nat → Int64} {fee : Nat → Int64} (hr : r ≤ n) (h0 : 0 < r) : bg n S fee r r = n := by
  obtain ⟨q, rfl⟩ : ∃ q, r = q + 1 := ⟨r - 1, by omega⟩
  show (bst n S fee (q + 1 - q) _).2 = n
  rw [show q + 1 - q = 1 by omega]
  rfl
theorem bg_lt {n r : Nat} {S : Nat → Nat → Int64} {fee : Nat → Int64} (hr : r ≤ n) {i : Nat} (h : i < r) : bg n S fee r i < bg n S fee r (i + 1) := by
  have ih := bg_in hr (S := S) (fee := fee) (i := i) (by omega)
  exact (bst_in (n := n) (S := S) (fee := fee) (k := r - i) (a := bg n S fee r i) (by omega) (by omega)).1
/-! ===== Ways: cell w; best w + 1, rows w + 2 .. w + 8; second w + 9, rows w + 10 .. w + 16; fees w + 17 ===== -/
def Wy (h : gH) (w : Nat) (B : Nat → Nat → Int64) (E : Nat → Nat → Int32) (Fe : Nat → Int64) : Prop := ∃ R1 R2 : Nat → Option Nat, h w = .inr (7, [.ref (w + 1), .ref (w + 9), .ref (w + 17)]) ∧ h (w + 1) = .inl (6, 7, .inr (.inr (.inr (.inr R1)))) ∧ (∀ i, i < 7 → R1 i = some (w + 2 + i)) ∧ h (w + 9) = .inl (5, 7, .inr (.inr (.inr (.inr R2)))) ∧ (∀ i, i < 7 → R2 i = some (w + 10 + i)) ∧ (∀ i, i < 7 → h (w + 2 + i) = .inl (1, 25, .inr (.inl (B i)))) ∧ (∀ i, i < 7 → h (w + 10 + i) = .inl (0, 25, .inl (E i))) ∧ h (w + 17) = .inl (1, 25, .inr (.inl Fe))
theorem Wy.fr {h h' : gH} {lo hi w : Nat} {B : Nat → Nat → Int64} {E : Nat → Nat → Int32} {Fe : Nat → Int64} (q : Wy h w B E Fe) (f : Fr lo hi h h') (hx : w + 18 ≤ lo ∨ hi ≤ w) : Wy h' w B E Fe := by
  obtain ⟨R1, R2, h0, h1, h2, h3, h4, h5, h6, h7⟩ := q
  exact ⟨R1, R2, (f _ (by omega)).trans h0, (f _ (by omega)).trans h1, h2, (f _ (by omega)).trans h3, h4, fun i hi => (f _ (by omega)).trans (h5 i hi), fun i hi => (f _ (by omega)).trans (h6 i hi), (f _ (by omega)).trans h7⟩
def u2L (B : Nat → Nat → Int64) (k a : Nat) (x : Int64) : Nat → Nat → Int64 := fun i => if i = k then vp_updL (B i) a x else B i
def u2I (B : Nat → Nat → Int32) (k a : Nat) (x : Int32) : Nat → Nat → Int32 := fun i => if i = k then upd (B i) a x else B i
theorem u2L_s (B : Nat → Nat → Int64) (k a : Nat) (x : Int64) : u2L B k a x k a = x := by simp [u2L, vp_updL]
theorem u2L_n {B : Nat → Nat → Int64} {k a i j : Nat} {x : Int64} (h : i ≠ k ∨ j ≠ a) : u2L B k a x i j = B i j := by
  by_cases e : i = k
  · have : j ≠ a := by omega
    simp [u2L, vp_updL, e, this]
  · simp [u2L, e]
theorem u2I_s (B : Nat → Nat → Int32) (k a : Nat) (x : Int32) : u2I B k a x k a = x := by simp [u2I, upd]
theorem u2I_n {B : Nat → Nat → Int32} {k a i j : Nat} {x : Int32} (h : i ≠ k ∨ j ≠ a) : u2I B k a x i j = B i j := by
  by_cases e : i = k
  · have : j ≠ a := by omega
    simp [u2I, upd, e, this]
  · simp [u2I, e]
theorem Wy.putB {h : gH} {w k a : Nat} {B : Nat → Nat → Int64} {E : Nat → Nat → Int32} {Fe : Nat → Int64} {x : Int64} (q : Wy h w B E Fe) (hk : k < 7) : Wy (hset h (w + 2 + k) (.inl (1, 25, .inr (.inl (vp_updL (B k) a x))))) w (u2L B k a x) E Fe := by
  obtain ⟨R1, R2, h0, h1, h2, h3, h4, h5, h6, h7⟩ := q
  refine ⟨R1, R2, (hset_ne (by omega)).trans h0, (hset_ne (by omega)).trans h1, h2, (hset_ne (by omega)).trans h3, h4, fun i hi => ?_, fun i hi => (hset_ne (by omega)).trans (h6 i hi), (hset_ne (by omega)).trans h7⟩
  by_cases e : i = k
  · subst e
    rw [hset_same]
    simp [u2L]
  · rw [hset_ne (by omega), h5 i hi]
    simp [u2L, e]
theorem Wy.putE {h : gH} {w k a : Nat} {B : Nat → Nat → Int64} {E : Nat → Nat → Int32} {Fe : Nat → Int64} {x : Int32} (q : Wy h w B E Fe) (hk : k < 7) : Wy (hset h (w + 10 + k) (.inl (0, 25, .inl (upd (E k) a x)))) w B (u2I E k a x) Fe := by
  obtain ⟨R1, R2, h0, h1, h2, h3, h4, h5, h6, h7⟩ := q
  refine ⟨R1, R2, (hset_ne (by omega)).trans h0, (hset_ne (by omega)).trans h1, h2, (hset_ne (by omega)).trans h3, h4, fun i hi => (hset_ne (by omega)).trans (h5 i hi), fun i hi => ?_, (hset_ne (by omega)).trans h7⟩
  by_cases e : i = k
  · subst e
    rw [hset_same]
    simp [u2I]
  · rw [hset_ne (by omega), h6 i hi]
    simp [u2I, e]
section WaysC
variable {d N n w k a : Nat} {h : gH} {A W : Nat → Nat} {B : Nat → Nat → Int64} {E : Nat → Nat → Int32} {Fe : Nat → Int64}
/-- what is compared -/
def cand (S : Nat → Nat → Int64) (Fe : Nat → Int64) (b : Nat → Int64) (a : Nat) : Nat → Int64 := fun t => S a t + Fe t + b t
set_option maxRecDepth 100000 in
theorem choose_one {least : Int64} {chosen t : Nat} {w8 w9 : Option Value} {Q : Option Value → gH → Nat → Prop} (hN : w + 18 ≤ N) (hw : 79 ≤ w) (hk : 2 ≤ k) (hk6 : k ≤ 6) (ht : a < t) (htn : t + k ≤ n + 1) (hn : n ≤ 24) (hL : Ld h n A W) (hY : Wy h w B E Fe)
    (hyes : cand (spr A W) Fe (B (k - 1)) a t < least → ∀ w8 w9, Go none RX7 cX7_choose 10 none false d 15 [some (.ref w), some (.ref 50), some (.int (nI k)), some (.int (nI a)), some (.long (cand (spr A W) Fe (B (k - 1)) a t)), none, some (.int (nI t)), some (.int (nI (t + 1))), w8, w9] [] h N 0 0 Q)
    (hno : ¬ cand (spr A W) Fe (B (k - 1)) a t < least → ∀ w8 w9, Go none RX7 cX7_choose 10 none false d 15 [some (.ref w), some (.ref 50), some (.int (nI k)), some (.int (nI a)), some (.long least), none, some (.int (nI chosen)), some (.int (nI (t + 1))), w8, w9] [] h N 0 0 Q) :
    Go none RX7 cX7_choose 10 none false d 15 [some (.ref w), some (.ref 50), some (.int (nI k)), some (.int (nI a)), some (.long least), none, some (.int (nI chosen)), some (.int (nI t)), w8, w9] [] h N 0 0 Q := by
  obtain ⟨R1, R2, y0, y1, y2, y3, y4, y5, y6, y7⟩ := id hY
  obtain ⟨⟨FA, FW, l0, l1, l2, l3, l4, l5⟩, R, r0, r1, r2⟩ := id hL
  obtain ⟨F, f0, f1⟩ := r2 a (by omega)
  refine go_iload dX7_choose_15 rfl ?_
  refine go_iload_n dX7_choose_17 rfl ?_
  refine go_iadd dX7_choose_18 ?_
  refine go_top (y := .int (nI (t + k))) (by rw [nI_add]) ?_
  refine go_iconst (v := nI 1) dX7_choose_19 (by decide) ?_
  refine go_isub dX7_choose_20 ?_
  refine go_top (y := .int (nI (t + k - 1))) (by rw [pk_sub (by omega)]) ?_
  refine go_aload_n dX7_choose_21 rfl ?_
  refine go_get dX7_choose_22 fX7_25 (by omega) l0 rfl ?_
  refine go_icmp_gt (tgt := 81) dX7_choose_25 (by decide) (fun c_25 => ?_) (fun c_25 => ?_)
  · exact absurd ((nI_ltI (by omega) (by omega)).mp c_25) (by omega)
  · skip
    refine go_aload_n dX7_choose_28 rfl ?_
    refine go_get dX7_choose_29 fX7_31 (by omega) l0 rfl ?_
    refine go_iload_n dX7_choose_32 rfl ?_
    refine go_aald dX7_choose_33 (by omega) r0 (by decide) (by decide) rfl (by omega) (by omega) (r1 a (by omega)) ?_
    refine go_iload dX7_choose_34 rfl ?_
    refine go_lald dX7_choose_36 (by omega) f0 rfl (by omega) (by omega) ?_
    refine go_top (y := .long (spr A W a t)) (by rw [f1 t (by omega) ht (by omega)]) ?_
    refine go_aload_n dX7_choose_37 rfl ?_
    refine go_get dX7_choose_38 fX7_21 (by omega) y0 rfl ?_
    refine go_iload dX7_choose_41 rfl ?_
    refine go_lald dX7_choose_43 (by omega) y7 rfl (by omega) (by omega) ?_
    refine go_ladd dX7_choose_44 ?_
    refine go_aload_n dX7_choose_45 rfl ?_
    refine go_get dX7_choose_46 fX7_11 (by omega) y0 rfl ?_
    refine go_iload_n dX7_choose_49 rfl ?_
    refine go_iconst (v := nI 1) dX7_choose_50 (by decide) ?_
    refine go_isub dX7_choose_51 ?_
    refine go_top (y := .int (nI (k - 1))) (by rw [pk_sub (by omega)]) ?_
    refine go_aald dX7_choose_52 (by omega) y1 (by decide) (by decide) rfl (by omega) (by omega) (y2 (k - 1) (by omega)) ?_
    refine go_iload dX7_choose_53 rfl ?_
    refine go_lald dX7_choose_55 (by omega) (y5 (k - 1) (by omega)) rfl (by omega) (by omega) ?_
    refine go_ladd dX7_choose_56 ?_
    refine go_top (y := .long (cand (spr A W) Fe (B (k - 1)) a t)) rfl ?_
    refine go_lstore (L' := [_, _, _, _, _, _, _, _, _, _]) dX7_choose_57 (by decide) rfl ?_
    refine go_lload dX7_choose_59 rfl ?_
    refine go_lload dX7_choose_61 rfl ?_
    refine go_lcmp dX7_choose_63 ?_
    refine go_if_ge (tgt := 75) dX7_choose_64 (by decide) (fun c_64 => ?_) (fun c_64 => ?_)
    · skip
      have c1 := mt (lg_cmp_lt _ _).mpr (fun q => absurd c_64 (Int32.not_le.mpr q))
      refine go_inc (L' := [_, _, _, _, _, _, _, _, _, _]) dX7_choose_75 rfl (by decide) rfl ?_
      refine go_goto (tgt := 15) dX7_choose_78 (by decide) ?_
      first | exact hyes c1 _ _ | exact hno c1 _ _
    · skip
      have c1 := (lg_cmp_lt _ _).mp (Int32.not_le.mp c_64)
      refine go_lload dX7_choose_67 rfl ?_
      refine go_lstore (L' := [_, _, _, _, _, _, _, _, _, _]) dX7_choose_69 (by decide) rfl ?_
      refine go_iload dX7_choose_71 rfl ?_
      refine go_istore (L' := [_, _, _, _, _, _, _, _, _, _]) dX7_choose_73 (by decide) rfl ?_
      refine go_inc (L' := [_, _, _, _, _, _, _, _, _, _]) dX7_choose_75 rfl (by decide) rfl ?_
      refine go_goto (tgt := 15) dX7_choose_78 (by decide) ?_
      first | exact hyes c1 _ _ | exact hno c1 _ _
set_option maxRecDepth 100000 in
theorem choose_end {least : Int64} {chosen t : Nat} {w8 w9 : Option Value} (hN : w + 18 ≤ N) (hw : 79 ≤ w) (hk : 2 ≤ k) (hk6 : k ≤ 6) (ha : a < 25) (ht : t + k = n + 2) (hn : n ≤ 24) (hL : Ld h n A W) (hY : Wy h w B E Fe) :
    Go none RX7 cX7_choose 10 none false d 15 [some (.ref w), some (.ref 50), some (.int (nI k)), some (.int (nI a)), some (.long least), none, some (.int (nI chosen)), some (.int (nI t)), w8, w9] [] h N 0 0 (fun v h' N' => v = none ∧ N' = N ∧ Wy h' w (u2L B k a least) (u2I E k a (nI chosen)) Fe ∧ Fr (w + 2) (w + 17) h h') := by
  obtain ⟨R1, R2, y0, y1, y2, y3, y4, y5, y6, y7⟩ := id hY
  obtain ⟨⟨FA, FW, l0, l1, l2, l3, l4, l5⟩, R, r0, r1, r2⟩ := id hL
  refine go_iload dX7_choose_15 rfl ?_
  refine go_iload_n dX7_choose_17 rfl ?_
  refine go_iadd dX7_choose_18 ?_
  refine go_top (y := .int (nI (t + k))) (by rw [nI_add]) ?_
  refine go_iconst (v := nI 1) dX7_choose_19 (by decide) ?_
  refine go_isub dX7_choose_20 ?_
  refine go_top (y := .int (nI (t + k - 1))) (by rw [pk_sub (by omega)]) ?_
  refine go_aload_n dX7_choose_21 rfl ?_
  refine go_get dX7_choose_22 fX7_25 (by omega) l0 rfl ?_
  refine go_icmp_gt (tgt := 81) dX7_choose_25 (by decide) (fun c_25 => ?_) (fun c_25 => ?_)
  · skip
    refine go_aload_n dX7_choose_81 rfl ?_
    refine go_get dX7_choose_82 fX7_11 (by omega) y0 rfl ?_
    refine go_iload_n dX7_choose_85 rfl ?_
    refine go_aald dX7_choose_86 (by omega) y1 (by decide) (by decide) rfl (by omega) (by omega) (y2 k (by omega)) ?_
    refine go_iload_n dX7_choose_87 rfl ?_
    refine go_lload dX7_choose_88 rfl ?_
    refine go_last dX7_choose_90 (by omega) (y5 k (by omega)) rfl (by omega) (by omega) ?_
    refine go_aload_n dX7_choose_91 rfl ?_
    refine go_get dX7_choose_92 fX7_18 (by omega) ((hset_ne (by omega)).trans y0) rfl ?_
    refine go_iload_n dX7_choose_95 rfl ?_
    refine go_aald dX7_choose_96 (by omega) ((hset_ne (by omega)).trans y3) (by decide) (by decide) rfl (by omega) (by omega) (y4 k (by omega)) ?_
    refine go_iload_n dX7_choose_97 rfl ?_
    refine go_iload dX7_choose_98 rfl ?_
    refine go_iast dX7_choose_100 (by omega) ((hset_ne (by omega)).trans (y6 k (by omega))) rfl (by omega) (by omega) ?_
    refine go_vret dX7_choose_101 rfl ?_
    exact ⟨rfl, rfl, (hY.putB (by omega)).putE (by omega), (Fr.rf.set (by omega) (by omega)).set (by omega) (by omega)⟩
  · exact absurd (nI_lt (by omega) (by omega)) c_25
theorem choose_loop (hN : w + 18 ≤ N) (hw : 79 ≤ w) (hk : 2 ≤ k) (hk6 : k ≤ 6) (hak : a + k ≤ n) (hn : n ≤ 24) (hL : Ld h n A W) (hY : Wy h w B E Fe) : ∀ (m j : Nat) (w8 w9 : Option Value), a + k + j + m = n →
    Go none RX7 cX7_choose 10 none false d 15 [some (.ref w), some (.ref 50), some (.int (nI k)), some (.int (nI a)), some (.long (fm (cand (spr A W) Fe (B (k - 1)) a) (a + 1) j).1), none, some (.int (nI (fm (cand (spr A W) Fe (B (k - 1)) a) (a + 1) j).2)), some (.int (nI (a + 1 + j + 1))), w8, w9] [] h N 0 0 (fun v h' N' => v = none ∧ N' = N ∧ Wy h' w (u2L B k a (fm (cand (spr A W) Fe (B (k - 1)) a) (a + 1) (n - k - a)).1) (u2I E k a (nI (fm (cand (spr A W) Fe (B (k - 1)) a) (a + 1) (n - k - a)).2)) Fe ∧ Fr (w + 2) (w + 17) h h') := by
  intro m
  induction m with
  | zero =>
    intro j w8 w9 hj
    have e : n - k - a = j := by omega
    rw [e]
    exact choose_end hN hw hk hk6 (by omega) (by omega) hn hL hY
  | succ m ih =>
    intro j w8 w9 hj
    refine choose_one hN hw hk hk6 (by omega) (by omega) hn hL hY (fun q w8 w9 => ?_) (fun q w8 w9 => ?_)
    · have e : fm (cand (spr A W) Fe (B (k - 1)) a) (a + 1) (j + 1) = (cand (spr A W) Fe (B (k - 1)) a (a + 1 + j + 1), a + 1 + j + 1) := by rw [fm, if_pos q]
      have := ih (j + 1) w8 w9 (by omega)
      rw [e] at this
      exact this
    · have e : fm (cand (spr A W) Fe (B (k - 1)) a) (a + 1) (j + 1) = fm (cand (spr A W) Fe (B (k - 1)) a) (a + 1) j := by rw [fm, if_neg q]
      have := ih (j + 1) w8 w9 (by omega)
      rw [e] at this
      exact this
theorem long_max {x : Int64} (h : ¬ x < 9223372036854775807) : x = 9223372036854775807 := by
  have h1 := Int64.toInt_lt x
  have h2 : ¬ x.toInt < (9223372036854775807 : Int64).toInt := fun q => h (Int64.lt_iff_toInt_lt.mpr q)
  have h3 : (9223372036854775807 : Int64).toInt = 9223372036854775807 := by decide
  apply Int64.toInt_inj.mp
  omega
theorem run_choose (d : Nat) (hN : w + 18 ≤ N) (hw : 79 ≤ w) (hk : 2 ≤ k) (hk6 : k ≤ 6) (hak : a + k ≤ n) (hn : n ≤ 24) (hL : Ld h n A W) (hY : Wy h w B E Fe) : Run d yX7_choose cX7_choose 10 none [.ref w, .ref 50, .int (nI k), .int (nI a)] h N 0 0 (fun v h' N' => v = none ∧ N' = N ∧ Wy h' w (u2L B k a (fm (cand (spr A W) Fe (B (k - 1)) a) (a + 1) (n - k - a)).1) (u2I E k a (nI (fm (cand (spr A W) Fe (B (k - 1)) a) (a + 1) (n - k - a)).2)) Fe ∧ Fr (w + 2) (w + 17) h h') := by
  refine Run.of (ini := false) (L := [_, _, _, _, _, _, _, _, _, _]) mX7_choose (fun h => by cases h) rfl (Nat.le_of_ble_eq_true rfl) rfl ?_
  refine go_ldc2 dX7_choose_0 kX7_40 ?_
  refine go_lstore (L' := [_, _, _, _, _, _, _, _, _, _]) dX7_choose_3 (by decide) rfl ?_
  refine go_iload_n dX7_choose_5 rfl ?_
  refine go_iconst (v := nI 1) dX7_choose_6 (by decide) ?_
  refine go_iadd dX7_choose_7 ?_
  refine go_top (y := .int (nI (a + 1))) (by rw [nI_add]) ?_
  refine go_istore (L' := [_, _, _, _, _, _, _, _, _, _]) dX7_choose_8 (by decide) rfl ?_
  refine go_iload_n dX7_choose_10 rfl ?_
  refine go_iconst (v := nI 1) dX7_choose_11 (by decide) ?_
  refine go_iadd dX7_choose_12 ?_
  refine go_top (y := .int (nI (a + 1))) (by rw [nI_add]) ?_
  refine go_istore (L' := [_, _, _, _, _, _, _, _, _, _]) dX7_choose_13 (by decide) rfl ?_
  refine choose_one (t := a + 1) (chosen := a + 1) hN hw hk hk6 (by omega) (by omega) hn hL hY (fun q w8 w9 => ?_) (fun q w8 w9 => ?_)
  · exact choose_loop hN hw hk hk6 hak hn hL hY (n - k - a) 0 w8 w9 (by omega)
  · have e := long_max q
    have := choose_loop (d := d) hN hw hk hk6 hak hn hL hY (n - k - a) 0 w8 w9 (by omega)
    rw [show (fm (cand (spr A W) Fe (B (k - 1)) a) (a + 1) 0) = (9223372036854775807, a + 1) by rw [fm, e]] at this
    exact this
/-- which of the table's cells are as they shall be: all of fewer runs, of k runs those ahead of a -/
def WD (n : Nat) (S : Nat → Nat → Int64) (B : Nat → Nat → Int64) (E : Nat → Nat → Int32) (Fe : Nat → Int64) (k a : Nat) : Prop := ∀ k' a', 1 ≤ k' → k' < 7 → (k' < k ∨ (k' = k ∧ a' < a)) → a' + k' ≤ n → B k' a' = (bst n S Fe k' a').1 ∧ E k' a' = nI (bst n S Fe k' a').2
theorem WD.step {S : Nat → Nat → Int64} (hk : 2 ≤ k) (hak : a + k ≤ n) (q : WD n S B E Fe k a) : WD n S (u2L B k a (fm (cand S Fe (B (k - 1)) a) (a + 1) (n - k - a)).1) (u2I E k a (nI (fm (cand S Fe (B (k - 1)) a) (a + 1) (n - k - a)).2)) Fe k (a + 1) := by
  intro k' a' h1 h7 h2 h3
  by_cases e : k' = k ∧ a' = a
  · obtain ⟨rfl, rfl⟩ := e
    rw [u2L_s, u2I_s]
    obtain ⟨j, rfl⟩ : ∃ j, k' = j + 2 := ⟨k' - 2, by omega⟩
    have hc : fm (cand S Fe (B (j + 2 - 1)) a') (a' + 1) (n - (j + 2) - a') = bst n S Fe (j + 2) a' := by
      rw [bst]
      apply fm_cong
      intro t ht1 ht2
      unfold cand
      rw [show j + 2 - 1 = j + 1 by omega, (q (j + 1) t (by omega) (by omega) (by omega) (by omega)).1]
    rw [hc]
    exact ⟨rfl, rfl⟩
  · have hne : k' ≠ k ∨ a' ≠ a := by
      by_cases q2 : k' = k
      · exact Or.inr (fun q3 => e ⟨q2, q3⟩)
      · exact Or.inl q2
    rw [u2L_n hne, u2I_n hne]
    exact q k' a' h1 h7 (by omega) h3
end WaysC
section WaysB
variable {d N n w K : Nat} {A W : Nat → Nat} {Fe : Nat → Int64}
set_option maxRecDepth 100000 in
theorem wb_inner {k : Nat} (hN : w + 18 ≤ N) (hw : 79 ≤ w) (hk : 2 ≤ k) (hk6 : k ≤ 6) (hn : n ≤ 24) {Q : Option Value → gH → Nat → Prop} {h0 : gH}
    (hq : ∀ (h : gH) (B : Nat → Nat → Int64) (E : Nat → Nat → Int32) (w5 : Option Value), Ld h n A W → Wy h w B E Fe → WD n (spr A W) B E Fe (k + 1) 0 → Fr (w + 2) (w + 17) h0 h → Go none RX7 cX7_build 6 none false (d + 1) 51 [some (.ref w), some (.ref 50), some (.int (nI K)), some (.int (nI n)), some (.int (nI (k + 1))), w5] [] h N 0 0 Q) :
    ∀ (m a : Nat) (h : gH) (B : Nat → Nat → Int64) (E : Nat → Nat → Int32), (a + k + m = n + 1 ∨ (m = 0 ∧ n < a + k ∧ a = 0)) → Ld h n A W → Wy h w B E Fe → WD n (spr A W) B E Fe k a → Fr (w + 2) (w + 17) h0 h → Go none RX7 cX7_build 6 none false (d + 1) 67 [some (.ref w), some (.ref 50), some (.int (nI K)), some (.int (nI n)), some (.int (nI k)), some (.int (nI a))] [] h N 0 0 Q := by
  intro m
  induction m with
  | zero =>
    intro a h B E hm hL hY hD hF
    refine go_iload dX7_build_67 rfl ?_
    refine go_iload dX7_build_69 rfl ?_
    refine go_iadd dX7_build_71 ?_
    refine go_top (y := .int (nI (a + k))) (by rw [nI_add]) ?_
    refine go_iload_n dX7_build_72 rfl ?_
    refine go_icmp_gt (tgt := 91) dX7_build_73 (by decide) (fun c_73 => ?_) (fun c_73 => ?_)
    · skip
      refine go_inc (L' := [_, _, _, _, _, _]) dX7_build_91 rfl (by decide) rfl ?_
      refine go_goto (tgt := 51) dX7_build_94 (by decide) ?_
      exact hq h B E _ hL hY (fun k' a' h1 h7 h2 h3 => hD k' a' h1 h7 (by omega) h3) hF
    · exact absurd (nI_lt (by omega) (by omega)) c_73
  | succ m ih =>
    intro a h B E hm hL hY hD hF
    obtain ⟨R1, R2, y0, -⟩ := id hY
    refine go_iload dX7_build_67 rfl ?_
    refine go_iload dX7_build_69 rfl ?_
    refine go_iadd dX7_build_71 ?_
    refine go_top (y := .int (nI (a + k))) (by rw [nI_add]) ?_
    refine go_iload_n dX7_build_72 rfl ?_
    refine go_icmp_gt (tgt := 91) dX7_build_73 (by decide) (fun c_73 => ?_) (fun c_73 => ?_)
    · exact absurd ((nI_ltI (by omega) (by omega)).mp c_73) (by omega)
    · skip
      refine go_aload_n dX7_build_76 rfl ?_
      refine go_aload_n dX7_build_77 rfl ?_
      refine go_iload dX7_build_78 rfl ?_
      refine go_iload dX7_build_80 rfl ?_
      refine go_iv dX7_build_82 mX7_choose iX7_34 (run_choose d hN hw hk hk6 (by omega) hn hL hY) rfl rfl (by omega) y0 rfl (Nat.le_of_ble_eq_true rfl) (Nat.zero_le _) (Nat.zero_le _) (fun v_82 h_82 n_82 q_82 => ?_)
      obtain ⟨rfl, rfl, hY1, hF1⟩ := q_82
      refine go_inc (L' := [_, _, _, _, _, _]) dX7_build_85 rfl (by decide) rfl ?_
      refine go_goto (tgt := 67) dX7_build_88 (by decide) ?_
      exact ih (a + 1) _ _ _ (by omega) (hL.fr hF1 (by omega)) hY1 (hD.step hk (by omega)) (hF.trans hF1)
set_option maxRecDepth 100000 in
theorem wb_outer (hN : w + 18 ≤ N) (hw : 79 ≤ w) (hK : K ≤ 6) (hn : n ≤ 24) {h0 : gH} : ∀ (m k : Nat) (h : gH) (B : Nat → Nat → Int64) (E : Nat → Nat → Int32) (w5 : Option Value), 2 ≤ k → (k + m = K + 1 ∨ (m = 0 ∧ K < k ∧ k = 2)) → Ld h n A W → Wy h w B E Fe → WD n (spr A W) B E Fe k 0 → Fr (w + 2) (w + 17) h0 h → Go none RX7 cX7_build 6 none false (d + 1) 51 [some (.ref w), some (.ref 50), some (.int (nI K)), some (.int (nI n)), some (.int (nI k)), w5] [] h N 0 0 (fun v h' N' => v = none ∧ N' = N ∧ (∃ B E, Wy h' w B E Fe ∧ WD n (spr A W) B E Fe (K + 1) 0) ∧ Fr (w + 2) (w + 17) h0 h') := by
  intro m
  induction m with
  | zero =>
    intro k h B E w5 hk2 hm hL hY hD hF
    refine go_iload dX7_build_51 rfl ?_
    refine go_iload_n dX7_build_53 rfl ?_
    refine go_icmp_gt (tgt := 97) dX7_build_54 (by decide) (fun c_54 => ?_) (fun c_54 => ?_)
    · skip
      refine go_vret dX7_build_97 rfl ?_
      exact ⟨rfl, rfl, ⟨B, E, hY, fun k' a' h1 h7 h2 h3 => hD k' a' h1 h7 (by omega) h3⟩, hF⟩
    · exact absurd (nI_lt (by omega) (by omega)) c_54
  | succ m ih =>
    intro k h B E w5 hk2 hm hL hY hD hF
    refine go_iload dX7_build_51 rfl ?_
    refine go_iload_n dX7_build_53 rfl ?_
    refine go_icmp_gt (tgt := 97) dX7_build_54 (by decide) (fun c_54 => ?_) (fun c_54 => ?_)
    · exact absurd ((nI_ltI (by omega) (by omega)).mp c_54) (by omega)
    · skip
      refine go_iload dX7_build_57 rfl ?_
      refine go_bipush (v := nI 6) dX7_build_59 (by decide) ?_
      refine go_icmp_gt (tgt := 97) dX7_build_61 (by decide) (fun c_61 => ?_) (fun c_61 => ?_)
      · exact absurd ((nI_ltI (by omega) (by omega)).mp c_61) (by omega)
      · skip
        refine go_iconst (v := nI 0) dX7_build_64 (by decide) ?_
        refine go_istore (L' := [_, _, _, _, _, _]) dX7_build_65 (by decide) rfl ?_
        exact wb_inner hN hw hk2 (by omega) hn (fun h1 B1 E1 w6 q1 q2 q3 q4 => ih (k + 1) h1 B1 E1 w6 (by omega) (by omega) q1 q2 q3 q4) (n + 1 - k) 0 h B E (by omega) hL hY hD hF
set_option maxRecDepth 100000 in
theorem wb_first (hN : w + 18 ≤ N) (hw : 79 ≤ w) (hK1 : 1 ≤ K) (hK : K ≤ 6) (hn : n ≤ 24) {h0 : gH} : ∀ (m a : Nat) (h : gH) (B : Nat → Nat → Int64) (E : Nat → Nat → Int32), a + m = n → Ld h n A W → Wy h w B E Fe → WD n (spr A W) B E Fe 1 a → Fr (w + 2) (w + 17) h0 h → Go none RX7 cX7_build 6 none false (d + 1) 8 [some (.ref w), some (.ref 50), some (.int (nI K)), some (.int (nI n)), some (.int (nI a)), none] [] h N 0 0 (fun v h' N' => v = none ∧ N' = N ∧ (∃ B E, Wy h' w B E Fe ∧ WD n (spr A W) B E Fe (K + 1) 0) ∧ Fr (w + 2) (w + 17) h0 h') := by
  intro m
  induction m with
  | zero =>
    intro a h B E hm hL hY hD hF
    refine go_iload dX7_build_8 rfl ?_
    refine go_iload_n dX7_build_10 rfl ?_
    refine go_icmp_ge (tgt := 48) dX7_build_11 (by decide) (fun c_11 => ?_) (fun c_11 => ?_)
    · skip
      refine go_iconst (v := nI 2) dX7_build_48 (by decide) ?_
      refine go_istore (L' := [_, _, _, _, _, _]) dX7_build_49 (by decide) rfl ?_
      exact wb_outer hN hw hK hn (K - 1) 2 h B E none (by omega) (by omega) hL hY (fun k' a' h1 h7 h2 h3 => hD k' a' h1 h7 (by omega) h3) hF
    · exact absurd (nI_le (by omega) (by omega)) c_11
  | succ m ih =>
    intro a h B E hm hL hY hD hF
    obtain ⟨R1, R2, y0, y1, y2, y3, y4, y5, y6, y7⟩ := id hY
    obtain ⟨⟨FA, FW, l0, l1, l2, l3, l4, l5⟩, R, r0, r1, r2⟩ := id hL
    obtain ⟨F, f0, f1⟩ := r2 a (by omega)
    refine go_iload dX7_build_8 rfl ?_
    refine go_iload_n dX7_build_10 rfl ?_
    refine go_icmp_ge (tgt := 48) dX7_build_11 (by decide) (fun c_11 => ?_) (fun c_11 => ?_)
    · exact absurd c_11 (nI_ge (by omega) (by omega))
    · skip
      refine go_aload_n dX7_build_14 rfl ?_
      refine go_get dX7_build_15 fX7_11 (by omega) y0 rfl ?_
      refine go_iconst (v := nI 1) dX7_build_18 (by decide) ?_
      refine go_aald dX7_build_19 (by omega) y1 (by decide) (by decide) rfl (by omega) (by omega) (y2 1 (by omega)) ?_
      refine go_iload dX7_build_20 rfl ?_
      refine go_aload_n dX7_build_22 rfl ?_
      refine go_get dX7_build_23 fX7_31 (by omega) l0 rfl ?_
      refine go_iload dX7_build_26 rfl ?_
      refine go_aald dX7_build_28 (by omega) r0 (by decide) (by decide) rfl (by omega) (by omega) (r1 a (by omega)) ?_
      refine go_iload_n dX7_build_29 rfl ?_
      refine go_lald dX7_build_30 (by omega) f0 rfl (by omega) (by omega) ?_
      refine go_top (y := .long (spr A W a n)) (by rw [f1 n (by omega) (by omega) (by omega)]) ?_
      refine go_last dX7_build_31 (by omega) (y5 1 (by omega)) rfl (by omega) (by omega) ?_
      refine go_aload_n dX7_build_32 rfl ?_
      refine go_get dX7_build_33 fX7_18 (by omega) ((hset_ne (by omega)).trans y0) rfl ?_
      refine go_iconst (v := nI 1) dX7_build_36 (by decide) ?_
      refine go_aald dX7_build_37 (by omega) ((hset_ne (by omega)).trans y3) (by decide) (by decide) rfl (by omega) (by omega) (y4 1 (by omega)) ?_
      refine go_iload dX7_build_38 rfl ?_
      refine go_iload_n dX7_build_40 rfl ?_
      refine go_iast dX7_build_41 (by omega) ((hset_ne (by omega)).trans (y6 1 (by omega))) rfl (by omega) (by omega) ?_
      refine go_inc (L' := [_, _, _, _, _, _]) dX7_build_42 rfl (by decide) rfl ?_
      refine go_goto (tgt := 8) dX7_build_45 (by decide) ?_
      have fr : Fr (w + 2) (w + 17) h (hset (hset h (w + 2 + 1) (.inl (1, 25, .inr (.inl (vp_updL (B 1) a (spr A W a n)))))) (w + 10 + 1) (.inl (0, 25, .inl (upd (E 1) a (nI n))))) := (Fr.rf.set (by omega) (by omega)).set (by omega) (by omega)
      refine ih (a + 1) _ _ _ (by omega) (hL.fr fr (by omega)) ((hY.putB (by omega)).putE (by omega)) ?_ (hF.trans fr)
      intro k' a' h1 h7 h2 h3
      by_cases e : k' = 1 ∧ a' = a
      · obtain ⟨rfl, rfl⟩ := e
        rw [u2L_s, u2I_s]
        exact ⟨rfl, rfl⟩
      · have hne : k' ≠ 1 ∨ a' ≠ a := by omega
        rw [u2L_n hne, u2I_n hne]
        exact hD k' a' h1 h7 (by omega) h3
theorem run_wbuild (d : Nat) {h : gH} {B : Nat → Nat → Int64} {E : Nat → Nat → Int32} (hN : w + 18 ≤ N) (hw : 79 ≤ w) (hK1 : 1 ≤ K) (hK : K ≤ 6) (hL : Ld h n A W) (hY : Wy h w B E Fe) : Run (d + 1) yX7_build cX7_build 6 none [.ref w, .ref 50, .int (nI K)] h N 0 0 (fun v h' N' => v = none ∧ N' = N ∧ (∃ B E, Wy h' w B E Fe ∧ WD n (spr A W) B E Fe (K + 1) 0) ∧ Fr (w + 2) (w + 17) h h') := by
  obtain ⟨⟨FA, FW, l0, l1, l2, l3, l4, l5⟩, -⟩ := id hL
  refine Run.of (ini := false) (L := [_, _, _, _, _, _]) mX7_build (fun h => by cases h) rfl (Nat.le_of_ble_eq_true rfl) rfl ?_
  refine go_aload_n dX7_build_0 rfl ?_
  refine go_get dX7_build_1 fX7_25 (by omega) l0 rfl ?_
  refine go_istore_n (L' := [_, _, _, _, _, _]) dX7_build_4 rfl (by decide) rfl ?_
  refine go_iconst (v := nI 0) dX7_build_5 (by decide) ?_
  refine go_istore (L' := [_, _, _, _, _, _]) dX7_build_6 (by decide) rfl ?_
  exact wb_first hN hw hK1 hK (by omega) n 0 h B E (by omega) hL hY (fun k' a' h1 h7 h2 h3 => absurd h2 (by omega)) Fr.rf
set_option maxRecDepth 100000 in
theorem fo_loop {p K r : Nat} {B : Nat → Nat → Int64} {E : Nat → Nat → Int32} {h0 : gH} (hw : 79 ≤ w) (hp : w + 18 ≤ p) (hN : p + 2 ≤ N) (hrK : r ≤ K) (hK : K ≤ 6) (hr : r ≤ n) (hn : n ≤ 24) (hD : WD n (spr A W) B E Fe (K + 1) 0) : ∀ (m i : Nat) (h : gH) (F : Nat → Int32) (w7 : Option Value), i + m = r → Ld h n A W → Wy h w B E Fe → h p = .inr (5, [.ref (p + 1), .int (nI r), .long (tot n (spr A W) Fe r i)]) → h (p + 1) = .inl (0, 6, .inl F) → (∀ x, x < i → F x = nI (bg n (spr A W) Fe r x)) → Fr p (p + 2) h0 h → Go none RX7 cX7_follow 8 none false (d + 1) 27 [some (.ref w), some (.ref 50), some (.int (nI K)), some (.ref p), some (.int (nI r)), some (.int (nI (bg n (spr A W) Fe r i))), some (.int (nI i)), w7] [] h N 0 0 (fun v h' N' => v = none ∧ N' = N ∧ Pg h' p (r, bg n (spr A W) Fe r, tot n (spr A W) Fe r r) ∧ Fr p (p + 2) h0 h') := by
  intro m
  induction m with
  | zero =>
    intro i h F w7 hm hL hY q0 q1 hF hfr
    have e : i = r := by omega
    subst e
    refine go_iload dX7_follow_27 rfl ?_
    refine go_iload dX7_follow_29 rfl ?_
    refine go_icmp_ge (tgt := 103) dX7_follow_31 (by decide) (fun c_31 => ?_) (fun c_31 => ?_)
    · skip
      refine go_vret dX7_follow_103 rfl ?_
      exact ⟨rfl, rfl, ⟨F, q0, q1, by show i ≤ 6; omega, hF⟩, hfr⟩
    · exact absurd (nI_le (Nat.le_refl _) (by omega)) c_31
  | succ m ih =>
    intro i h F w7 hm hL hY q0 q1 hF hfr
    obtain ⟨R1, R2, y0, y1, y2, y3, y4, y5, y6, y7⟩ := id hY
    obtain ⟨⟨FA, FW, l0, l1, l2, l3, l4, l5⟩, R, r0, r1, r2⟩ := id hL
    have hb := bg_in (n := n) (S := spr A W) (fee := Fe) hr (i := i) (by omega)
    have hb2 := bg_lt (n := n) (S := spr A W) (fee := Fe) hr (i := i) (by omega)
    have hb3 := bg_in (n := n) (S := spr A W) (fee := Fe) hr (i := i + 1) (by omega)
    have hE := (hD (r - i) (bg n (spr A W) Fe r i) (by omega) (by omega) (by omega) (by omega)).2
    obtain ⟨FS, f0, f1⟩ := r2 (bg n (spr A W) Fe r i) (by omega)
    refine go_iload dX7_follow_27 rfl ?_
    refine go_iload dX7_follow_29 rfl ?_
    refine go_icmp_ge (tgt := 103) dX7_follow_31 (by decide) (fun c_31 => ?_) (fun c_31 => ?_)
    · exact absurd c_31 (nI_ge (by omega) (by omega))
    · skip
      refine go_iload dX7_follow_34 rfl ?_
      refine go_bipush (v := nI 6) dX7_follow_36 (by decide) ?_
      refine go_icmp_ge (tgt := 103) dX7_follow_38 (by decide) (fun c_38 => ?_) (fun c_38 => ?_)
      · exact absurd c_38 (nI_ge (by omega) (by omega))
      · skip
        refine go_iload dX7_follow_41 rfl ?_
        refine go_aload_n dX7_follow_43 rfl ?_
        refine go_get dX7_follow_44 fX7_25 (by omega) l0 rfl ?_
        refine go_icmp_ge (tgt := 103) dX7_follow_47 (by decide) (fun c_47 => ?_) (fun c_47 => ?_)
        · exact absurd c_47 (nI_ge (by omega) (by omega))
        · skip
          refine go_aload_n dX7_follow_50 rfl ?_
          refine go_get dX7_follow_51 fX7_18 (by omega) y0 rfl ?_
          refine go_iload dX7_follow_54 rfl ?_
          refine go_iload dX7_follow_56 rfl ?_
          refine go_isub dX7_follow_58 ?_
          refine go_top (y := .int (nI (r - i))) (by rw [pk_sub (by omega)]) ?_
          refine go_aald dX7_follow_59 (by omega) y3 (by decide) (by decide) rfl (by omega) (by omega) (y4 (r - i) (by omega)) ?_
          refine go_iload dX7_follow_60 rfl ?_
          refine go_iald dX7_follow_62 (by omega) (y6 (r - i) (by omega)) rfl (by omega) (by omega) ?_
          refine go_top (y := .int (nI (bg n (spr A W) Fe r (i + 1)))) (by rw [hE]; rfl) ?_
          refine go_istore (L' := [_, _, _, _, _, _, _, _]) dX7_follow_63 (by decide) rfl ?_
          refine go_aload_n dX7_follow_65 rfl ?_
          refine go_get dX7_follow_66 fX7_57 (by omega) q0 rfl ?_
          refine go_iload dX7_follow_69 rfl ?_
          refine go_iload dX7_follow_71 rfl ?_
          refine go_iast dX7_follow_73 (by omega) q1 rfl (by omega) (by omega) ?_
          refine go_aload_n dX7_follow_74 rfl ?_
          refine go_dup dX7_follow_75 rfl ?_
          refine go_get dX7_follow_76 fX7_53 (by omega) ((hset_ne (by omega)).trans q0) rfl ?_
          refine go_aload_n dX7_follow_79 rfl ?_
          refine go_get dX7_follow_80 fX7_31 (by omega) ((hset_ne (by omega)).trans l0) rfl ?_
          refine go_iload dX7_follow_83 rfl ?_
          refine go_aald dX7_follow_85 (by omega) ((hset_ne (by omega)).trans r0) (by decide) (by decide) rfl (by omega) (by omega) (r1 _ (by omega)) ?_
          refine go_iload dX7_follow_86 rfl ?_
          refine go_lald dX7_follow_88 (by omega) ((hset_ne (by omega)).trans f0) rfl (by omega) (by omega) ?_
          refine go_top (y := .long (spr A W (bg n (spr A W) Fe r i) (bg n (spr A W) Fe r (i + 1)))) (by rw [f1 _ (by omega) hb2 (by omega)]) ?_
          refine go_ladd dX7_follow_89 ?_
          refine go_put (fs' := [_, _, _]) dX7_follow_90 fX7_53 (by omega) ((hset_ne (by omega)).trans q0) (Nat.le_of_ble_eq_true rfl) rfl ⟨_, _, _, rfl, Or.inl rfl⟩ rfl ?_
          refine go_iload dX7_follow_93 rfl ?_
          refine go_istore (L' := [_, _, _, _, _, _, _, _]) dX7_follow_95 (by decide) rfl ?_
          refine go_inc (L' := [_, _, _, _, _, _, _, _]) dX7_follow_97 rfl (by decide) rfl ?_
          refine go_goto (tgt := 27) dX7_follow_100 (by decide) ?_
          have fr : Fr p (p + 2) h (hset (hset h (p + 1) (.inl (0, 6, .inl (upd F i (nI (bg n (spr A W) Fe r i)))))) p (.inr (5, [.ref (p + 1), .int (nI r), .long (tot n (spr A W) Fe r i + spr A W (bg n (spr A W) Fe r i) (bg n (spr A W) Fe r (i + 1)))]))) := (Fr.rf.set (by omega) (by omega)).set (by omega) (by omega)
          refine ih (i + 1) _ _ _ (by omega) (hL.fr fr (by omega)) (hY.fr fr (by omega)) hset_same ((hset_ne (by omega)).trans hset_same) (fun x hx => ?_) (hfr.trans fr)
          by_cases e : x = i
          · subst e; rw [pk_us]
          · rw [pk_un e]; exact hF x (by omega)
theorem run_follow (d : Nat) {p : Nat} {B : Nat → Nat → Int64} {E : Nat → Nat → Int32} {h : gH} {pd : PD} (hw : 79 ≤ w) (hp : w + 18 ≤ p) (hN : p + 2 ≤ N) (hK : K ≤ 6) (hD : WD n (spr A W) B E Fe (K + 1) 0) (hL : Ld h n A W) (hY : Wy h w B E Fe) (hP : Pg h p pd) : Run (d + 1) yX7_follow cX7_follow 8 none [.ref w, .ref 50, .int (nI K), .ref p] h N 0 0 (fun v h' N' => v = none ∧ N' = N ∧ Pg h' p (min K n, bg n (spr A W) Fe (min K n), tot n (spr A W) Fe (min K n) (min K n)) ∧ Fr p (p + 2) h h') := by
  obtain ⟨⟨FA, FW, l0, l1, l2, l3, l4, l5⟩, -⟩ := id hL
  obtain ⟨F, q0, q1, q2, q3⟩ := id hP
  refine Run.of (ini := false) (L := [_, _, _, _, _, _, _, _]) mX7_follow (fun h => by cases h) rfl (Nat.le_of_ble_eq_true rfl) rfl ?_
  refine go_iload_n dX7_follow_0 rfl ?_
  refine go_aload_n dX7_follow_1 rfl ?_
  refine go_get dX7_follow_2 fX7_25 (by omega) l0 rfl ?_
  refine go_min dX7_follow_5 iX7_42 (Nat.le_of_ble_eq_true rfl) ?_
  refine go_top (y := .int (nI (min K n))) ?_ ?_
  · by_cases e : n < K
    · rw [if_pos (nI_lt e (by omega)), show min K n = n by omega]
    · rw [if_neg (nI_nlt (by omega) (by omega)), show min K n = K by omega]
  refine go_istore (L' := [_, _, _, _, _, _, _, _]) dX7_follow_8 (by decide) rfl ?_
  refine go_aload_n dX7_follow_10 rfl ?_
  refine go_iload dX7_follow_11 rfl ?_
  refine go_put (fs' := [_, _, _]) dX7_follow_13 fX7_48 (by omega) q0 (Nat.le_of_ble_eq_true rfl) (Or.inl rfl) ⟨_, _, _, rfl, Or.inl rfl⟩ rfl ?_
  refine go_aload_n dX7_follow_16 rfl ?_
  refine go_lconst (v := lN 0) dX7_follow_17 rfl ?_
  refine go_put (fs' := [_, _, _]) dX7_follow_18 fX7_53 (by omega) hset_same (Nat.le_of_ble_eq_true rfl) rfl ⟨_, _, _, rfl, Or.inl rfl⟩ rfl ?_
  refine go_iconst (v := nI 0) dX7_follow_21 (by decide) ?_
  refine go_istore (L' := [_, _, _, _, _, _, _, _]) dX7_follow_22 (by decide) rfl ?_
  refine go_iconst (v := nI 0) dX7_follow_24 (by decide) ?_
  refine go_istore (L' := [_, _, _, _, _, _, _, _]) dX7_follow_25 (by decide) rfl ?_
  rw [hset_hset]
  have fr : ∀ y, Fr p (p + 2) h (hset h p y) := fun y => Fr.rf.set (by omega) (by omega)
  exact fo_loop (d := d) (r := min K n) hw hp hN (by omega) hK (by omega) l3 hD (min K n) 0 _ F none (by omega) (hL.fr (fr _) (by omega)) (hY.fr (fr _) (by omega)) hset_same ((hset_ne (by omega)).trans q1) (fun x hx => absurd hx (by omega)) (fr _)
set_option maxRecDepth 100000 in
theorem run_ways (d : Nat) {w : Nat} {h : gH} (h0 : h w = .inr (7, [.null, .null, .null])) : Run (d + 1) yX7_init cX7_init 1 none [.ref w] h (w + 1) 17 389 (fun v h' N' => v = none ∧ N' = w + 18 ∧ Wy h' w (fun _ _ => 0) (fun _ _ => 0) (fun _ => 0) ∧ Fr w (w + 18) h h') := by
  refine Run.of (ini := true) (L := [_]) mX7_init (fun h => rfl) rfl (Nat.le_of_ble_eq_true rfl) rfl ?_
  refine go_aload_n dX7_init_0 rfl ?_
  refine go_obj dX7_init_1 oX7 (Nat.le_of_ble_eq_true rfl) ?_
  refine go_aload_n dX7_init_4 rfl ?_
  refine go_bipush (v := nI 7) dX7_init_5 (by decide) ?_
  refine go_bipush (v := nI 25) dX7_init_7 (by decide) ?_
  refine go_mna (n := 7) (w := 25) (kd := 6) (ki := 1) (ty := .long) dX7_init_9 nX7_9 ac_long (Or.inr ⟨rfl, rfl, rfl, rfl⟩) rfl rfl (by omega) (by omega) (by decide) (by decide) ?_
  have hg : ∀ (h : gH) (z : gC) (M kd j : Nat), (j < M ∨ M + 8 ≤ j) → hgrid h M 7 kd z j = h j := fun h z M kd j hj => by unfold hgrid; rw [if_neg (by omega), if_neg (by omega)]
  have hg1 : ∀ (h : gH) (z : gC) (M kd i : Nat), i < 7 → hgrid h M 7 kd z (M + 1 + i) = z := fun h z M kd i hi => by unfold hgrid; rw [if_neg (by omega), if_pos (by omega)]
  have hg0 : ∀ (h : gH) (z : gC) (M kd : Nat), hgrid h M 7 kd z M = .inl (kd, 7, .inr (.inr (.inr (.inr (fun i => if i < 7 then some (M + 1 + i) else none))))) := fun h z M kd => by unfold hgrid; rw [if_pos rfl]
  refine go_put (fs' := [_, _, _]) dX7_init_13 fX7_11 (by omega) ((hg _ _ _ _ _ (by omega)).trans h0) (Nat.le_of_ble_eq_true rfl) rfl ⟨_, _, _, rfl, Or.inr ⟨rfl, rfl, rfl⟩⟩ rfl ?_
  refine go_aload_n dX7_init_16 rfl ?_
  refine go_bipush (v := nI 7) dX7_init_17 (by decide) ?_
  refine go_bipush (v := nI 25) dX7_init_19 (by decide) ?_
  refine go_mna (n := 7) (w := 25) (kd := 5) (ki := 0) (ty := .int) dX7_init_21 nX7_16 ac_int (Or.inl ⟨rfl, rfl, rfl, rfl⟩) rfl rfl (by omega) (by omega) (by decide) (by decide) ?_
  refine go_put (fs' := [_, _, _]) dX7_init_25 fX7_18 (by omega) ((hg _ _ _ _ _ (by omega)).trans hset_same) (Nat.le_of_ble_eq_true rfl) rfl ⟨_, _, _, rfl, Or.inr ⟨rfl, rfl, rfl⟩⟩ rfl ?_
  refine go_aload_n dX7_init_28 rfl ?_
  refine go_bipush (v := nI 25) dX7_init_29 (by decide) ?_
  refine go_newJ (n := 25) dX7_init_31 rfl (by omega) (by decide) (by decide) ?_
  refine go_put (fs' := [_, _, _]) dX7_init_33 fX7_21 (by omega) ((hset_ne (by omega)).trans hset_same) (Nat.le_of_ble_eq_true rfl) rfl ⟨_, _, _, rfl, Or.inr ⟨rfl, rfl, rfl⟩⟩ rfl ?_
  refine go_vret dX7_init_36 rfl ?_
  refine ⟨rfl, rfl, ⟨fun i => if i < 7 then some (w + 1 + 1 + i) else none, fun i => if i < 7 then some (w + 1 + 1 + 7 + 1 + i) else none, hset_same, ?_, fun i hi => ?_, ?_, fun i hi => ?_, fun i hi => ?_, fun i hi => ?_, ?_⟩, fun x hx => ?_⟩
  · rw [hset_ne (by omega), hset_ne (by omega), hset_ne (by omega), hg _ _ _ _ _ (by omega), hset_ne (by omega), hg0]
  · show (if i < 7 then some (w + 1 + 1 + i) else none) = _; rw [if_pos hi]
  · rw [hset_ne (by omega), hset_ne (by omega), hset_ne (by omega), show w + 9 = w + 1 + 1 + 7 by omega, hg0]
  · show (if i < 7 then some (w + 1 + 1 + 7 + 1 + i) else none) = _; rw [if_pos hi, show w + 1 + 1 + 7 + 1 + i = w + 10 + i by omega]
  · rw [hset_ne (by omega), hset_ne (by omega), hset_ne (by omega), hg _ _ _ _ _ (by omega), hset_ne (by omega), show w + 2 + i = w + 1 + 1 + i by omega, hg1 _ _ _ _ _ hi]
  · rw [hset_ne (by omega), hset_ne (by omega), hset_ne (by omega), show w + 10 + i = w + 1 + 1 + 7 + 1 + i by omega, hg1 _ _ _ _ _ hi]
  · rw [hset_ne (by omega), show w + 17 = w + 1 + 1 + 7 + 1 + 7 by omega, hset_same]
  · rw [hset_ne (by omega), hset_ne (by omega), hset_ne (by omega), hg _ _ _ _ _ (by omega), hset_ne (by omega), hg _ _ _ _ _ (by omega)]
end WaysB
end
section
/-! ===== bounds of longs ===== -/
def Bd (x : Int64) (m : Nat) : Prop := -(m : Int) ≤ x.toInt ∧ x.toInt ≤ m
theorem toInt64_add {x y : Int64} (h1 : -9223372036854775808 ≤ x.toInt + y.toInt) (h2 : x.toInt + y.toInt < 9223372036854775808) : (x + y).toInt = x.toInt + y.toInt := by
  rw [Int64.toInt_add, Int.bmod_eq_of_le (by simpa using h1) (by simpa using h2)]
theorem Bd.add {x y : Int64} {a b : Nat} (hx : Bd x a) (hy : Bd y b) (h : a + b < 2 ^ 63) : Bd (x + y) (a + b) := by
  obtain ⟨h1, h2⟩ := hx
  obtain ⟨h3, h4⟩ := hy
  have e := toInt64_add (x := x) (y := y) (by omega) (by omega)
  exact ⟨by rw [e]; omega, by rw [e]; omega⟩
theorem Bd.mono {x : Int64} {a b : Nat} (h : Bd x a) (hab : a ≤ b) : Bd x b := ⟨by have := h.1; omega, by have := h.2; omega⟩
theorem Bd.lt {x y : Int64} {a : Nat} (h : Bd x a) (hy : (a : Int) < y.toInt) : x < y := Int64.lt_iff_toInt_lt.mpr (by have := h.2; omega)
/-- all spreads are small -/
def SB (n : Nat) (S : Nat → Nat → Int64) : Prop := ∀ a b, a < b → b ≤ n → Bd (S a b) 130000000000000000
/-! ===== LAST, from the front ===== -/
def lst (S : Nat → Nat → Int64) : Nat → Nat → Int64 × Nat
  | 0, _ => (0, 0)
  | 1, j => (S 0 j, 0)
  | k + 2, j => fm (fun b => (lst S (k + 1) b).1 + S b j) (k + 1) (j - (k + 2))
theorem lst_bd {n : Nat} {S : Nat → Nat → Int64} (hS : SB n S) : ∀ {k j : Nat}, 1 ≤ k → k ≤ 6 → k ≤ j → j ≤ n → Bd (lst S k j).1 (k * 130000000000000000)
  | 0, j, h, _, _, _ => absurd h (by omega)
  | 1, j, _, _, h1, h2 => by
    have := hS 0 j (by omega) h2
    simpa [lst] using this
  | k + 2, j, _, h6, h1, h2 => by
    have hin := fm_in (fun b => (lst S (k + 1) b).1 + S b j) (k + 1) (j - (k + 2))
    have hv := fm_val (fun b => (lst S (k + 1) b).1 + S b j) (k + 1) (j - (k + 2))
    rw [lst, hv]
    have b1 := lst_bd hS (k := k + 1) (j := (fm (fun b => (lst S (k + 1) b).1 + S b j) (k + 1) (j - (k + 2))).2) (by omega) (by omega) (by omega) (by omega)
    have b2 := hS (fm (fun b => (lst S (k + 1) b).1 + S b j) (k + 1) (j - (k + 2))).2 j (by omega) h2
    exact (b1.add b2 (by omega)).mono (by omega)
/-! ===== LastTable: cell 115; best 116, rows 117 .. 123; begins 124, rows 125 .. 131 ===== -/
def Lt (h : gH) (B : Nat → Nat → Int64) (E : Nat → Nat → Int32) : Prop := ∃ R1 R2 : Nat → Option Nat, h 115 = .inr (3, [.ref 116, .ref 124]) ∧ h 116 = .inl (6, 7, .inr (.inr (.inr (.inr R1)))) ∧ (∀ i, i < 7 → R1 i = some (117 + i)) ∧ h 124 = .inl (5, 7, .inr (.inr (.inr (.inr R2)))) ∧ (∀ i, i < 7 → R2 i = some (125 + i)) ∧ (∀ i, i < 7 → h (117 + i) = .inl (1, 25, .inr (.inl (B i)))) ∧ (∀ i, i < 7 → h (125 + i) = .inl (0, 25, .inl (E i)))
theorem Lt.fr {h h' : gH} {lo hi : Nat} {B : Nat → Nat → Int64} {E : Nat → Nat → Int32} (q : Lt h B E) (f : Fr lo hi h h') (hx : 132 ≤ lo ∨ hi ≤ 115) : Lt h' B E := by
  obtain ⟨R1, R2, h0, h1, h2, h3, h4, h5, h6⟩ := q
  exact ⟨R1, R2, (f _ (by omega)).trans h0, (f _ (by omega)).trans h1, h2, (f _ (by omega)).trans h3, h4, fun i hi => (f _ (by omega)).trans (h5 i hi), fun i hi => (f _ (by omega)).trans (h6 i hi)⟩
theorem Lt.putB {h : gH} {k a : Nat} {B : Nat → Nat → Int64} {E : Nat → Nat → Int32} {x : Int64} (q : Lt h B E) (hk : k < 7) : Lt (hset h (117 + k) (.inl (1, 25, .inr (.inl (vp_updL (B k) a x))))) (u2L B k a x) E := by
  obtain ⟨R1, R2, h0, h1, h2, h3, h4, h5, h6⟩ := q
  refine ⟨R1, R2, (hset_ne (by omega)).trans h0, (hset_ne (by omega)).trans h1, h2, (hset_ne (by omega)).trans h3, h4, fun i hi => ?_, fun i hi => (hset_ne (by omega)).trans (h6 i hi)⟩
  by_cases e : i = k
  · subst e
    rw [hset_same]
    simp [u2L]
  · rw [hset_ne (by omega), h5 i hi]
    simp [u2L, e]
theorem Lt.putE {h : gH} {k a : Nat} {B : Nat → Nat → Int64} {E : Nat → Nat → Int32} {x : Int32} (q : Lt h B E) (hk : k < 7) : Lt (hset h (125 + k) (.inl (0, 25, .inl (upd (E k) a x)))) B (u2I E k a x) := by
  obtain ⟨R1, R2, h0, h1, h2, h3, h4, h5, h6⟩ := q
  refine ⟨R1, R2, (hset_ne (by omega)).trans h0, (hset_ne (by omega)).trans h1, h2, (hset_ne (by omega)).trans h3, h4, fun i hi => (hset_ne (by omega)).trans (h5 i hi), fun i hi => ?_⟩
  by_cases e : i = k
  · subst e
    rw [hset_same]
    simp [u2I]
  · rw [hset_ne (by omega), h6 i hi]
    simp [u2I, e]
section LastC
variable {d N n k j : Nat} {h : gH} {A W : Nat → Nat} {B : Nat → Nat → Int64} {E : Nat → Nat → Int32}
set_option maxRecDepth 100000 in
theorem lchoose_one {least : Int64} {chosen : Int32} {b : Nat} {w8 w9 : Option Value} {Q : Option Value → gH → Nat → Prop} (hN : 132 ≤ N) (hk : 2 ≤ k) (hk6 : k ≤ 6) (hb : b < j) (hj : j ≤ n) (hn : n ≤ 24) (hL : Ld h n A W) (hY : Lt h B E)
    (hyes : B (k - 1) b + spr A W b j < least → ∀ w8 w9, Go none RX3 cX3_choose 10 none false d 14 [some (.ref 115), some (.ref 50), some (.int (nI k)), some (.int (nI j)), some (.long (B (k - 1) b + spr A W b j)), none, some (.int (nI b)), some (.int (nI (b + 1))), w8, w9] [] h N 0 0 Q)
    (hno : ¬ B (k - 1) b + spr A W b j < least → ∀ w8 w9, Go none RX3 cX3_choose 10 none false d 14 [some (.ref 115), some (.ref 50), some (.int (nI k)), some (.int (nI j)), some (.long least), none, some (.int chosen), some (.int (nI (b + 1))), w8, w9] [] h N 0 0 Q) :
    Go none RX3 cX3_choose 10 none false d 14 [some (.ref 115), some (.ref 50), some (.int (nI k)), some (.int (nI j)), some (.long least), none, some (.int chosen), some (.int (nI b)), w8, w9] [] h N 0 0 Q := by
  obtain ⟨R1, R2, y0, y1, y2, y3, y4, y5, y6⟩ := id hY
  obtain ⟨⟨FA, FW, l0, l1, l2, l3, l4, l5⟩, R, r0, r1, r2⟩ := id hL
  obtain ⟨F, f0, f1⟩ := r2 b (by omega)
  refine go_iload dX3_choose_14 rfl ?_
  refine go_iload_n dX3_choose_16 rfl ?_
  refine go_icmp_ge (tgt := 65) dX3_choose_17 (by decide) (fun c_17 => ?_) (fun c_17 => ?_)
  · exact absurd c_17 (nI_ge hb (by omega))
  · skip
    refine go_aload_n dX3_choose_20 rfl ?_
    refine go_get dX3_choose_21 fX3_11 (by omega) y0 rfl ?_
    refine go_iload_n dX3_choose_24 rfl ?_
    refine go_iconst (v := nI 1) dX3_choose_25 (by decide) ?_
    refine go_isub dX3_choose_26 ?_
    refine go_top (y := .int (nI (k - 1))) (by rw [pk_sub (by omega)]) ?_
    refine go_aald dX3_choose_27 (by omega) y1 (by decide) (by decide) rfl (by omega) (by omega) (y2 (k - 1) (by omega)) ?_
    refine go_iload dX3_choose_28 rfl ?_
    refine go_lald dX3_choose_30 (by omega) (y5 (k - 1) (by omega)) rfl (by omega) (by omega) ?_
    refine go_aload_n dX3_choose_31 rfl ?_
    refine go_get dX3_choose_32 fX3_27 (by omega) l0 rfl ?_
    refine go_iload dX3_choose_35 rfl ?_
    refine go_aald dX3_choose_37 (by omega) r0 (by decide) (by decide) rfl (by omega) (by omega) (r1 b (by omega)) ?_
    refine go_iload_n dX3_choose_38 rfl ?_
    refine go_lald dX3_choose_39 (by omega) f0 rfl (by omega) (by omega) ?_
    refine go_top (y := .long (spr A W b j)) (by rw [f1 j (by omega) hb hj]) ?_
    refine go_ladd dX3_choose_40 ?_
    refine go_lstore (L' := [_, _, _, _, _, _, _, _, _, _]) dX3_choose_41 (by decide) rfl ?_
    refine go_lload dX3_choose_43 rfl ?_
    refine go_lload dX3_choose_45 rfl ?_
    refine go_lcmp dX3_choose_47 ?_
    refine go_if_ge (tgt := 59) dX3_choose_48 (by decide) (fun c_48 => ?_) (fun c_48 => ?_)
    · skip
      have c1 := mt (lg_cmp_lt _ _).mpr (fun q => absurd c_48 (Int32.not_le.mpr q))
      refine go_inc (L' := [_, _, _, _, _, _, _, _, _, _]) dX3_choose_59 rfl (by decide) rfl ?_
      refine go_goto (tgt := 14) dX3_choose_62 (by decide) ?_
      first | exact hyes c1 _ _ | exact hno c1 _ _
    · skip
      have c1 := (lg_cmp_lt _ _).mp (Int32.not_le.mp c_48)
      refine go_lload dX3_choose_51 rfl ?_
      refine go_lstore (L' := [_, _, _, _, _, _, _, _, _, _]) dX3_choose_53 (by decide) rfl ?_
      refine go_iload dX3_choose_55 rfl ?_
      refine go_istore (L' := [_, _, _, _, _, _, _, _, _, _]) dX3_choose_57 (by decide) rfl ?_
      refine go_inc (L' := [_, _, _, _, _, _, _, _, _, _]) dX3_choose_59 rfl (by decide) rfl ?_
      refine go_goto (tgt := 14) dX3_choose_62 (by decide) ?_
      first | exact hyes c1 _ _ | exact hno c1 _ _
set_option maxRecDepth 100000 in
theorem lchoose_end {least : Int64} {chosen : Int32} {b : Nat} {w8 w9 : Option Value} (hN : 132 ≤ N) (hk : 2 ≤ k) (hk6 : k ≤ 6) (hb : j ≤ b) (hb2 : b < 100) (hj : j ≤ n) (hn : n ≤ 24) (hY : Lt h B E) :
    Go none RX3 cX3_choose 10 none false d 14 [some (.ref 115), some (.ref 50), some (.int (nI k)), some (.int (nI j)), some (.long least), none, some (.int chosen), some (.int (nI b)), w8, w9] [] h N 0 0 (fun v h' N' => v = none ∧ N' = N ∧ Lt h' (u2L B k j least) (u2I E k j chosen) ∧ Fr 117 132 h h') := by
  obtain ⟨R1, R2, y0, y1, y2, y3, y4, y5, y6⟩ := id hY
  refine go_iload dX3_choose_14 rfl ?_
  refine go_iload_n dX3_choose_16 rfl ?_
  refine go_icmp_ge (tgt := 65) dX3_choose_17 (by decide) (fun c_17 => ?_) (fun c_17 => ?_)
  · skip
    refine go_aload_n dX3_choose_65 rfl ?_
    refine go_get dX3_choose_66 fX3_11 (by omega) y0 rfl ?_
    refine go_iload_n dX3_choose_69 rfl ?_
    refine go_aald dX3_choose_70 (by omega) y1 (by decide) (by decide) rfl (by omega) (by omega) (y2 k (by omega)) ?_
    refine go_iload_n dX3_choose_71 rfl ?_
    refine go_lload dX3_choose_72 rfl ?_
    refine go_last dX3_choose_74 (by omega) (y5 k (by omega)) rfl (by omega) (by omega) ?_
    refine go_aload_n dX3_choose_75 rfl ?_
    refine go_get dX3_choose_76 fX3_18 (by omega) ((hset_ne (by omega)).trans y0) rfl ?_
    refine go_iload_n dX3_choose_79 rfl ?_
    refine go_aald dX3_choose_80 (by omega) ((hset_ne (by omega)).trans y3) (by decide) (by decide) rfl (by omega) (by omega) (y4 k (by omega)) ?_
    refine go_iload_n dX3_choose_81 rfl ?_
    refine go_iload dX3_choose_82 rfl ?_
    refine go_iast dX3_choose_84 (by omega) ((hset_ne (by omega)).trans (y6 k (by omega))) rfl (by omega) (by omega) ?_
    refine go_vret dX3_choose_85 rfl ?_
    exact ⟨rfl, rfl, (hY.putB (by omega)).putE (by omega), (Fr.rf.set (by omega) (by omega)).set (by omega) (by omega)⟩
  · exact absurd (nI_le hb (by omega)) c_17
theorem lchoose_loop (hN : 132 ≤ N) (hk : 2 ≤ k) (hk6 : k ≤ 6) (hkj : k ≤ j) (hj : j ≤ n) (hn : n ≤ 24) (hL : Ld h n A W) (hY : Lt h B E) : ∀ (m i : Nat) (w8 w9 : Option Value), k + i + m = j →
    Go none RX3 cX3_choose 10 none false d 14 [some (.ref 115), some (.ref 50), some (.int (nI k)), some (.int (nI j)), some (.long (fm (fun b => B (k - 1) b + spr A W b j) (k - 1) i).1), none, some (.int (nI (fm (fun b => B (k - 1) b + spr A W b j) (k - 1) i).2)), some (.int (nI (k - 1 + i + 1))), w8, w9] [] h N 0 0 (fun v h' N' => v = none ∧ N' = N ∧ Lt h' (u2L B k j (fm (fun b => B (k - 1) b + spr A W b j) (k - 1) (j - k)).1) (u2I E k j (nI (fm (fun b => B (k - 1) b + spr A W b j) (k - 1) (j - k)).2)) ∧ Fr 117 132 h h') := by
  intro m
  induction m with
  | zero =>
    intro i w8 w9 hi
    have e : j - k = i := by omega
    rw [e]
    exact lchoose_end hN hk hk6 (by omega) (by omega) hj hn hY
  | succ m ih =>
    intro i w8 w9 hi
    refine lchoose_one hN hk hk6 (by omega) hj hn hL hY (fun q w8 w9 => ?_) (fun q w8 w9 => ?_)
    · have e : fm (fun b => B (k - 1) b + spr A W b j) (k - 1) (i + 1) = (B (k - 1) (k - 1 + i + 1) + spr A W (k - 1 + i + 1) j, k - 1 + i + 1) := by rw [fm, if_pos q]
      have := ih (i + 1) w8 w9 (by omega)
      rw [e] at this
      exact this
    · have e : fm (fun b => B (k - 1) b + spr A W b j) (k - 1) (i + 1) = fm (fun b => B (k - 1) b + spr A W b j) (k - 1) i := by rw [fm, if_neg q]
      have := ih (i + 1) w8 w9 (by omega)
      rw [e] at this
      exact this
/-- which of the table's cells are as they shall be -/
def TD (n : Nat) (S : Nat → Nat → Int64) (B : Nat → Nat → Int64) (E : Nat → Nat → Int32) (k j : Nat) : Prop := ∀ k' j', 1 ≤ k' → k' < 7 → (k' < k ∨ (k' = k ∧ j' < j)) → 1 ≤ j' → j' ≤ n → (k' ≤ j' → B k' j' = (lst S k' j').1 ∧ E k' j' = nI (lst S k' j').2) ∧ (j' < k' → E k' j' = -9)
theorem run_lchoose (d : Nat) (hN : 132 ≤ N) (hk : 2 ≤ k) (hk6 : k ≤ 6) (hj1 : 1 ≤ j) (hj : j ≤ n) (hn : n ≤ 24) (hS : SB n (spr A W)) (hL : Ld h n A W) (hY : Lt h B E) (hD : TD n (spr A W) B E k j) : Run d yX3_choose cX3_choose 10 none [.ref 115, .ref 50, .int (nI k), .int (nI j)] h N 0 0 (fun v h' N' => v = none ∧ N' = N ∧ (∃ B E, Lt h' B E ∧ TD n (spr A W) B E k (j + 1)) ∧ Fr 117 132 h h') := by
  have keep : ∀ (x : Int64) (y : Int32), (k ≤ j → x = (lst (spr A W) k j).1 ∧ y = nI (lst (spr A W) k j).2) → (j < k → y = -9) → TD n (spr A W) (u2L B k j x) (u2I E k j y) k (j + 1) := by
    intro x y h1 h2 k' j' q1 q7 q2 q3 q4
    by_cases e : k' = k ∧ j' = j
    · obtain ⟨rfl, rfl⟩ := e
      rw [u2L_s, u2I_s]
      exact ⟨h1, h2⟩
    · have hne : k' ≠ k ∨ j' ≠ j := by omega
      rw [u2L_n hne, u2I_n hne]
      exact hD k' j' q1 q7 (by omega) q3 q4
  refine Run.of (ini := false) (L := [_, _, _, _, _, _, _, _, _, _]) mX3_choose (fun h => by cases h) rfl (Nat.le_of_ble_eq_true rfl) rfl ?_
  refine go_ldc2 dX3_choose_0 kX3_36 ?_
  refine go_lstore (L' := [_, _, _, _, _, _, _, _, _, _]) dX3_choose_3 (by decide) rfl ?_
  refine go_bipush (v := (-9)) dX3_choose_5 (by decide) ?_
  refine go_istore (L' := [_, _, _, _, _, _, _, _, _, _]) dX3_choose_7 (by decide) rfl ?_
  refine go_iload_n dX3_choose_9 rfl ?_
  refine go_iconst (v := nI 1) dX3_choose_10 (by decide) ?_
  refine go_isub dX3_choose_11 ?_
  refine go_top (y := .int (nI (k - 1))) (by rw [pk_sub (by omega)]) ?_
  refine go_istore (L' := [_, _, _, _, _, _, _, _, _, _]) dX3_choose_12 (by decide) rfl ?_
  rcases Nat.lt_or_ge j k with e | e
  · exact go_Q (fun v h' N' q => ⟨q.1, q.2.1, ⟨_, _, q.2.2.1, keep _ _ (fun z => absurd z (by omega)) (fun _ => rfl)⟩, q.2.2.2⟩) (lchoose_end (n := n) hN hk hk6 (by omega) (by omega) hj hn hY)
  · obtain ⟨i, rfl⟩ : ∃ i, k = i + 2 := ⟨k - 2, by omega⟩
    have hc : fm (fun b => B (i + 2 - 1) b + spr A W b j) (i + 2 - 1) (j - (i + 2)) = lst (spr A W) (i + 2) j := by
      rw [lst]
      apply fm_cong
      intro t ht1 ht2
      show B (i + 2 - 1) t + _ = _
      rw [show i + 2 - 1 = i + 1 by omega, ((hD (i + 1) t (by omega) (by omega) (by omega) (by omega) (by omega)).1 (by omega)).1]
    refine lchoose_one (b := i + 2 - 1) hN hk hk6 (by omega) hj hn hL hY (fun q w8 w9 => ?_) (fun q w8 w9 => ?_)
    · have := lchoose_loop (d := d) hN hk hk6 e hj hn hL hY (j - (i + 2)) 0 w8 w9 (by omega)
      rw [hc] at this
      exact go_Q (fun v h' N' q => ⟨q.1, q.2.1, ⟨_, _, q.2.2.1, keep _ _ (fun z => ⟨rfl, rfl⟩) (fun z => absurd z (by omega))⟩, q.2.2.2⟩) this
    · exfalso
      apply q
      have b1 := lst_bd hS (k := i + 1) (j := i + 2 - 1) (by omega) (by omega) (by omega) (by omega)
      rw [← ((hD (i + 1) (i + 2 - 1) (by omega) (by omega) (by omega) (by omega) (by omega)).1 (by omega)).1] at b1
      have b2 := hS (i + 2 - 1) j (by omega) hj
      exact (b1.add b2 (by omega)).lt (by rw [show (9223372036854775807 : Int64).toInt = 9223372036854775807 by decide]; omega)
end LastC
section LastB
variable {d N n : Nat} {A W : Nat → Nat} {h0 : gH}
set_option maxRecDepth 100000 in
theorem lb_inner {k : Nat} (hN : 132 ≤ N) (hk : 2 ≤ k) (hk6 : k ≤ 6) (hn : n ≤ 24) (hS : SB n (spr A W)) {Q : Option Value → gH → Nat → Prop}
    (hq : ∀ (h : gH) (B : Nat → Nat → Int64) (E : Nat → Nat → Int32) (w3 : Option Value), Ld h n A W → Lt h B E → TD n (spr A W) B E (k + 1) 1 → Fr 117 132 h0 h → Go none RX3 cX3_build 4 none false (d + 1) 43 [some (.ref 115), some (.ref 50), some (.int (nI (k + 1))), w3] [] h N 0 0 Q) :
    ∀ (m j : Nat) (h : gH) (B : Nat → Nat → Int64) (E : Nat → Nat → Int32), 1 ≤ j → j + m = n + 1 → Ld h n A W → Lt h B E → TD n (spr A W) B E k j → Fr 117 132 h0 h → Go none RX3 cX3_build 4 none false (d + 1) 51 [some (.ref 115), some (.ref 50), some (.int (nI k)), some (.int (nI j))] [] h N 0 0 Q := by
  intro m
  induction m with
  | zero =>
    intro j h B E hj1 hm hL hY hD hF
    obtain ⟨⟨FA, FW, l0, l1, l2, l3, l4, l5⟩, R, r0, r1, r2⟩ := id hL
    refine go_iload_n dX3_build_51 rfl ?_
    refine go_aload_n dX3_build_52 rfl ?_
    refine go_get dX3_build_53 fX3_21 (by omega) l0 rfl ?_
    refine go_icmp_gt (tgt := 72) dX3_build_56 (by decide) (fun c_56 => ?_) (fun c_56 => ?_)
    · skip
      refine go_inc (L' := [_, _, _, _]) dX3_build_72 rfl (by decide) rfl ?_
      refine go_goto (tgt := 43) dX3_build_75 (by decide) ?_
      exact hq h B E _ hL hY (fun k' j' h1 h7 h2 h3 h4 => hD k' j' h1 h7 (by omega) h3 h4) hF
    · exact absurd (nI_lt (by omega) (by omega)) c_56
  | succ m ih =>
    intro j h B E hj1 hm hL hY hD hF
    obtain ⟨⟨FA, FW, l0, l1, l2, l3, l4, l5⟩, R, r0, r1, r2⟩ := id hL
    obtain ⟨R1, R2, y0, -⟩ := id hY
    refine go_iload_n dX3_build_51 rfl ?_
    refine go_aload_n dX3_build_52 rfl ?_
    refine go_get dX3_build_53 fX3_21 (by omega) l0 rfl ?_
    refine go_icmp_gt (tgt := 72) dX3_build_56 (by decide) (fun c_56 => ?_) (fun c_56 => ?_)
    · exact absurd ((nI_ltI (by omega) (by omega)).mp c_56) (by omega)
    · skip
      refine go_aload_n dX3_build_59 rfl ?_
      refine go_aload_n dX3_build_60 rfl ?_
      refine go_iload_n dX3_build_61 rfl ?_
      refine go_iload_n dX3_build_62 rfl ?_
      refine go_iv dX3_build_63 mX3_choose iX3_30 (run_lchoose d hN hk hk6 hj1 (by omega) hn hS hL hY hD) rfl rfl (by omega) y0 rfl (Nat.le_of_ble_eq_true rfl) (Nat.zero_le _) (Nat.zero_le _) (fun v_63 h_63 n_63 q_63 => ?_)
      obtain ⟨rfl, rfl, ⟨B1, E1, hY1, hD1⟩, hF1⟩ := q_63
      refine go_inc (L' := [_, _, _, _]) dX3_build_66 rfl (by decide) rfl ?_
      refine go_goto (tgt := 51) dX3_build_69 (by decide) ?_
      exact ih (j + 1) _ _ _ (by omega) (by omega) (hL.fr hF1 (by omega)) hY1 hD1 (hF.trans hF1)
set_option maxRecDepth 100000 in
theorem lb_outer (hN : 132 ≤ N) (hn : n ≤ 24) (hS : SB n (spr A W)) : ∀ (m k : Nat) (h : gH) (B : Nat → Nat → Int64) (E : Nat → Nat → Int32) (w3 : Option Value), 2 ≤ k → k + m = 7 → Ld h n A W → Lt h B E → TD n (spr A W) B E k 1 → Fr 117 132 h0 h → Go none RX3 cX3_build 4 none false (d + 1) 43 [some (.ref 115), some (.ref 50), some (.int (nI k)), w3] [] h N 0 0 (fun v h' N' => v = none ∧ N' = N ∧ (∃ B E, Lt h' B E ∧ TD n (spr A W) B E 7 1) ∧ Fr 117 132 h0 h') := by
  intro m
  induction m with
  | zero =>
    intro k h B E w3 hk2 hm hL hY hD hF
    have e : k = 7 := by omega
    subst e
    refine go_iload_n dX3_build_43 rfl ?_
    refine go_bipush (v := nI 6) dX3_build_44 (by decide) ?_
    refine go_icmp_gt (tgt := 78) dX3_build_46 (by decide) (fun c_46 => ?_) (fun c_46 => ?_)
    · skip
      refine go_vret dX3_build_78 rfl ?_
      exact ⟨rfl, rfl, ⟨B, E, hY, hD⟩, hF⟩
    · exact absurd (nI_lt (by omega) (by omega)) c_46
  | succ m ih =>
    intro k h B E w3 hk2 hm hL hY hD hF
    refine go_iload_n dX3_build_43 rfl ?_
    refine go_bipush (v := nI 6) dX3_build_44 (by decide) ?_
    refine go_icmp_gt (tgt := 78) dX3_build_46 (by decide) (fun c_46 => ?_) (fun c_46 => ?_)
    · exact absurd ((nI_ltI (by omega) (by omega)).mp c_46) (by omega)
    · skip
      refine go_iconst (v := nI 1) dX3_build_49 (by decide) ?_
      refine go_istore_n (L' := [_, _, _, _]) dX3_build_50 rfl (by decide) rfl ?_
      exact lb_inner hN hk2 (by omega) hn hS (fun h1 B1 E1 w6 q1 q2 q3 q4 => ih (k + 1) h1 B1 E1 w6 (by omega) (by omega) q1 q2 q3 q4) n 1 h B E (by omega) (by omega) hL hY hD hF
set_option maxRecDepth 100000 in
theorem lb_first (hN : 132 ≤ N) (hn : n ≤ 24) (hS : SB n (spr A W)) : ∀ (m j : Nat) (h : gH) (B : Nat → Nat → Int64) (E : Nat → Nat → Int32), 1 ≤ j → j + m = n + 1 → Ld h n A W → Lt h B E → TD n (spr A W) B E 1 j → Fr 117 132 h0 h → Go none RX3 cX3_build 4 none false (d + 1) 2 [some (.ref 115), some (.ref 50), some (.int (nI j)), none] [] h N 0 0 (fun v h' N' => v = none ∧ N' = N ∧ (∃ B E, Lt h' B E ∧ TD n (spr A W) B E 7 1) ∧ Fr 117 132 h0 h') := by
  intro m
  induction m with
  | zero =>
    intro j h B E hj1 hm hL hY hD hF
    obtain ⟨⟨FA, FW, l0, l1, l2, l3, l4, l5⟩, R, r0, r1, r2⟩ := id hL
    refine go_iload_n dX3_build_2 rfl ?_
    refine go_aload_n dX3_build_3 rfl ?_
    refine go_get dX3_build_4 fX3_21 (by omega) l0 rfl ?_
    refine go_icmp_gt (tgt := 41) dX3_build_7 (by decide) (fun c_7 => ?_) (fun c_7 => ?_)
    · skip
      refine go_iconst (v := nI 2) dX3_build_41 (by decide) ?_
      refine go_istore_n (L' := [_, _, _, _]) dX3_build_42 rfl (by decide) rfl ?_
      exact lb_outer hN hn hS 5 2 h B E none (by omega) (by omega) hL hY (fun k' j' h1 h7 h2 h3 h4 => hD k' j' h1 h7 (by omega) h3 h4) hF
    · exact absurd (nI_lt (by omega) (by omega)) c_7
  | succ m ih =>
    intro j h B E hj1 hm hL hY hD hF
    obtain ⟨R1, R2, y0, y1, y2, y3, y4, y5, y6⟩ := id hY
    obtain ⟨⟨FA, FW, l0, l1, l2, l3, l4, l5⟩, R, r0, r1, r2⟩ := id hL
    obtain ⟨F, f0, f1⟩ := r2 0 (by omega)
    refine go_iload_n dX3_build_2 rfl ?_
    refine go_aload_n dX3_build_3 rfl ?_
    refine go_get dX3_build_4 fX3_21 (by omega) l0 rfl ?_
    refine go_icmp_gt (tgt := 41) dX3_build_7 (by decide) (fun c_7 => ?_) (fun c_7 => ?_)
    · exact absurd ((nI_ltI (by omega) (by omega)).mp c_7) (by omega)
    · skip
      refine go_aload_n dX3_build_10 rfl ?_
      refine go_get dX3_build_11 fX3_11 (by omega) y0 rfl ?_
      refine go_iconst (v := nI 1) dX3_build_14 (by decide) ?_
      refine go_aald dX3_build_15 (by omega) y1 (by decide) (by decide) rfl (by omega) (by omega) (y2 1 (by omega)) ?_
      refine go_iload_n dX3_build_16 rfl ?_
      refine go_aload_n dX3_build_17 rfl ?_
      refine go_get dX3_build_18 fX3_27 (by omega) l0 rfl ?_
      refine go_iconst (v := nI 0) dX3_build_21 (by decide) ?_
      refine go_aald dX3_build_22 (by omega) r0 (by decide) (by decide) rfl (by omega) (by omega) (r1 0 (by omega)) ?_
      refine go_iload_n dX3_build_23 rfl ?_
      refine go_lald dX3_build_24 (by omega) f0 rfl (by omega) (by omega) ?_
      refine go_top (y := .long (spr A W 0 j)) (by rw [f1 j (by omega) (by omega) (by omega)]) ?_
      refine go_last dX3_build_25 (by omega) (y5 1 (by omega)) rfl (by omega) (by omega) ?_
      refine go_aload_n dX3_build_26 rfl ?_
      refine go_get dX3_build_27 fX3_18 (by omega) ((hset_ne (by omega)).trans y0) rfl ?_
      refine go_iconst (v := nI 1) dX3_build_30 (by decide) ?_
      refine go_aald dX3_build_31 (by omega) ((hset_ne (by omega)).trans y3) (by decide) (by decide) rfl (by omega) (by omega) (y4 1 (by omega)) ?_
      refine go_iload_n dX3_build_32 rfl ?_
      refine go_iconst (v := nI 0) dX3_build_33 (by decide) ?_
      refine go_iast dX3_build_34 (by omega) ((hset_ne (by omega)).trans (y6 1 (by omega))) rfl (by omega) (by omega) ?_
      refine go_inc (L' := [_, _, _, _]) dX3_build_35 rfl (by decide) rfl ?_
      refine go_goto (tgt := 2) dX3_build_38 (by decide) ?_
      have fr : Fr 117 132 h (hset (hset h (117 + 1) (.inl (1, 25, .inr (.inl (vp_updL (B 1) j (spr A W 0 j)))))) (125 + 1) (.inl (0, 25, .inl (upd (E 1) j (nI 0))))) := (Fr.rf.set (by omega) (by omega)).set (by omega) (by omega)
      refine ih (j + 1) _ _ _ (by omega) (by omega) (hL.fr fr (by omega)) ((hY.putB (by omega)).putE (by omega)) ?_ (hF.trans fr)
      intro k' j' h1 h7 h2 h3 h4
      by_cases e : k' = 1 ∧ j' = j
      · obtain ⟨rfl, rfl⟩ := e
        rw [u2L_s, u2I_s]
        exact ⟨fun _ => ⟨rfl, rfl⟩, fun z => absurd z (by omega)⟩
      · have hne : k' ≠ 1 ∨ j' ≠ j := by omega
        rw [u2L_n hne, u2I_n hne]
        exact hD k' j' h1 h7 (by omega) h3 h4
theorem run_lbuild (d : Nat) {h : gH} {B : Nat → Nat → Int64} {E : Nat → Nat → Int32} (hN : 132 ≤ N) (hS : SB n (spr A W)) (hL : Ld h n A W) (hY : Lt h B E) : Run (d + 1) yX3_build cX3_build 4 none [.ref 115, .ref 50] h N 0 0 (fun v h' N' => v = none ∧ N' = N ∧ (∃ B E, Lt h' B E ∧ TD n (spr A W) B E 7 1) ∧ Fr 117 132 h h') := by
  obtain ⟨⟨FA, FW, l0, l1, l2, l3, l4, l5⟩, -⟩ := id hL
  refine Run.of (ini := false) (L := [_, _, _, _]) mX3_build (fun h => by cases h) rfl (Nat.le_of_ble_eq_true rfl) rfl ?_
  refine go_iconst (v := nI 1) dX3_build_0 (by decide) ?_
  refine go_istore_n (L' := [_, _, _, _]) dX3_build_1 rfl (by decide) rfl ?_
  exact lb_first hN l3 hS n 1 h B E (by omega) (by omega) hL hY (fun k' a' h1 h7 h2 h3 => absurd h2 (by omega)) Fr.rf
set_option maxRecDepth 100000 in
theorem run_last0 (d : Nat) {h : gH} (h0 : h 115 = .inr (3, [.null, .null])) : Run (d + 1) yX3_init cX3_init 1 none [.ref 115] h 116 16 364 (fun v h' N' => v = none ∧ N' = 132 ∧ Lt h' (fun _ _ => 0) (fun _ _ => 0) ∧ Fr 115 132 h h') := by
  refine Run.of (ini := true) (L := [_]) mX3_init (fun h => rfl) rfl (Nat.le_of_ble_eq_true rfl) rfl ?_
  refine go_aload_n dX3_init_0 rfl ?_
  refine go_obj dX3_init_1 oX3 (Nat.le_of_ble_eq_true rfl) ?_
  refine go_aload_n dX3_init_4 rfl ?_
  refine go_bipush (v := nI 7) dX3_init_5 (by decide) ?_
  refine go_bipush (v := nI 25) dX3_init_7 (by decide) ?_
  refine go_mna (n := 7) (w := 25) (kd := 6) (ki := 1) (ty := .long) dX3_init_9 nX3_9 ac_long (Or.inr ⟨rfl, rfl, rfl, rfl⟩) rfl rfl (by omega) (by omega) (by decide) (by decide) ?_
  have hg : ∀ (h : gH) (z : gC) (M kd j : Nat), (j < M ∨ M + 8 ≤ j) → hgrid h M 7 kd z j = h j := fun h z M kd j hj => by unfold hgrid; rw [if_neg (by omega), if_neg (by omega)]
  have hg1 : ∀ (h : gH) (z : gC) (M kd i : Nat), i < 7 → hgrid h M 7 kd z (M + 1 + i) = z := fun h z M kd i hi => by unfold hgrid; rw [if_neg (by omega), if_pos (by omega)]
  have hg0 : ∀ (h : gH) (z : gC) (M kd : Nat), hgrid h M 7 kd z M = .inl (kd, 7, .inr (.inr (.inr (.inr (fun i => if i < 7 then some (M + 1 + i) else none))))) := fun h z M kd => by unfold hgrid; rw [if_pos rfl]
  refine go_put (fs' := [_, _]) dX3_init_13 fX3_11 (by omega) ((hg _ _ _ _ _ (by omega)).trans h0) (Nat.le_of_ble_eq_true rfl) rfl ⟨_, _, _, rfl, Or.inr ⟨rfl, rfl, rfl⟩⟩ rfl ?_
  refine go_aload_n dX3_init_16 rfl ?_
  refine go_bipush (v := nI 7) dX3_init_17 (by decide) ?_
  refine go_bipush (v := nI 25) dX3_init_19 (by decide) ?_
  refine go_mna (n := 7) (w := 25) (kd := 5) (ki := 0) (ty := .int) dX3_init_21 nX3_16 ac_int (Or.inl ⟨rfl, rfl, rfl, rfl⟩) rfl rfl (by omega) (by omega) (by decide) (by decide) ?_
  refine go_put (fs' := [_, _]) dX3_init_25 fX3_18 (by omega) ((hg _ _ _ _ _ (by omega)).trans hset_same) (Nat.le_of_ble_eq_true rfl) rfl ⟨_, _, _, rfl, Or.inr ⟨rfl, rfl, rfl⟩⟩ rfl ?_
  refine go_vret dX3_init_28 rfl ?_
  refine ⟨rfl, rfl, ⟨fun i => if i < 7 then some (116 + 1 + i) else none, fun i => if i < 7 then some (124 + 1 + i) else none, hset_same, ?_, fun i hi => ?_, ?_, fun i hi => ?_, fun i hi => ?_, fun i hi => ?_⟩, fun x hx => ?_⟩
  · rw [hset_ne (by omega), hg _ _ _ _ _ (by omega), hset_ne (by omega), hg0]
  · show (if i < 7 then some (116 + 1 + i) else none) = _; rw [if_pos hi]
  · rw [hset_ne (by omega)]; exact hg0 _ _ _ _
  · show (if i < 7 then some (124 + 1 + i) else none) = _; rw [if_pos hi]
  · rw [hset_ne (by omega), hg _ _ _ _ _ (by omega), hset_ne (by omega)]; exact hg1 _ _ _ _ _ hi
  · rw [hset_ne (by omega)]; exact hg1 _ _ _ _ _ hi
  · rw [hset_ne (by omega), hg _ _ _ _ _ (by omega), hset_ne (by omega), hg _ _ _ _ _ (by omega)]
end LastB
end
section
/-! ===== SORTED of a chart, once for all ===== -/
theorem srt_ex (f : Nat → Option Nat) : ∀ k, ∃ q : Nat × (Nat → Nat) × (Nat → Nat), Srt q.1 q.2.1 q.2.2 (cF f k)
  | 0 => ⟨(0, fun _ => 0, fun _ => 0), Srt.zero⟩
  | k + 1 => by
    obtain ⟨⟨n, A, W⟩, hS⟩ := srt_ex f k
    have hS : Srt n A W (cF f k) := hS
    cases hq : f k with
    | none => rw [cF_none hq]; exact ⟨(n, A, W), hS⟩
    | some v =>
      rw [cF_some hq]
      by_cases e : ∃ i, i < n ∧ A i = v
      · obtain ⟨i, hi, q⟩ := e
        exact ⟨(n, A, _), hS.hit hi q⟩
      · have hno : ∀ i, i < n → A i ≠ v := fun i hi q => e ⟨i, hi, q⟩
        have hr : ∃ r, Rk n A v r := by
          have key : ∀ m, m ≤ n → ∃ r, r ≤ m ∧ (∀ i, i < r → A i < v) ∧ ∀ i, r ≤ i → i < m → v ≤ A i := by
            intro m
            induction m with
            | zero => exact fun _ => ⟨0, Nat.le_refl _, fun i h => absurd h (by omega), fun i _ h => absurd h (by omega)⟩
            | succ m ih =>
              intro hm
              obtain ⟨r, h1, h2, h3⟩ := ih (by omega)
              by_cases q : A m < v
              · refine ⟨m + 1, Nat.le_refl _, fun i hi => ?_, fun i h4 h5 => absurd h5 (by omega)⟩
                rcases Nat.lt_or_ge i m with z | z
                · have := hS.1 i m z (by omega); omega
                · rw [show i = m by omega]; exact q
              · refine ⟨r, by omega, h2, fun i h4 h5 => ?_⟩
                rcases Nat.lt_or_ge i m with z | z
                · exact h3 i h4 z
                · rw [show i = m by omega]; omega
          exact key n (Nat.le_refl _)
        obtain ⟨r, hr⟩ := hr
        exact ⟨(n + 1, _, _), hS.new hr hno⟩
noncomputable def so (f : Nat → Option Nat) : Nat × (Nat → Nat) × (Nat → Nat) := Classical.choose (srt_ex f 100)
theorem so_ok (f : Nat → Option Nat) : Srt (so f).1 (so f).2.1 (so f).2.2 (cF f 100) := Classical.choose_spec (srt_ex f 100)
/-- what a chart keeps to -/
def CW (c : CD) : Prop := (∀ x, x < 100 → ∀ v, c.1 x = some v → v ≤ 999) ∧ cP c.1 100 ≤ 24 ∧ (∀ n, c.2.2.1 = some n → n ≤ 5) ∧ (∀ x, x < 5 → c.2.1 x ≤ 999) ∧ (1 ≤ c.2.2.2.1 ∧ c.2.2.2.1 ≤ 6) ∧ c.2.2.2.2 ≤ 999
theorem so_le {f : Nat → Option Nat} (hw : ∀ x, x < 100 → ∀ v, f x = some v → v ≤ 999) : ∀ i, i < (so f).1 → (so f).2.1 i ≤ 999 := (so_ok f).le (fun v hv => by obtain ⟨x, h1, h2⟩ := cF_pos hv; exact hw x h1 v h2)
theorem so_tot {f : Nat → Option Nat} (hp : cP f 100 ≤ 24) : sm (so f).2.2 0 (so f).1 ≤ 24 := Nat.le_trans (so_ok f).total hp
theorem so_pos (f : Nat → Option Nat) : ∀ i, i < (so f).1 → 0 < (so f).2.2 i := fun i hi => by have := (so_ok f).2.1 i hi; omega
theorem sm_ge {f : Nat → Nat} {a : Nat} : ∀ {m}, (∀ i, a ≤ i → i < a + m → 0 < f i) → m ≤ sm f a m
  | 0, _ => Nat.le_refl _
  | m + 1, h => by
    have := sm_ge (m := m) (fun i h1 h2 => h i h1 (by omega))
    have := h (a + m) (by omega) (by omega)
    rw [sm]
    omega
theorem so_24 {f : Nat → Option Nat} (hp : cP f 100 ≤ 24) : (so f).1 ≤ 24 := by
  have h1 := so_tot hp
  have h2 := sm_ge (f := (so f).2.2) (a := 0) (m := (so f).1) (fun i _ hi => so_pos f i (by omega))
  omega
/-! bounds of the spreads -/
theorem sm_mul_le {f g : Nat → Nat} {a c : Nat} : ∀ {m}, (∀ i, a ≤ i → i < a + m → g i ≤ f i * c) → sm g a m ≤ sm f a m * c
  | 0, _ => by simp [sm]
  | m + 1, h => by
    have h1 := sm_mul_le (m := m) (fun i h1 h2 => h i h1 (by omega))
    have h2 := h (a + m) (by omega) (by omega)
    rw [sm, sm, Nat.add_mul]
    omega
theorem toInt64_lN {n : Nat} (h : n < 2 ^ 63) : (lN n).toInt = (n : Int) := pk_lT h
theorem toInt64_sub {x y : Int64} (h1 : -9223372036854775808 ≤ x.toInt - y.toInt) (h2 : x.toInt - y.toInt < 9223372036854775808) : (x - y).toInt = x.toInt - y.toInt := by
  rw [Int64.toInt_sub, Int.bmod_eq_of_le (by simpa using h1) (by simpa using h2)]
theorem part_sq : ∀ w, w < 25 → 0 < w → w * 999 * (w * 999) * (5354228880 / w) ≤ 130000000000000000 := by decide
/-- the spread as an exact number: upper part less lower part, both small -/
theorem spr_int {A W : Nat → Nat} {a b n : Nat} (hab : a < b) (hb : b ≤ n) (hA : ∀ i, i < n → A i ≤ 999) (hW : ∀ i, i < n → 0 < W i) (ht : sm W 0 n ≤ 24) : sm (fun i => W i * A i * A i) a (b - a) * 5354228880 ≤ 130000000000000000 ∧ sm (fun i => W i * A i) a (b - a) * sm (fun i => W i * A i) a (b - a) * (5354228880 / sm W a (b - a)) ≤ 130000000000000000 ∧ (spr A W a b).toInt = (sm (fun i => W i * A i * A i) a (b - a) * 5354228880 : Nat) - ((sm (fun i => W i * A i) a (b - a) * sm (fun i => W i * A i) a (b - a) * (5354228880 / sm W a (b - a)) : Nat) : Int) ∧ 1 ≤ sm W a (b - a) ∧ sm W a (b - a) ≤ 24 := by
  have hw1 : 1 ≤ sm W a (b - a) := by
    have := sm_ge (f := W) (a := a) (m := b - a) (fun i _ hi => hW i (by omega))
    omega
  have hw2 : sm W a (b - a) ≤ 24 := by
    have h1 := sm_split W 0 a (b - a)
    have h2 := sm_mono W 0 (m := a + (b - a)) (m' := n) (by omega)
    rw [Nat.zero_add] at h1
    omega
  have h2 : sm (fun i => W i * A i * A i) a (b - a) ≤ sm W a (b - a) * 998001 := by
    apply sm_mul_le
    intro i h1 h2
    have hi := hA i (by omega)
    have : A i * A i ≤ 999 * 999 := Nat.mul_le_mul hi hi
    rw [Nat.mul_assoc]
    exact Nat.mul_le_mul_left _ this
  have h1 : sm (fun i => W i * A i) a (b - a) ≤ sm W a (b - a) * 999 := by
    apply sm_mul_le
    intro i h1 h2
    exact Nat.mul_le_mul_left _ (hA i (by omega))
  have hq := part_sq (sm W a (b - a)) (by omega) (by omega)
  have h3 : sm (fun i => W i * A i) a (b - a) * sm (fun i => W i * A i) a (b - a) * (5354228880 / sm W a (b - a)) ≤ 130000000000000000 := Nat.le_trans (Nat.mul_le_mul_right _ (Nat.mul_le_mul h1 h1)) hq
  have h4 : sm (fun i => W i * A i * A i) a (b - a) * 5354228880 ≤ 130000000000000000 := by
    have : sm (fun i => W i * A i * A i) a (b - a) ≤ 24 * 998001 := Nat.le_trans h2 (Nat.mul_le_mul_right _ hw2)
    omega
  refine ⟨h4, h3, ?_, hw1, hw2⟩
  unfold spr
  rw [show (5354228880 : Int64) = lN 5354228880 from rfl, lN_mul, lN_mul, lN_mul]
  have e1 := toInt64_lN (n := sm (fun i => W i * A i * A i) a (b - a) * 5354228880) (by omega)
  have e2 := toInt64_lN (n := sm (fun i => W i * A i) a (b - a) * sm (fun i => W i * A i) a (b - a) * (5354228880 / sm W a (b - a))) (by omega)
  rw [toInt64_sub (by rw [e1, e2]; omega) (by rw [e1, e2]; omega), e1, e2]
theorem spr_SB {A W : Nat → Nat} {n : Nat} (hA : ∀ i, i < n → A i ≤ 999) (hW : ∀ i, i < n → 0 < W i) (ht : sm W 0 n ≤ 24) : SB n (spr A W) := by
  intro a b hab hb
  obtain ⟨h1, h2, h3, -⟩ := spr_int hab hb hA hW ht
  exact ⟨by rw [h3]; omega, by rw [h3]; omega⟩
theorem so_SB {c : CD} (hw : CW c) : SB (so c.1).1 (spr (so c.1).2.1 (so c.1).2.2) := spr_SB (so_le hw.1) (so_pos c.1) (so_tot hw.2.1)
/-! what depends on the first n alone -/
theorem spr_cong {A W A' W' : Nat → Nat} {n a b : Nat} (h : ∀ i, i < n → A i = A' i ∧ W i = W' i) (hb : b ≤ n) (hab : a < b) : spr A W a b = spr A' W' a b := by
  have e1 : sm W a (b - a) = sm W' a (b - a) := sm_cong (fun i _ hi => (h i (by omega)).2)
  have e2 : sm (fun i => W i * A i) a (b - a) = sm (fun i => W' i * A' i) a (b - a) := sm_cong (fun i _ hi => by rw [(h i (by omega)).1, (h i (by omega)).2])
  have e3 : sm (fun i => W i * A i * A i) a (b - a) = sm (fun i => W' i * A' i * A' i) a (b - a) := sm_cong (fun i _ hi => by rw [(h i (by omega)).1, (h i (by omega)).2])
  unfold spr
  rw [e1, e2, e3]
theorem bst_cong {n : Nat} {S S' : Nat → Nat → Int64} {fee fee' : Nat → Int64} (hS : ∀ a b, a < b → b ≤ n → S a b = S' a b) (hf : ∀ t, t < n → fee t = fee' t) : ∀ {k a : Nat}, 1 ≤ k → a + k ≤ n → bst n S fee k a = bst n S' fee' k a
  | 0, a, h, _ => absurd h (by omega)
  | 1, a, _, h => by
    show (S a n, n) = (S' a n, n)
    rw [hS a n (by omega) (Nat.le_refl _)]
  | k + 2, a, _, h => by
    rw [bst, bst]
    apply fm_cong
    intro t h1 h2
    rw [hS a t (by omega) (by omega), hf t (by omega), bst_cong hS hf (k := k + 1) (a := t) (by omega) (by omega)]
theorem bg_cong {n r : Nat} {S S' : Nat → Nat → Int64} {fee fee' : Nat → Int64} (hS : ∀ a b, a < b → b ≤ n → S a b = S' a b) (hf : ∀ t, t < n → fee t = fee' t) (hr : r ≤ n) : ∀ {i : Nat}, i ≤ r → bg n S fee r i = bg n S' fee' r i
  | 0, _ => rfl
  | i + 1, h => by
    have ih := bg_cong hS hf hr (i := i) (by omega)
    have hb := bg_in (n := n) (S := S) (fee := fee) hr (i := i) (by omega)
    rw [bg, bg, ← ih, bst_cong hS hf (by omega) (by omega)]
theorem tot_cong {n r : Nat} {S S' : Nat → Nat → Int64} {fee fee' : Nat → Int64} (hS : ∀ a b, a < b → b ≤ n → S a b = S' a b) (hf : ∀ t, t < n → fee t = fee' t) (hr : r ≤ n) : ∀ {i : Nat}, i ≤ r → tot n S fee r i = tot n S' fee' r i
  | 0, _ => rfl
  | i + 1, h => by
    have hb := bg_in (n := n) (S := S) (fee := fee) hr (i := i + 1) (by omega)
    have hl := bg_lt (n := n) (S := S) (fee := fee) hr (i := i) (by omega)
    rw [tot, tot, tot_cong hS hf hr (by omega), hS _ _ hl (by omega), bg_cong hS hf hr (i := i) (by omega), bg_cong hS hf hr (i := i + 1) (by omega)]
theorem Pg.cong {h : gH} {p r : Nat} {B B' : Nat → Nat} {s s' : Int64} (q : Pg h p (r, B, s)) (hB : ∀ x, x < r → B x = B' x) (hs : s = s') : Pg h p (r, B', s') := by
  obtain ⟨F, h0, h1, h2, h3⟩ := q
  subst hs
  exact ⟨F, h0, h1, h2, fun x hx => by rw [h3 x hx]; exact congrArg nI (hB x hx)⟩
theorem Ld.canon {h : gH} {n : Nat} {A W : Nat → Nat} {f : Nat → Option Nat} (q : Ld h n A W) (hS : Srt n A W (cF f 100)) : Ld h (so f).1 (so f).2.1 (so f).2.2 := by
  obtain ⟨e, he⟩ := hS.same (so_ok f)
  obtain ⟨⟨FA, FW, h0, h1, h2, h3, h4, h5⟩, R, r0, r1, r2⟩ := q
  rw [← e]
  refine ⟨⟨FA, FW, h0, h1, h2, h3, fun i hi => by rw [h4 i hi, (he i hi).1], fun i hi => by rw [h5 i hi, (he i hi).2]⟩, R, r0, r1, fun i hi => ?_⟩
  obtain ⟨F, f0, f1⟩ := r2 i hi
  exact ⟨F, f0, fun j q1 q2 q3 => by rw [f1 j q1 q2 q3, spr_cong he q3 q2]⟩
/-! NOW and LEAST of a chart -/
noncomputable def feeN (c : CD) : Nat → Int64 := fun t => feeC c ((so c.1).2.1 t)
noncomputable def parD (c : CD) (fee : Nat → Int64) (k : Nat) : PD := (min k (so c.1).1, bg (so c.1).1 (spr (so c.1).2.1 (so c.1).2.2) fee (min k (so c.1).1), tot (so c.1).1 (spr (so c.1).2.1 (so c.1).2.2) fee (min k (so c.1).1) (min k (so c.1).1))
noncomputable def nowD (c : CD) : PD := parD c (feeN c) c.2.2.2.1
noncomputable def leastD (c : CD) (k : Nat) : PD := parD c (fun _ => 0) k
/-! ===== Partings: cell 49 ===== -/
def Pa (h : gH) (c : CD) (l cu le ta : Bool) : Prop :=
  h 49 = .inr (6, [.ref 1, .ref 50, .ref 79, .ref 97, .ref 115, .ref 132, .ref 134, .int (bI l), .int (bI cu), .int (bI le), .int (bI ta)]) ∧
  Ls h ∧ (l = true → Ld h (so c.1).1 (so c.1).2.1 (so c.1).2.2) ∧
  (∃ B E Fe, Wy h 79 B E Fe) ∧ (∃ B E, Wy h 97 B E (fun _ => 0)) ∧
  (∃ B E, Lt h B E ∧ (ta = true → TD (so c.1).1 (spr (so c.1).2.1 (so c.1).2.2) B E 7 1)) ∧
  (∃ q, Pg h 132 q ∧ (cu = true → q = nowD c)) ∧
  (∃ R : Nat → Option Nat, h 134 = .inl (4, 6, .inr (.inr (.inr (.inr R)))) ∧ (∀ i, i < 6 → R i = some (135 + 2 * i))) ∧
  (∀ i, i < 6 → ∃ q, Pg h (135 + 2 * i) q ∧ (le = true → q = leastD c (i + 1)))
theorem Pa.fr {h h' : gH} {c : CD} {l cu le ta : Bool} {lo hi : Nat} (q : Pa h c l cu le ta) (f : Fr lo hi h h') (hx : 147 ≤ lo ∨ hi ≤ 49) : Pa h' c l cu le ta := by
  obtain ⟨h0, h1, h2, ⟨B1, E1, Fe, h3⟩, ⟨B2, E2, h4⟩, ⟨B3, E3, h5, h5'⟩, ⟨p, h6, h6'⟩, ⟨R, h7, h7'⟩, h8⟩ := q
  refine ⟨(f _ (by omega)).trans h0, h1.fr f (by omega), fun z => (h2 z).fr f (by omega), ⟨B1, E1, Fe, h3.fr f (by omega)⟩, ⟨B2, E2, h4.fr f (by omega)⟩, ⟨B3, E3, h5.fr f (by omega), h5'⟩, ⟨p, h6.fr f (by omega), h6'⟩, ⟨R, (f _ (by omega)).trans h7, h7'⟩, fun i hi => ?_⟩
  obtain ⟨q, h9, h10⟩ := h8 i hi
  exact ⟨q, h9.fr f (by omega), h10⟩
end
section
/-! ===== the methods of Partings ===== -/
def pa49 (l cu le ta : Bool) : gC := .inr (6, [.ref 1, .ref 50, .ref 79, .ref 97, .ref 115, .ref 132, .ref 134, .int (bI l), .int (bI cu), .int (bI le), .int (bI ta)])
theorem fr49 {h : gH} {x : gC} : Fr 49 50 h (hset h 49 x) := Fr.rf.set (by omega) (by omega)
theorem Pa.upd49 {h : gH} {c c' : CD} {l cu le ta l' cu' le' ta' : Bool} (q : Pa h c l cu le ta) (hl : l' = true → Ld h (so c'.1).1 (so c'.1).2.1 (so c'.1).2.2) (hcu : cu' = true → Pg h 132 (nowD c')) (hle : le' = true → ∀ i, i < 6 → Pg h (135 + 2 * i) (leastD c' (i + 1))) (hta : ta' = true → ∃ B E, Lt h B E ∧ TD (so c'.1).1 (spr (so c'.1).2.1 (so c'.1).2.2) B E 7 1) : Pa (hset h 49 (pa49 l' cu' le' ta')) c' l' cu' le' ta' := by
  obtain ⟨h0, h1, h2, ⟨B1, E1, Fe, h3⟩, ⟨B2, E2, h4⟩, ⟨B3, E3, h5, h5'⟩, ⟨p, h6, h6'⟩, ⟨R, h7, h7'⟩, h8⟩ := q
  refine ⟨hset_same, h1.fr fr49 (by omega), fun z => (hl z).fr fr49 (by omega), ⟨B1, E1, Fe, h3.fr fr49 (by omega)⟩, ⟨B2, E2, h4.fr fr49 (by omega)⟩, ?_, ?_, ⟨R, (hset_ne (by omega)).trans h7, h7'⟩, fun i hi => ?_⟩
  · cases ta' with
    | false => exact ⟨B3, E3, h5.fr fr49 (by omega), fun z => by cases z⟩
    | true =>
      obtain ⟨B, E, g1, g2⟩ := hta rfl
      exact ⟨B, E, g1.fr fr49 (by omega), fun _ => g2⟩
  · cases cu' with
    | false => exact ⟨p, h6.fr fr49 (by omega), fun z => by cases z⟩
    | true => exact ⟨_, (hcu rfl).fr fr49 (by omega), fun _ => rfl⟩
  · cases le' with
    | false =>
      obtain ⟨p, g1, -⟩ := h8 i hi
      exact ⟨p, g1.fr fr49 (by omega), fun z => by cases z⟩
    | true => exact ⟨_, (hle rfl i hi).fr fr49 (by omega), fun _ => rfl⟩
theorem run_pforget (d : Nat) {N : Nat} {h : gH} {c : CD} {l cu le ta : Bool} (hN : 147 ≤ N) (hP : Pa h c l cu le ta) : Run d yX6_forget cX6_forget 1 none [.ref 49] h N 0 0 (fun v h' N' => v = none ∧ N' = N ∧ (∀ c', Pa h' c' false false false false) ∧ Fr 49 50 h h') := by
  have h0 := hP.1
  refine Run.of (ini := false) (L := [_]) mX6_forget (fun h => by cases h) rfl (Nat.le_of_ble_eq_true rfl) rfl ?_
  refine go_aload_n dX6_forget_0 rfl ?_
  refine go_iconst (v := nI 0) dX6_forget_1 (by decide) ?_
  refine go_put (fs' := [_, _, _, _, _, _, _, _, _, _, _]) dX6_forget_2 fX6_50 (by omega) h0 (Nat.le_of_ble_eq_true rfl) (Or.inr ⟨rfl, by decide⟩) ⟨_, _, _, rfl, Or.inl rfl⟩ rfl ?_
  refine go_aload_n dX6_forget_5 rfl ?_
  refine go_iconst (v := nI 0) dX6_forget_6 (by decide) ?_
  refine go_put (fs' := [_, _, _, _, _, _, _, _, _, _, _]) dX6_forget_7 fX6_54 (by omega) hset_same (Nat.le_of_ble_eq_true rfl) (Or.inr ⟨rfl, by decide⟩) ⟨_, _, _, rfl, Or.inl rfl⟩ rfl ?_
  refine go_aload_n dX6_forget_10 rfl ?_
  refine go_iconst (v := nI 0) dX6_forget_11 (by decide) ?_
  refine go_put (fs' := [_, _, _, _, _, _, _, _, _, _, _]) dX6_forget_12 fX6_57 (by omega) hset_same (Nat.le_of_ble_eq_true rfl) (Or.inr ⟨rfl, by decide⟩) ⟨_, _, _, rfl, Or.inl rfl⟩ rfl ?_
  refine go_aload_n dX6_forget_15 rfl ?_
  refine go_iconst (v := nI 0) dX6_forget_16 (by decide) ?_
  refine go_put (fs' := [_, _, _, _, _, _, _, _, _, _, _]) dX6_forget_17 fX6_60 (by omega) hset_same (Nat.le_of_ble_eq_true rfl) (Or.inr ⟨rfl, by decide⟩) ⟨_, _, _, rfl, Or.inl rfl⟩ rfl ?_
  refine go_vret dX6_forget_20 rfl ?_
  rw [hset_hset, hset_hset, hset_hset]
  exact ⟨rfl, rfl, fun c' => hP.upd49 (c' := c') (l' := false) (cu' := false) (le' := false) (ta' := false) (fun z => by cases z) (fun z => by cases z) (fun z => by cases z) (fun z => by cases z), fr49⟩
/-- what stands, whatever has been found already -/
def PaE (h : gH) (c : CD) : Prop := ∃ l cu le ta, Pa h c l cu le ta
theorem run_rungs (d : Nat) {N : Nat} {h : gH} {c : CD} {l cu le ta : Bool} (hN : 147 ≤ N) (hw : CW c) (hC : Ct h 1 c) (hP : Pa h c l cu le ta) : Run (d + 3) yX6_rungs cX6_rungs 1 (some (FieldType.object "ShadeClasses$Ladder")) [.ref 49] h N 0 0 (fun v h' N' => v = some (.ref 50) ∧ N' = N ∧ Pa h' c true cu le ta ∧ Fr 49 79 h h') := by
  obtain ⟨h0, h1, h2, ⟨B1, E1, Fe, h3⟩, ⟨B2, E2, h4⟩, ⟨B3, E3, h5, h5'⟩, ⟨p, h6, h6'⟩, ⟨R, h7, h7'⟩, h8⟩ := id hP
  obtain ⟨⟨FA, FW, z, l0, -⟩, -⟩ := id h1
  refine Run.of (ini := false) (L := [_]) mX6_rungs (fun h => by cases h) rfl (Nat.le_of_ble_eq_true rfl) rfl ?_
  cases l with
  | true =>
    refine go_aload_n dX6_rungs_0 rfl ?_
    refine go_get dX6_rungs_1 fX6_50 (by omega) h0 rfl ?_
    refine go_if_ne (tgt := 23) dX6_rungs_4 (by decide) (fun c_4 => ?_) (fun c_4 => ?_)
    · skip
      refine go_aload_n dX6_rungs_23 rfl ?_
      refine go_get dX6_rungs_24 fX6_12 (by omega) h0 rfl ?_
      refine go_aret dX6_rungs_27 rfl ?_
      exact ⟨rfl, rfl, hP, Fr.rf⟩
    · exact absurd (by decide) c_4
  | false =>
    refine go_aload_n dX6_rungs_0 rfl ?_
    refine go_get dX6_rungs_1 fX6_50 (by omega) h0 rfl ?_
    refine go_if_ne (tgt := 23) dX6_rungs_4 (by decide) (fun c_4 => ?_) (fun c_4 => ?_)
    · exact absurd rfl c_4
    · skip
      refine go_aload_n dX6_rungs_7 rfl ?_
      refine go_get dX6_rungs_8 fX6_12 (by omega) h0 rfl ?_
      refine go_aload_n dX6_rungs_11 rfl ?_
      refine go_get dX6_rungs_12 fX6_46 (by omega) h0 rfl ?_
      refine go_iv dX6_rungs_15 mX2_build iX6_63 (run_build d (by omega) hw.1 hw.2.1 hC h1) rfl rfl (by omega) l0 rfl (Nat.le_of_ble_eq_true rfl) (Nat.zero_le _) (Nat.zero_le _) (fun v_15 h_15 n_15 q_15 => ?_)
      obtain ⟨rfl, rfl, ⟨n1, A1, W1, hL1, hS1⟩, hF1⟩ := q_15
      have hLc := hL1.canon hS1
      have hP1 : Pa h_15 c false cu le ta := by
        refine ⟨(hF1 _ (by omega)).trans h0, hL1.ls, (fun z => by cases z), ⟨B1, E1, Fe, h3.fr hF1 (by omega)⟩, ⟨B2, E2, h4.fr hF1 (by omega)⟩, ⟨B3, E3, h5.fr hF1 (by omega), h5'⟩, ⟨p, h6.fr hF1 (by omega), h6'⟩, ⟨R, (hF1 _ (by omega)).trans h7, h7'⟩, fun i hi => ?_⟩
        obtain ⟨q, g1, g2⟩ := h8 i hi
        exact ⟨q, g1.fr hF1 (by omega), g2⟩
      refine go_aload_n dX6_rungs_18 rfl ?_
      refine go_iconst (v := nI 1) dX6_rungs_19 (by decide) ?_
      refine go_put (fs' := [_, _, _, _, _, _, _, _, _, _, _]) dX6_rungs_20 fX6_50 (by omega) hP1.1 (Nat.le_of_ble_eq_true rfl) (Or.inr ⟨rfl, by decide⟩) ⟨_, _, _, rfl, Or.inl rfl⟩ rfl ?_
      refine go_aload_n dX6_rungs_23 rfl ?_
      refine go_get dX6_rungs_24 fX6_12 (by omega) hset_same rfl ?_
      refine go_aret dX6_rungs_27 rfl ?_
      refine ⟨rfl, rfl, hP1.upd49 (c' := c) (l' := true) (cu' := cu) (le' := le) (ta' := ta) (fun _ => hLc) (fun z => ?_) (fun z i hi => ?_) (fun z => ⟨B3, E3, h5.fr hF1 (by omega), h5' z⟩), (hF1.wide (by omega) (by omega)).set (by omega) (by omega)⟩
      · have := h6' z; subst this; exact h6.fr hF1 (by omega)
      · obtain ⟨q, g1, g2⟩ := h8 i hi; have := g2 z; subst this; exact g1.fr hF1 (by omega)
/-- the ladder stands -/
theorem Pa.ld {h : gH} {c : CD} {cu le ta : Bool} (q : Pa h c true cu le ta) : Ld h (so c.1).1 (so c.1).2.1 (so c.1).2.2 := q.2.2.1 rfl
set_option maxRecDepth 100000 in
theorem fees_loop {d N : Nat} {c : CD} {h0 : gH} {l cu le ta : Bool} {Q : Option Value → gH → Nat → Prop} (hN : 147 ≤ N) (hw : CW c)
    (hq : ∀ (h : gH) (B : Nat → Nat → Int64) (E : Nat → Nat → Int32) (Fe : Nat → Int64) (w1 : Option Value), Wy h 79 B E Fe → (∀ t, t < (so c.1).1 → Fe t = feeN c t) → Fr 96 97 h0 h → Go none RX6 cX6_ofNow 2 (some (FieldType.object "ShadeClasses$Parting")) false (d + 2) 56 [some (.ref 49), w1] [] h N 0 0 Q)
    (hP : h0 49 = .inr (6, [.ref 1, .ref 50, .ref 79, .ref 97, .ref 115, .ref 132, .ref 134, .int (bI l), .int (bI cu), .int (bI le), .int (bI ta)])) (hL0 : Ld h0 (so c.1).1 (so c.1).2.1 (so c.1).2.2) (hC0 : Ct h0 1 c) :
    ∀ (m i : Nat) (h : gH) (B : Nat → Nat → Int64) (E : Nat → Nat → Int32) (Fe : Nat → Int64), i + m = (so c.1).1 → Wy h 79 B E Fe → (∀ t, t < i → Fe t = feeN c t) → Fr 96 97 h0 h → Go none RX6 cX6_ofNow 2 (some (FieldType.object "ShadeClasses$Parting")) false (d + 2) 14 [some (.ref 49), some (.int (nI i))] [] h N 0 0 Q := by
  have h24 := so_24 hw.2.1
  intro m
  induction m with
  | zero =>
    intro i h B E Fe hm hY hF hfr
    have hL := hL0.fr hfr (by omega)
    obtain ⟨⟨FA, FW, l0, l1, l2, l3, l4, l5⟩, -⟩ := id hL
    have k0 := (hfr 49 (by omega)).trans hP
    refine go_iload_n dX6_ofNow_14 rfl ?_
    refine go_aload_n dX6_ofNow_15 rfl ?_
    refine go_get dX6_ofNow_16 fX6_12 (by omega) k0 rfl ?_
    refine go_get dX6_ofNow_19 fX6_71 (by omega) l0 rfl ?_
    refine go_icmp_ge (tgt := 56) dX6_ofNow_22 (by decide) (fun c_22 => ?_) (fun c_22 => ?_)
    · skip
      exact hq h B E Fe _ hY (fun t ht => hF t (by omega)) hfr
    · exact absurd (nI_le (by omega) (by omega)) c_22
  | succ m ih =>
    intro i h B E Fe hm hY hF hfr
    have hL := hL0.fr hfr (by omega)
    have hC := hC0.fr hfr (by omega)
    obtain ⟨⟨FA, FW, l0, l1, l2, l3, l4, l5⟩, -⟩ := id hL
    obtain ⟨R1, R2, y0, y1, y2, y3, y4, y5, y6, y7⟩ := id hY
    obtain ⟨F, G, g0, g1, g2, -⟩ := id hC
    have k0 := (hfr 49 (by omega)).trans hP
    have hi : i < (so c.1).1 := by omega
    have hA9 := so_le hw.1 i hi
    refine go_iload_n dX6_ofNow_14 rfl ?_
    refine go_aload_n dX6_ofNow_15 rfl ?_
    refine go_get dX6_ofNow_16 fX6_12 (by omega) k0 rfl ?_
    refine go_get dX6_ofNow_19 fX6_71 (by omega) l0 rfl ?_
    refine go_icmp_ge (tgt := 56) dX6_ofNow_22 (by decide) (fun c_22 => ?_) (fun c_22 => ?_)
    · exact absurd c_22 (nI_ge hi (by omega))
    · skip
      refine go_aload_n dX6_ofNow_25 rfl ?_
      refine go_get dX6_ofNow_26 fX6_21 (by omega) k0 rfl ?_
      refine go_get dX6_ofNow_29 fX6_75 (by omega) y0 rfl ?_
      refine go_iload_n dX6_ofNow_32 rfl ?_
      refine go_aload_n dX6_ofNow_33 rfl ?_
      refine go_get dX6_ofNow_34 fX6_46 (by omega) k0 rfl ?_
      refine go_aload_n dX6_ofNow_37 rfl ?_
      refine go_get dX6_ofNow_38 fX6_12 (by omega) k0 rfl ?_
      refine go_get dX6_ofNow_41 fX6_79 (by omega) l0 rfl ?_
      refine go_iload_n dX6_ofNow_44 rfl ?_
      refine go_iald dX6_ofNow_45 (by omega) l1 rfl (by omega) (by omega) ?_
      refine go_top (y := .int (nI ((so c.1).2.1 i))) (by rw [l4 i hi]) ?_
      refine go_iv dX6_ofNow_46 mX0_feeOf iX6_83 (run_feeOf d (by omega) (fun x hx => by have := hw.2.2.2.1 x hx; omega) hw.2.2.1 (by have := hw.2.2.2.2.2; omega) (by omega) hC) rfl rfl (by omega) g0 rfl (Nat.le_of_ble_eq_true rfl) (Nat.zero_le _) (Nat.zero_le _) (fun v_46 h_46 n_46 q_46 => ?_)
      obtain ⟨rfl, rfl, rfl⟩ := q_46
      refine go_last dX6_ofNow_49 (by omega) y7 rfl (by omega) (by omega) ?_
      refine go_inc (L' := [_, _]) dX6_ofNow_50 rfl (by decide) rfl ?_
      refine go_goto (tgt := 14) dX6_ofNow_53 (by decide) ?_
      have fr : ∀ y, Fr 96 97 h_46 (hset h_46 96 y) := fun y => Fr.rf.set (by omega) (by omega)
      refine ih (i + 1) _ B E (vp_updL Fe i (feeC c ((so c.1).2.1 i))) (by omega) ⟨R1, R2, (hset_ne (by omega)).trans y0, (hset_ne (by omega)).trans y1, y2, (hset_ne (by omega)).trans y3, y4, fun j hj => (hset_ne (by omega)).trans (y5 j hj), fun j hj => (hset_ne (by omega)).trans (y6 j hj), hset_same⟩ (fun t ht => ?_) (hfr.trans (fr _))
      by_cases e : t = i
      · subst e; rw [pk_uLs]; rfl
      · rw [pk_uLn e]; exact hF t (by omega)
theorem Pa.ways {h h' : gH} {c : CD} {l cu le ta : Bool} (q : Pa h c l cu le ta) (f : Fr 79 97 h h') (hY : ∃ B E Fe, Wy h' 79 B E Fe) : Pa h' c l cu le ta := by
  obtain ⟨h0, h1, h2, -, ⟨B2, E2, h4⟩, ⟨B3, E3, h5, h5'⟩, ⟨p, h6, h6'⟩, ⟨R, h7, h7'⟩, h8⟩ := q
  refine ⟨(f _ (by omega)).trans h0, h1.fr f (by omega), fun z => (h2 z).fr f (by omega), hY, ⟨B2, E2, h4.fr f (by omega)⟩, ⟨B3, E3, h5.fr f (by omega), h5'⟩, ⟨p, h6.fr f (by omega), h6'⟩, ⟨R, (f _ (by omega)).trans h7, h7'⟩, fun i hi => ?_⟩
  obtain ⟨q, h9, h10⟩ := h8 i hi
  exact ⟨q, h9.fr f (by omega), h10⟩
theorem Pa.free {h h' : gH} {c : CD} {l cu le ta : Bool} (q : Pa h c l cu le ta) (f : Fr 97 115 h h') (hY : ∃ B E, Wy h' 97 B E (fun _ => 0)) : Pa h' c l cu le ta := by
  obtain ⟨h0, h1, h2, ⟨B1, E1, Fe, h3⟩, -, ⟨B3, E3, h5, h5'⟩, ⟨p, h6, h6'⟩, ⟨R, h7, h7'⟩, h8⟩ := q
  refine ⟨(f _ (by omega)).trans h0, h1.fr f (by omega), fun z => (h2 z).fr f (by omega), ⟨B1, E1, Fe, h3.fr f (by omega)⟩, hY, ⟨B3, E3, h5.fr f (by omega), h5'⟩, ⟨p, h6.fr f (by omega), h6'⟩, ⟨R, (f _ (by omega)).trans h7, h7'⟩, fun i hi => ?_⟩
  obtain ⟨q, h9, h10⟩ := h8 i hi
  exact ⟨q, h9.fr f (by omega), h10⟩
theorem Pa.cur {h h' : gH} {c : CD} {l cu le ta : Bool} (q : Pa h c l cu le ta) (f : Fr 132 134 h h') {p : PD} (hp : Pg h' 132 p) (hcu : cu = false) : Pa h' c l cu le ta := by
  obtain ⟨h0, h1, h2, ⟨B1, E1, Fe, h3⟩, ⟨B2, E2, h4⟩, ⟨B3, E3, h5, h5'⟩, -, ⟨R, h7, h7'⟩, h8⟩ := q
  refine ⟨(f _ (by omega)).trans h0, h1.fr f (by omega), fun z => (h2 z).fr f (by omega), ⟨B1, E1, Fe, h3.fr f (by omega)⟩, ⟨B2, E2, h4.fr f (by omega)⟩, ⟨B3, E3, h5.fr f (by omega), h5'⟩, ⟨p, hp, fun z => by rw [hcu] at z; cases z⟩, ⟨R, (f _ (by omega)).trans h7, h7'⟩, fun i hi => ?_⟩
  obtain ⟨q, h9, h10⟩ := h8 i hi
  exact ⟨q, h9.fr f (by omega), h10⟩
theorem Pa.lea {h h' : gH} {c : CD} {l cu le ta : Bool} {i : Nat} (q : Pa h c l cu le ta) (hi6 : i < 6) (f : Fr (135 + 2 * i) (135 + 2 * i + 2) h h') {p : PD} (hp : Pg h' (135 + 2 * i) p) (hle : le = false) : Pa h' c l cu le ta := by
  obtain ⟨h0, h1, h2, ⟨B1, E1, Fe, h3⟩, ⟨B2, E2, h4⟩, ⟨B3, E3, h5, h5'⟩, ⟨p6, h6, h6'⟩, ⟨R, h7, h7'⟩, h8⟩ := q
  refine ⟨(f _ (by omega)).trans h0, h1.fr f (by omega), fun z => (h2 z).fr f (by omega), ⟨B1, E1, Fe, h3.fr f (by omega)⟩, ⟨B2, E2, h4.fr f (by omega)⟩, ⟨B3, E3, h5.fr f (by omega), h5'⟩, ⟨p6, h6.fr f (by omega), h6'⟩, ⟨R, (f _ (by omega)).trans h7, h7'⟩, fun j hj => ?_⟩
  by_cases e : j = i
  · subst e
    exact ⟨p, hp, fun z => by rw [hle] at z; cases z⟩
  · obtain ⟨q, h9, h10⟩ := h8 j hj
    exact ⟨q, h9.fr f (by omega), h10⟩
theorem Pa.tab {h h' : gH} {c : CD} {l cu le ta : Bool} (q : Pa h c l cu le ta) (f : Fr 115 132 h h') (hT : ∃ B E, Lt h' B E) (hta : ta = false) : Pa h' c l cu le ta := by
  obtain ⟨h0, h1, h2, ⟨B1, E1, Fe, h3⟩, ⟨B2, E2, h4⟩, -, ⟨p, h6, h6'⟩, ⟨R, h7, h7'⟩, h8⟩ := q
  obtain ⟨B3, E3, h5⟩ := hT
  refine ⟨(f _ (by omega)).trans h0, h1.fr f (by omega), fun z => (h2 z).fr f (by omega), ⟨B1, E1, Fe, h3.fr f (by omega)⟩, ⟨B2, E2, h4.fr f (by omega)⟩, ⟨B3, E3, h5, fun z => by rw [hta] at z; cases z⟩, ⟨p, h6.fr f (by omega), h6'⟩, ⟨R, (f _ (by omega)).trans h7, h7'⟩, fun i hi => ?_⟩
  obtain ⟨q, h9, h10⟩ := h8 i hi
  exact ⟨q, h9.fr f (by omega), h10⟩
set_option maxRecDepth 100000 in
theorem run_ofNow (d : Nat) {N : Nat} {h : gH} {c : CD} (hN : 147 ≤ N) (hw : CW c) (hC : Ct h 1 c) (hP : PaE h c) : Run (d + 4) yX6_ofNow cX6_ofNow 2 (some (FieldType.object "ShadeClasses$Parting")) [.ref 49] h N 0 0 (fun v h' N' => v = some (.ref 132) ∧ N' = N ∧ PaE h' c ∧ Pg h' 132 (nowD c) ∧ Fr 49 147 h h') := by
  obtain ⟨l, cu, le, ta, hP⟩ := hP
  have h0 := hP.1
  refine Run.of (ini := false) (L := [_, _]) mX6_ofNow (fun h => by cases h) rfl (Nat.le_of_ble_eq_true rfl) rfl ?_
  cases cu with
  | true =>
    refine go_aload_n dX6_ofNow_0 rfl ?_
    refine go_get dX6_ofNow_1 fX6_54 (by omega) h0 rfl ?_
    refine go_if_ne (tgt := 101) dX6_ofNow_4 (by decide) (fun c_4 => ?_) (fun c_4 => ?_)
    · skip
      refine go_aload_n dX6_ofNow_101 rfl ?_
      refine go_get dX6_ofNow_102 fX6_38 (by omega) h0 rfl ?_
      refine go_aret dX6_ofNow_105 rfl ?_
      obtain ⟨q, g1, g2⟩ := hP.2.2.2.2.2.2.1
      have e := g2 rfl
      subst e
      exact ⟨rfl, rfl, ⟨l, true, le, ta, hP⟩, g1, Fr.rf⟩
    · exact absurd (by decide) c_4
  | false =>
    refine go_aload_n dX6_ofNow_0 rfl ?_
    refine go_get dX6_ofNow_1 fX6_54 (by omega) h0 rfl ?_
    refine go_if_ne (tgt := 101) dX6_ofNow_4 (by decide) (fun c_4 => ?_) (fun c_4 => ?_)
    · exact absurd rfl c_4
    · skip
      refine go_aload_n dX6_ofNow_7 rfl ?_
      refine go_iv dX6_ofNow_8 mX6_rungs iX6_67 (run_rungs d hN hw hC hP) rfl rfl (by omega) h0 rfl (Nat.le_of_ble_eq_true rfl) (Nat.zero_le _) (Nat.zero_le _) (fun v_8 h_8 n_8 q_8 => ?_)
      obtain ⟨rfl, rfl, hP1, hF1⟩ := q_8
      have hC1 := hC.fr hF1 (by omega)
      refine go_pop dX6_ofNow_11 rfl ?_
      refine go_iconst (v := nI 0) dX6_ofNow_12 (by decide) ?_
      refine go_istore_n (L' := [_, _]) dX6_ofNow_13 rfl (by decide) rfl ?_
      obtain ⟨B1, E1, Fe1, hY1⟩ := hP1.2.2.2.1
      refine fees_loop (d := d + 2) hN hw ?_ hP1.1 hP1.ld hC1 (so c.1).1 0 h_8 B1 E1 Fe1 (by omega) hY1 (fun t ht => absurd ht (by omega)) Fr.rf
      intro h2 B2 E2 Fe2 w1 hY2 hFe hF2
      have hP2 : Pa h2 c true false le ta := hP1.ways (hF2.wide (by omega) (by omega)) ⟨B2, E2, Fe2, hY2⟩
      have hC2 := hC1.fr hF2 (by omega)
      obtain ⟨F, G, g0, g1, g2, -⟩ := id hC2
      obtain ⟨R1, R2, y0, -⟩ := id hY2
      refine go_aload_n dX6_ofNow_56 rfl ?_
      refine go_get dX6_ofNow_57 fX6_21 (by omega) hP2.1 rfl ?_
      refine go_aload_n dX6_ofNow_60 rfl ?_
      refine go_get dX6_ofNow_61 fX6_12 (by omega) hP2.1 rfl ?_
      refine go_aload_n dX6_ofNow_64 rfl ?_
      refine go_get dX6_ofNow_65 fX6_46 (by omega) hP2.1 rfl ?_
      refine go_get dX6_ofNow_68 fX6_89 (by omega) g0 rfl ?_
      refine go_iv dX6_ofNow_71 mX7_build iX6_92 (run_wbuild (d + 2) (by omega) (by omega) hw.2.2.2.2.1.1 hw.2.2.2.2.1.2 hP2.ld hY2) rfl rfl (by omega) y0 rfl (Nat.le_of_ble_eq_true rfl) (Nat.zero_le _) (Nat.zero_le _) (fun v_71 h_71 n_71 q_71 => ?_)
      obtain ⟨rfl, rfl, ⟨B3, E3, hY3, hD3⟩, hF3⟩ := q_71
      have hP3 : Pa h_71 c true false le ta := hP2.ways (hF3.wide (by omega) (by omega)) ⟨B3, E3, Fe2, hY3⟩
      have hC3 := hC2.fr hF3 (by omega)
      obtain ⟨F', G', g0', -⟩ := id hC3
      obtain ⟨R1', R2', y0', -⟩ := id hY3
      obtain ⟨pd, hpd, -⟩ := hP3.2.2.2.2.2.2.1
      refine go_aload_n dX6_ofNow_74 rfl ?_
      refine go_get dX6_ofNow_75 fX6_21 (by omega) hP3.1 rfl ?_
      refine go_aload_n dX6_ofNow_78 rfl ?_
      refine go_get dX6_ofNow_79 fX6_12 (by omega) hP3.1 rfl ?_
      refine go_aload_n dX6_ofNow_82 rfl ?_
      refine go_get dX6_ofNow_83 fX6_46 (by omega) hP3.1 rfl ?_
      refine go_get dX6_ofNow_86 fX6_89 (by omega) g0' rfl ?_
      refine go_aload_n dX6_ofNow_89 rfl ?_
      refine go_get dX6_ofNow_90 fX6_38 (by omega) hP3.1 rfl ?_
      refine go_iv dX6_ofNow_93 mX7_follow iX6_95 (run_follow (d + 2) (p := 132) (by omega) (by omega) (by omega) hw.2.2.2.2.1.2 hD3 hP3.ld hY3 hpd) rfl rfl (by omega) y0' rfl (Nat.le_of_ble_eq_true rfl) (Nat.zero_le _) (Nat.zero_le _) (fun v_93 h_93 n_93 q_93 => ?_)
      obtain ⟨rfl, rfl, hpg, hF4⟩ := q_93
      have hP4 : Pa h_93 c true false le ta := hP3.cur hF4 hpg rfl
      have hnow : Pg h_93 132 (nowD c) := hpg.cong (fun x hx => bg_cong (fun a b _ _ => rfl) hFe (Nat.min_le_right _ _) (Nat.le_of_lt hx)) (tot_cong (fun a b _ _ => rfl) hFe (Nat.min_le_right _ _) (Nat.le_refl _))
      refine go_aload_n dX6_ofNow_96 rfl ?_
      refine go_iconst (v := nI 1) dX6_ofNow_97 (by decide) ?_
      refine go_put (fs' := [_, _, _, _, _, _, _, _, _, _, _]) dX6_ofNow_98 fX6_54 (by omega) hP4.1 (Nat.le_of_ble_eq_true rfl) (Or.inr ⟨rfl, by decide⟩) ⟨_, _, _, rfl, Or.inl rfl⟩ rfl ?_
      refine go_aload_n dX6_ofNow_101 rfl ?_
      refine go_get dX6_ofNow_102 fX6_38 (by omega) hset_same rfl ?_
      refine go_aret dX6_ofNow_105 rfl ?_
      have hP5 : Pa (hset h_93 49 (pa49 true true le ta)) c true true le ta := hP4.upd49 (fun _ => hP4.ld) (fun _ => hnow) (fun z i hi => by obtain ⟨q, a1, a2⟩ := hP4.2.2.2.2.2.2.2.2 i hi; have := a2 z; subst this; exact a1) (fun z => by obtain ⟨B, E, a1, a2⟩ := hP4.2.2.2.2.2.1; exact ⟨B, E, a1, a2 z⟩)
      refine ⟨rfl, rfl, ⟨true, true, le, ta, hP5⟩, hnow.fr fr49 (by omega), ?_⟩
      exact ((((hF1.wide (by omega) (by omega)).trans (hF2.wide (by omega) (by omega))).trans (hF3.wide (by omega) (by omega))).trans (hF4.wide (by omega) (by omega))).set (by omega) (by omega)
set_option maxRecDepth 100000 in
theorem least_loop {d N : Nat} {c : CD} {cu ta : Bool} {B : Nat → Nat → Int64} {E : Nat → Nat → Int32} {h0 : gH} {Q : Option Value → gH → Nat → Prop} (hN : 147 ≤ N) (hD : WD (so c.1).1 (spr (so c.1).2.1 (so c.1).2.2) B E (fun _ => 0) 7 0) {k : Int32}
    (hq : ∀ (h : gH) (w2 : Option Value), Pa h c true cu false ta → (∀ j, j < 6 → Pg h (135 + 2 * j) (leastD c (j + 1))) → Fr 135 147 h0 h → Go none RX6 cX6_leastIn 3 (some (FieldType.object "ShadeClasses$Parting")) false (d + 2) 59 [some (.ref 49), some (.int k), w2] [] h N 0 0 Q) :
    ∀ (m i : Nat) (h : gH), i + m = 6 → Pa h c true cu false ta → Wy h 97 B E (fun _ => 0) → (∀ j, j < i → Pg h (135 + 2 * j) (leastD c (j + 1))) → Fr 135 147 h0 h → Go none RX6 cX6_leastIn 3 (some (FieldType.object "ShadeClasses$Parting")) false (d + 2) 27 [some (.ref 49), some (.int k), some (.int (nI i))] [] h N 0 0 Q := by
  intro m
  induction m with
  | zero =>
    intro i h hm hP hY hg hF
    have e : i = 6 := by omega
    subst e
    refine go_iload_n dX6_leastIn_27 rfl ?_
    refine go_bipush (v := nI 6) dX6_leastIn_28 (by decide) ?_
    refine go_icmp_ge (tgt := 59) dX6_leastIn_30 (by decide) (fun c_30 => ?_) (fun c_30 => ?_)
    · skip
      exact hq h _ hP hg hF
    · exact absurd (nI_le (Nat.le_refl _) (by decide)) c_30
  | succ m ih =>
    intro i h hm hP hY hg hF
    obtain ⟨R1, R2, y0, -⟩ := id hY
    obtain ⟨R, r0, r1⟩ := hP.2.2.2.2.2.2.2.1
    obtain ⟨pd, hpd, -⟩ := hP.2.2.2.2.2.2.2.2 i (by omega)
    refine go_iload_n dX6_leastIn_27 rfl ?_
    refine go_bipush (v := nI 6) dX6_leastIn_28 (by decide) ?_
    refine go_icmp_ge (tgt := 59) dX6_leastIn_30 (by decide) (fun c_30 => ?_) (fun c_30 => ?_)
    · exact absurd c_30 (nI_ge (by omega) (by decide))
    · skip
      refine go_aload_n dX6_leastIn_33 rfl ?_
      refine go_get dX6_leastIn_34 fX6_25 (by omega) hP.1 rfl ?_
      refine go_aload_n dX6_leastIn_37 rfl ?_
      refine go_get dX6_leastIn_38 fX6_12 (by omega) hP.1 rfl ?_
      refine go_iload_n dX6_leastIn_41 rfl ?_
      refine go_iconst (v := nI 1) dX6_leastIn_42 (by decide) ?_
      refine go_iadd dX6_leastIn_43 ?_
      refine go_top (y := .int (nI (i + 1))) (by rw [nI_add]) ?_
      refine go_aload_n dX6_leastIn_44 rfl ?_
      refine go_get dX6_leastIn_45 fX6_42 (by omega) hP.1 rfl ?_
      refine go_iload_n dX6_leastIn_48 rfl ?_
      refine go_aald dX6_leastIn_49 (by omega) r0 (by decide) (by decide) rfl (by omega) (by omega) (r1 i (by omega)) ?_
      refine go_iv dX6_leastIn_50 mX7_follow iX6_95 (run_follow d (p := 135 + 2 * i) (K := i + 1) (by omega) (by omega) (by omega) (by omega) (fun k' a' q1 q2 q3 q4 => hD k' a' q1 q2 (by omega) q4) hP.ld hY hpd) rfl rfl (by omega) y0 rfl (Nat.le_of_ble_eq_true rfl) (Nat.zero_le _) (Nat.zero_le _) (fun v_50 h_50 n_50 q_50 => ?_)
      obtain ⟨rfl, rfl, hpg, hF4⟩ := q_50
      refine go_inc (L' := [_, _, _]) dX6_leastIn_53 rfl (by decide) rfl ?_
      refine go_goto (tgt := 27) dX6_leastIn_56 (by decide) ?_
      refine ih (i + 1) _ (by omega) (hP.lea (by omega) hF4 hpg rfl) (hY.fr hF4 (by omega)) (fun j hj => ?_) (hF.trans (hF4.wide (by omega) (by omega)))
      by_cases e : j = i
      · subst e; exact hpg
      · exact (hg j (by omega)).fr hF4 (by omega)
set_option maxRecDepth 100000 in
theorem run_leastIn (d : Nat) {N k : Nat} {h : gH} {c : CD} (hN : 147 ≤ N) (hk1 : 1 ≤ k) (hk6 : k ≤ 6) (hw : CW c) (hC : Ct h 1 c) (hP : PaE h c) : Run (d + 4) yX6_leastIn cX6_leastIn 3 (some (FieldType.object "ShadeClasses$Parting")) [.ref 49, .int (nI k)] h N 0 0 (fun v h' N' => v = some (.ref (135 + 2 * (k - 1))) ∧ N' = N ∧ PaE h' c ∧ Pg h' (135 + 2 * (k - 1)) (leastD c k) ∧ Fr 49 147 h h') := by
  obtain ⟨l, cu, le, ta, hP⟩ := hP
  have h0 := hP.1
  have tail : ∀ (h : gH) (w2 : Option Value) (Q : Option Value → gH → Nat → Prop), PaE h c → (∀ j, j < 6 → Pg h (135 + 2 * j) (leastD c (j + 1))) → Q (some (.ref (135 + 2 * (k - 1)))) h N → Go none RX6 cX6_leastIn 3 (some (FieldType.object "ShadeClasses$Parting")) false (d + 4) 64 [some (.ref 49), some (.int (nI k)), w2] [] h N 0 0 Q := by
    intro h w2 Q hP hg hq
    obtain ⟨l, cu, le, ta, hP⟩ := hP
    obtain ⟨R, r0, r1⟩ := hP.2.2.2.2.2.2.2.1
    refine go_aload_n dX6_leastIn_64 rfl ?_
    refine go_get dX6_leastIn_65 fX6_42 (by omega) hP.1 rfl ?_
    refine go_iload_n dX6_leastIn_68 rfl ?_
    refine go_bipush (v := nI 6) dX6_leastIn_69 (by decide) ?_
    refine go_min dX6_leastIn_71 iX6_99 (Nat.le_of_ble_eq_true rfl) ?_
    refine go_top (y := .int (nI k)) (by rw [if_neg (nI_nlt (by omega) (by omega))]) ?_
    refine go_iconst (v := nI 1) dX6_leastIn_74 (by decide) ?_
    refine go_max dX6_leastIn_75 iX6_105 (Nat.le_of_ble_eq_true rfl) ?_
    refine go_top (y := .int (nI k)) ?_ ?_
    · by_cases e : k < 1
      · omega
      · rw [if_neg (nI_nlt (by omega) (by omega))]
    refine go_iconst (v := nI 1) dX6_leastIn_78 (by decide) ?_
    refine go_isub dX6_leastIn_79 ?_
    refine go_top (y := .int (nI (k - 1))) (by rw [pk_sub (by omega)]) ?_
    refine go_aald dX6_leastIn_80 (by omega) r0 (by decide) (by decide) rfl (by omega) (by omega) (r1 (k - 1) (by omega)) ?_
    refine go_aret dX6_leastIn_81 rfl ?_
    exact hq
  have ek : k - 1 + 1 = k := by omega
  refine Run.of (ini := false) (L := [_, _, _]) mX6_leastIn (fun h => by cases h) rfl (Nat.le_of_ble_eq_true rfl) rfl ?_
  cases le with
  | true =>
    have hg : ∀ j, j < 6 → Pg h (135 + 2 * j) (leastD c (j + 1)) := fun j hj => by
      obtain ⟨q, a1, a2⟩ := hP.2.2.2.2.2.2.2.2 j hj
      have := a2 rfl
      subst this
      exact a1
    refine go_aload_n dX6_leastIn_0 rfl ?_
    refine go_get dX6_leastIn_1 fX6_57 (by omega) h0 rfl ?_
    refine go_if_ne (tgt := 64) dX6_leastIn_4 (by decide) (fun c_4 => ?_) (fun c_4 => ?_)
    · skip
      exact tail h none _ ⟨l, cu, true, ta, hP⟩ hg ⟨rfl, rfl, ⟨l, cu, true, ta, hP⟩, by have := hg (k - 1) (by omega); rw [ek] at this; exact this, Fr.rf⟩
    · exact absurd (by decide) c_4
  | false =>
    refine go_aload_n dX6_leastIn_0 rfl ?_
    refine go_get dX6_leastIn_1 fX6_57 (by omega) h0 rfl ?_
    refine go_if_ne (tgt := 64) dX6_leastIn_4 (by decide) (fun c_4 => ?_) (fun c_4 => ?_)
    · exact absurd rfl c_4
    · skip
      refine go_aload_n dX6_leastIn_7 rfl ?_
      refine go_iv dX6_leastIn_8 mX6_rungs iX6_67 (run_rungs d hN hw hC hP) rfl rfl (by omega) h0 rfl (Nat.le_of_ble_eq_true rfl) (Nat.zero_le _) (Nat.zero_le _) (fun v_8 h_8 n_8 q_8 => ?_)
      obtain ⟨rfl, rfl, hP1, hF1⟩ := q_8
      obtain ⟨B1, E1, hY1⟩ := hP1.2.2.2.2.1
      obtain ⟨R1, R2, y0, -⟩ := id hY1
      refine go_pop dX6_leastIn_11 rfl ?_
      refine go_aload_n dX6_leastIn_12 rfl ?_
      refine go_get dX6_leastIn_13 fX6_25 (by omega) hP1.1 rfl ?_
      refine go_aload_n dX6_leastIn_16 rfl ?_
      refine go_get dX6_leastIn_17 fX6_12 (by omega) hP1.1 rfl ?_
      refine go_bipush (v := nI 6) dX6_leastIn_20 (by decide) ?_
      refine go_iv dX6_leastIn_22 mX7_build iX6_92 (run_wbuild (d + 2) (by omega) (by omega) (by decide) (by decide) hP1.ld hY1) rfl rfl (by omega) y0 rfl (Nat.le_of_ble_eq_true rfl) (Nat.zero_le _) (Nat.zero_le _) (fun v_22 h_22 n_22 q_22 => ?_)
      obtain ⟨rfl, rfl, ⟨B3, E3, hY3, hD3⟩, hF3⟩ := q_22
      have hP3 : Pa h_22 c true cu false ta := hP1.free (hF3.wide (by omega) (by omega)) ⟨B3, E3, hY3⟩
      refine go_iconst (v := nI 0) dX6_leastIn_25 (by decide) ?_
      refine go_istore_n (L' := [_, _, _]) dX6_leastIn_26 rfl (by decide) rfl ?_
      refine least_loop (d := d + 2) hN hD3 ?_ 6 0 h_22 (by omega) hP3 hY3 (fun j hj => absurd hj (by omega)) Fr.rf
      intro h4 w2 hP4 hg4 hF4
      refine go_aload_n dX6_leastIn_59 rfl ?_
      refine go_iconst (v := nI 1) dX6_leastIn_60 (by decide) ?_
      refine go_put (fs' := [_, _, _, _, _, _, _, _, _, _, _]) dX6_leastIn_61 fX6_57 (by omega) hP4.1 (Nat.le_of_ble_eq_true rfl) (Or.inr ⟨rfl, by decide⟩) ⟨_, _, _, rfl, Or.inl rfl⟩ rfl ?_
      have hP5 : Pa (hset h4 49 (pa49 true cu true ta)) c true cu true ta := hP4.upd49 (fun _ => hP4.ld) (fun z => by obtain ⟨q, a1, a2⟩ := hP4.2.2.2.2.2.2.1; have := a2 z; subst this; exact a1) (fun _ => hg4) (fun z => by obtain ⟨B, E, a1, a2⟩ := hP4.2.2.2.2.2.1; exact ⟨B, E, a1, a2 z⟩)
      have hg5 : ∀ j, j < 6 → Pg (hset h4 49 (pa49 true cu true ta)) (135 + 2 * j) (leastD c (j + 1)) := fun j hj => (hg4 j hj).fr fr49 (by omega)
      exact tail _ w2 _ ⟨_, _, _, _, hP5⟩ hg5 ⟨rfl, rfl, ⟨_, _, _, _, hP5⟩, by have := hg5 (k - 1) (by omega); rw [ek] at this; exact this, (((hF1.wide (by omega) (by omega)).trans (hF3.wide (by omega) (by omega))).trans (hF4.wide (by omega) (by omega))).set (by omega) (by omega)⟩
end
section
/-! ===== Partings.lastBegin, its constructor ===== -/
noncomputable def lastI (c : CD) (k j : Nat) : Int32 := if k ≤ j then nI (lst (spr (so c.1).2.1 (so c.1).2.2) k j).2 else -9
set_option maxRecDepth 100000 in
theorem lastB_t {d N k j : Nat} {h : gH} {c : CD} {cu le : Bool} {Q : Option Value → gH → Nat → Prop} (hN : 147 ≤ N) (hP : Pa h c true cu le true) (kk : Go none RX6 cX6_lastBegin 3 (some .int) false (d + 4) 54 [some (.ref 49), some (.int (nI k)), some (.int (nI j))] [] h N 0 0 Q) : Go none RX6 cX6_lastBegin 3 (some .int) false (d + 4) 31 [some (.ref 49), some (.int (nI k)), some (.int (nI j))] [] h N 0 0 Q := by
  refine go_aload_n dX6_lastBegin_31 rfl ?_
  refine go_get dX6_lastBegin_32 fX6_60 (by omega) hP.1 rfl ?_
  refine go_if_ne (tgt := 54) dX6_lastBegin_35 (by decide) (fun c_35 => ?_) (fun c_35 => ?_)
  · skip
    exact kk
  · exact absurd (by decide) c_35
set_option maxRecDepth 100000 in
theorem lastB_f {d N k j : Nat} {h : gH} {c : CD} {cu le : Bool} {B : Nat → Nat → Int64} {E : Nat → Nat → Int32} {Q : Option Value → gH → Nat → Prop} (hN : 147 ≤ N) (hS : SB (so c.1).1 (spr (so c.1).2.1 (so c.1).2.2)) (hP : Pa h c true cu le false) (hT : Lt h B E)
    (kk : ∀ (h2 : gH) (B : Nat → Nat → Int64) (E : Nat → Nat → Int32), Pa h2 c true cu le true → Lt h2 B E → TD (so c.1).1 (spr (so c.1).2.1 (so c.1).2.2) B E 7 1 → Fr 49 147 h h2 → Go none RX6 cX6_lastBegin 3 (some .int) false (d + 4) 54 [some (.ref 49), some (.int (nI k)), some (.int (nI j))] [] h2 N 0 0 Q) : Go none RX6 cX6_lastBegin 3 (some .int) false (d + 4) 31 [some (.ref 49), some (.int (nI k)), some (.int (nI j))] [] h N 0 0 Q := by
  obtain ⟨R1, R2, y0, -⟩ := id hT
  refine go_aload_n dX6_lastBegin_31 rfl ?_
  refine go_get dX6_lastBegin_32 fX6_60 (by omega) hP.1 rfl ?_
  refine go_if_ne (tgt := 54) dX6_lastBegin_35 (by decide) (fun c_35 => ?_) (fun c_35 => ?_)
  · exact absurd rfl c_35
  · skip
    refine go_aload_n dX6_lastBegin_38 rfl ?_
    refine go_get dX6_lastBegin_39 fX6_31 (by omega) hP.1 rfl ?_
    refine go_aload_n dX6_lastBegin_42 rfl ?_
    refine go_get dX6_lastBegin_43 fX6_12 (by omega) hP.1 rfl ?_
    refine go_iv dX6_lastBegin_46 mX3_build iX6_112 (run_lbuild (d + 2) (by omega) hS hP.ld hT) rfl rfl (by omega) y0 rfl (Nat.le_of_ble_eq_true rfl) (Nat.zero_le _) (Nat.zero_le _) (fun v_46 h_46 n_46 q_46 => ?_)
    obtain ⟨rfl, rfl, ⟨B3, E3, hT3, hD3⟩, hF3⟩ := q_46
    have hP3 : Pa h_46 c true cu le false := hP.tab (hF3.wide (by omega) (by omega)) ⟨B3, E3, hT3⟩ rfl
    refine go_aload_n dX6_lastBegin_49 rfl ?_
    refine go_iconst (v := nI 1) dX6_lastBegin_50 (by decide) ?_
    refine go_put (fs' := [_, _, _, _, _, _, _, _, _, _, _]) dX6_lastBegin_51 fX6_60 (by omega) hP3.1 (Nat.le_of_ble_eq_true rfl) (Or.inr ⟨rfl, by decide⟩) ⟨_, _, _, rfl, Or.inl rfl⟩ rfl ?_
    have hP5 : Pa (hset h_46 49 (pa49 true cu le true)) c true cu le true := hP3.upd49 (fun _ => hP3.ld) (fun z => by obtain ⟨q, a1, a2⟩ := hP3.2.2.2.2.2.2.1; have := a2 z; subst this; exact a1) (fun z i hi => by obtain ⟨q, a1, a2⟩ := hP3.2.2.2.2.2.2.2.2 i hi; have := a2 z; subst this; exact a1) (fun _ => ⟨B3, E3, hT3, hD3⟩)
    exact kk _ B3 E3 hP5 (hT3.fr fr49 (by omega)) hD3 ((hF3.wide (by omega) (by omega)).set (by omega) (by omega))
set_option maxRecDepth 100000 in
theorem run_lastBegin (d : Nat) {N k j : Nat} {h : gH} {c : CD} (hN : 147 ≤ N) (hk1 : 1 ≤ k) (hk6 : k ≤ 6) (hj1 : 1 ≤ j) (hj : j ≤ (so c.1).1) (hw : CW c) (hC : Ct h 1 c) (hP : PaE h c) : Run (d + 4) yX6_lastBegin cX6_lastBegin 3 (some .int) [.ref 49, .int (nI k), .int (nI j)] h N 0 0 (fun v h' N' => v = some (.int (lastI c k j)) ∧ N' = N ∧ PaE h' c ∧ Fr 49 147 h h') := by
  obtain ⟨l, cu, le, ta, hP⟩ := hP
  have h24 := so_24 hw.2.1
  have tail : ∀ (h : gH) (B : Nat → Nat → Int64) (E : Nat → Nat → Int32) (Q : Option Value → gH → Nat → Prop), PaE h c → Lt h B E → TD (so c.1).1 (spr (so c.1).2.1 (so c.1).2.2) B E 7 1 → Q (some (.int (lastI c k j))) h N → Go none RX6 cX6_lastBegin 3 (some .int) false (d + 4) 54 [some (.ref 49), some (.int (nI k)), some (.int (nI j))] [] h N 0 0 Q := by
    intro h B E Q hP hT hD hq
    obtain ⟨l, cu, le, ta, hP⟩ := hP
    obtain ⟨R1, R2, y0, y1, y2, y3, y4, y5, y6⟩ := id hT
    have hd := hD k j hk1 (by omega) (by omega) hj1 hj
    have e : E k j = lastI c k j := by
      unfold lastI
      by_cases q : k ≤ j
      · rw [if_pos q]; exact (hd.1 q).2
      · rw [if_neg q]; exact hd.2 (by omega)
    refine go_aload_n dX6_lastBegin_54 rfl ?_
    refine go_get dX6_lastBegin_55 fX6_31 (by omega) hP.1 rfl ?_
    refine go_get dX6_lastBegin_58 fX6_115 (by omega) y0 rfl ?_
    refine go_iload_n dX6_lastBegin_61 rfl ?_
    refine go_aald dX6_lastBegin_62 (by omega) y3 (by decide) (by decide) rfl (by omega) (by omega) (y4 k (by omega)) ?_
    refine go_iload_n dX6_lastBegin_63 rfl ?_
    refine go_iald dX6_lastBegin_64 (by omega) (y6 k (by omega)) rfl (by omega) (by omega) ?_
    refine go_iret dX6_lastBegin_65 rfl ?_
    rw [e]
    exact hq
  refine Run.of (ini := false) (L := [_, _, _]) mX6_lastBegin (fun h => by cases h) rfl (Nat.le_of_ble_eq_true rfl) rfl ?_
  refine go_aload_n dX6_lastBegin_0 rfl ?_
  refine go_iv dX6_lastBegin_1 mX6_rungs iX6_67 (run_rungs d hN hw hC hP) rfl rfl (by omega) hP.1 rfl (Nat.le_of_ble_eq_true rfl) (Nat.zero_le _) (Nat.zero_le _) (fun v_1 h_1 n_1 q_1 => ?_)
  obtain ⟨rfl, rfl, hP1, hF1⟩ := q_1
  obtain ⟨⟨FA, FW, l0, -⟩, -⟩ := id hP1.ld
  obtain ⟨B3, E3, h5, h5'⟩ := hP1.2.2.2.2.2.1
  refine go_pop dX6_lastBegin_4 rfl ?_
  refine go_iload_n dX6_lastBegin_5 rfl ?_
  refine go_isN dX6_lastBegin_6 mX8_isClasses iX6_108 (run_isClasses (d + 3) (nI k)) rfl rfl (Nat.le_of_ble_eq_true rfl) (Nat.zero_le _) (Nat.zero_le _) (fun v_6 h_6 n_6 q_6 => ?_)
  obtain ⟨rfl, rfl, rfl⟩ := q_6
  refine go_if_eq (tgt := 28) dX6_lastBegin_9 (by decide) (fun c_9 => ?_) (fun c_9 => ?_)
  · exact absurd (bI_eq.mp c_9) (by rw [rI_yes (by omega) hk1 hk6]; decide)
  · skip
    refine go_iload_n dX6_lastBegin_12 rfl ?_
    refine go_iconst (v := nI 1) dX6_lastBegin_13 (by decide) ?_
    refine go_icmp_lt (tgt := 28) dX6_lastBegin_14 (by decide) (fun c_14 => ?_) (fun c_14 => ?_)
    · exact absurd ((nI_ltI (by omega) (by omega)).mp c_14) (by omega)
    · skip
      refine go_iload_n dX6_lastBegin_17 rfl ?_
      refine go_aload_n dX6_lastBegin_18 rfl ?_
      refine go_get dX6_lastBegin_19 fX6_12 (by omega) hP1.1 rfl ?_
      refine go_get dX6_lastBegin_22 fX6_71 (by omega) l0 rfl ?_
      refine go_icmp_le (tgt := 31) dX6_lastBegin_25 (by decide) (fun c_25 => ?_) (fun c_25 => ?_)
      · skip
        cases ta with
        | true => exact lastB_t hN hP1 (tail _ B3 E3 _ ⟨_, _, _, _, hP1⟩ h5 (h5' rfl) ⟨rfl, rfl, ⟨_, _, _, _, hP1⟩, hF1.wide (by omega) (by omega)⟩)
        | false => exact lastB_f hN (so_SB hw) hP1 h5 (fun h2 B E hP2 hT2 hD2 hF2 => tail h2 B E _ ⟨_, _, _, _, hP2⟩ hT2 hD2 ⟨rfl, rfl, ⟨_, _, _, _, hP2⟩, (hF1.wide (by omega) (by omega)).trans hF2⟩)
      · exact absurd (nI_le hj (by omega)) c_25
set_option maxRecDepth 100000 in
theorem pinit_loop {d : Nat} {Q : Option Value → gH → Nat → Prop} : ∀ (m i : Nat) (h : gH) (R : Nat → Option Nat), i + m = 6 → h 49 = pa49 false false false false → h 134 = .inl (4, 6, .inr (.inr (.inr (.inr R)))) → (∀ j, j < i → R j = some (135 + 2 * j)) → (∀ j, j < i → Pg h (135 + 2 * j) (0, fun _ => 0, 0)) →
    (∀ h' R', h' 49 = pa49 false false false false → h' 134 = .inl (4, 6, .inr (.inr (.inr (.inr R')))) → (∀ j, j < 6 → R' j = some (135 + 2 * j)) → (∀ j, j < 6 → Pg h' (135 + 2 * j) (0, fun _ => 0, 0)) → Fr 134 147 h h' → Q none h' 147) → Go none RX6 cX6_init 3 none true (d + 2) 75 [some (.ref 49), some (.ref 1), some (.int (nI i))] [] h (135 + 2 * i) (2 * m) (9 * m) Q := by
  intro m
  induction m with
  | zero =>
    intro i h R hm h0 h1 h2 h3 hq
    have e : i = 6 := by omega
    subst e
    refine go_iload_n dX6_init_75 rfl ?_
    refine go_bipush (v := nI 6) dX6_init_76 (by decide) ?_
    refine go_icmp_ge (tgt := 100) dX6_init_78 (by decide) (fun c_78 => ?_) (fun c_78 => ?_)
    · skip
      refine go_vret dX6_init_100 rfl ?_
      exact hq h R h0 h1 h2 h3 Fr.rf
    · exact absurd (nI_le (Nat.le_refl _) (by decide)) c_78
  | succ m ih =>
    intro i h R hm h0 h1 h2 h3 hq
    refine go_iload_n dX6_init_75 rfl ?_
    refine go_bipush (v := nI 6) dX6_init_76 (by decide) ?_
    refine go_icmp_ge (tgt := 100) dX6_init_78 (by decide) (fun c_78 => ?_) (fun c_78 => ?_)
    · exact absurd c_78 (nI_ge (by omega) (by decide))
    · skip
      refine go_aload_n dX6_init_81 rfl ?_
      refine go_get dX6_init_82 fX6_42 (by omega) h0 rfl ?_
      refine go_iload_n dX6_init_85 rfl ?_
      refine go_new (ci := 5) (fs := [.null, .int 0, .long 0]) dX6_init_86 nX6_35 rfl bX5 in_X5 (fun j hj => by rcases (show j = 0 ∨ j = 1 ∨ j = 2 by omega) with rfl | rfl | rfl <;> rfl) (fun _ _ => rfl) (by omega) (by omega) ?_
      refine go_dup dX6_init_89 rfl ?_
      refine go_iiN dX6_init_90 mX5_init iX6_37 (run_parting d (i := 135 + 2 * i) hset_same) rfl rfl (Nat.le_of_ble_eq_true rfl) (by omega) (by omega) (fun v_90 h_90 n_90 q_90 => ?_)
      obtain ⟨rfl, rfl, hPn, hF⟩ := q_90
      have hz : ∀ x, x < 135 + 2 * i → h_90 x = h x := fun x hx => (hF x (by omega)).trans (hset_ne (by omega))
      obtain ⟨F, g0, -⟩ := id hPn
      refine go_aast dX6_init_93 (by omega) ((hz 134 (by omega)).trans h1) (Or.inr ⟨rfl, rfl⟩) (by omega) g0 rfl (by omega) (by omega) ?_
      refine go_inc (L' := [_, _, _]) dX6_init_94 rfl (by decide) rfl ?_
      refine go_goto (tgt := 75) dX6_init_97 (by decide) ?_
      have hz2 : ∀ y, ∀ x, x ≠ 134 → hset h_90 134 y x = h_90 x := fun y x hx => hset_ne hx
      have hR' : ∀ j, j < i + 1 → va_up R i (some (135 + 2 * i)) j = some (135 + 2 * j) := by
        intro j hj
        by_cases e : j = i
        · subst e; simp [va_up]
        · simp only [va_up, if_neg e]; exact h2 j (by omega)
      have hC' : ∀ j, j < i + 1 → Pg (hset h_90 134 (.inl (4, 6, .inr (.inr (.inr (.inr (va_up R i (some (135 + 2 * i))))))))) (135 + 2 * j) (0, fun _ => 0, 0) := by
        intro j hj
        by_cases e : j = i
        · subst e; exact hPn.kept (hz2 _ _ (by omega)) (hz2 _ _ (by omega))
        · exact ((h3 j (by omega)).kept (hz _ (by omega)) (hz _ (by omega))).kept (hz2 _ _ (by omega)) (hz2 _ _ (by omega))
      refine go_room (bc' := 2 * m) (bs' := 9 * m) (by omega) (by omega) (ih (i + 1) _ _ (by omega) ((hz2 _ 49 (by omega)).trans ((hz 49 (by omega)).trans h0)) hset_same hR' hC' ?_)
      intro h' R' a1 a2 a3 a4 a5
      refine hq h' R' a1 a2 a3 a4 (fun y hy => (a5 y hy).trans ((hz2 _ y (by omega)).trans ((hF y (by omega)).trans (hset_ne (by omega)))))
theorem Ls.ag {h h' : gH} (q : Ls h) (f : ∀ x, 50 ≤ x → x < 79 → h' x = h x) : Ls h' := by
  obtain ⟨⟨FA, FW, z, h0, h1, h2⟩, R, r0, r1, r2⟩ := q
  refine ⟨⟨FA, FW, z, (f _ (by omega) (by omega)).trans h0, (f _ (by omega) (by omega)).trans h1, (f _ (by omega) (by omega)).trans h2⟩, R, (f _ (by omega) (by omega)).trans r0, r1, fun i hi => ?_⟩
  obtain ⟨F, hF⟩ := r2 i hi
  exact ⟨F, (f _ (by omega) (by omega)).trans hF⟩
theorem Wy.ag {h h' : gH} {w : Nat} {B : Nat → Nat → Int64} {E : Nat → Nat → Int32} {Fe : Nat → Int64} (q : Wy h w B E Fe) (f : ∀ x, w ≤ x → x < w + 18 → h' x = h x) : Wy h' w B E Fe := by
  obtain ⟨R1, R2, h0, h1, h2, h3, h4, h5, h6, h7⟩ := q
  exact ⟨R1, R2, (f _ (by omega) (by omega)).trans h0, (f _ (by omega) (by omega)).trans h1, h2, (f _ (by omega) (by omega)).trans h3, h4, fun i hi => (f _ (by omega) (by omega)).trans (h5 i hi), fun i hi => (f _ (by omega) (by omega)).trans (h6 i hi), (f _ (by omega) (by omega)).trans h7⟩
theorem Lt.ag {h h' : gH} {B : Nat → Nat → Int64} {E : Nat → Nat → Int32} (q : Lt h B E) (f : ∀ x, 115 ≤ x → x < 132 → h' x = h x) : Lt h' B E := by
  obtain ⟨R1, R2, h0, h1, h2, h3, h4, h5, h6⟩ := q
  exact ⟨R1, R2, (f _ (by omega) (by omega)).trans h0, (f _ (by omega) (by omega)).trans h1, h2, (f _ (by omega) (by omega)).trans h3, h4, fun i hi => (f _ (by omega) (by omega)).trans (h5 i hi), fun i hi => (f _ (by omega) (by omega)).trans (h6 i hi)⟩
set_option maxRecDepth 100000 in
theorem run_partings (d : Nat) {h : gH} (c : CD) (h0 : h 49 = .inr (6, [.null, .null, .null, .null, .null, .null, .null, .int 0, .int 0, .int 0, .int 0])) : Run (d + 2) yX6_init cX6_init 3 none [.ref 49, .ref 1] h 50 97 1921 (fun v h' N' => v = none ∧ N' = 147 ∧ Pa h' c false false false false ∧ Fr 49 147 h h') := by
  refine Run.of (ini := true) (L := [_, _, _]) mX6_init (fun h => rfl) rfl (Nat.le_of_ble_eq_true rfl) rfl ?_
  refine go_aload_n dX6_init_0 rfl ?_
  refine go_obj dX6_init_1 oX6 (Nat.le_of_ble_eq_true rfl) ?_
  refine go_aload_n dX6_init_4 rfl ?_
  refine go_new (ci := 2) (fs := [.null, .null, .null, .int 0]) dX6_init_5 nX6_9 rfl bX2 in_X2 (fun j hj => by rcases (show j = 0 ∨ j = 1 ∨ j = 2 ∨ j = 3 by omega) with rfl | rfl | rfl | rfl <;> rfl) (fun _ _ => rfl) (by omega) (by omega) ?_
  refine go_dup dX6_init_8 rfl ?_
  refine go_iiN dX6_init_9 mX2_init iX6_11 (run_ladder d hset_same) rfl rfl (Nat.le_of_ble_eq_true rfl) (by omega) (by omega) (fun v_9 h_9 n_9 q_9 => ?_)
  obtain ⟨rfl, rfl, hL, hF1⟩ := q_9
  have k1 := (hF1 49 (by omega)).trans ((hset_ne (by omega)).trans h0)
  refine go_put (fs' := [_, _, _, _, _, _, _, _, _, _, _]) dX6_init_12 fX6_12 (by omega) k1 (Nat.le_of_ble_eq_true rfl) rfl ⟨_, _, _, rfl, Or.inr ⟨rfl, rfl, rfl⟩⟩ rfl ?_
  refine go_aload_n dX6_init_15 rfl ?_
  refine go_new (ci := 7) (fs := [.null, .null, .null]) dX6_init_16 nX6_18 rfl bX7 in_X7 (fun j hj => by rcases (show j = 0 ∨ j = 1 ∨ j = 2 by omega) with rfl | rfl | rfl <;> rfl) (fun _ _ => rfl) (by omega) (by omega) ?_
  refine go_dup dX6_init_19 rfl ?_
  refine go_iiN dX6_init_20 mX7_init iX6_20 (run_ways d (w := 79) hset_same) rfl rfl (Nat.le_of_ble_eq_true rfl) (by omega) (by omega) (fun v_20 h_20 n_20 q_20 => ?_)
  obtain ⟨rfl, rfl, hY1, hF2⟩ := q_20
  have k2 := (hF2 49 (by omega)).trans ((hset_ne (by omega)).trans hset_same)
  refine go_put (fs' := [_, _, _, _, _, _, _, _, _, _, _]) dX6_init_23 fX6_21 (by omega) k2 (Nat.le_of_ble_eq_true rfl) rfl ⟨_, _, _, rfl, Or.inr ⟨rfl, rfl, rfl⟩⟩ rfl ?_
  refine go_aload_n dX6_init_26 rfl ?_
  refine go_new (ci := 7) (fs := [.null, .null, .null]) dX6_init_27 nX6_18 rfl bX7 in_X7 (fun j hj => by rcases (show j = 0 ∨ j = 1 ∨ j = 2 by omega) with rfl | rfl | rfl <;> rfl) (fun _ _ => rfl) (by omega) (by omega) ?_
  refine go_dup dX6_init_30 rfl ?_
  refine go_iiN dX6_init_31 mX7_init iX6_20 (run_ways d (w := 97) hset_same) rfl rfl (Nat.le_of_ble_eq_true rfl) (by omega) (by omega) (fun v_31 h_31 n_31 q_31 => ?_)
  obtain ⟨rfl, rfl, hY2, hF3⟩ := q_31
  have k3 := (hF3 49 (by omega)).trans ((hset_ne (by omega)).trans hset_same)
  refine go_put (fs' := [_, _, _, _, _, _, _, _, _, _, _]) dX6_init_34 fX6_25 (by omega) k3 (Nat.le_of_ble_eq_true rfl) rfl ⟨_, _, _, rfl, Or.inr ⟨rfl, rfl, rfl⟩⟩ rfl ?_
  refine go_aload_n dX6_init_37 rfl ?_
  refine go_new (ci := 3) (fs := [.null, .null]) dX6_init_38 nX6_28 rfl bX3 in_X3 (fun j hj => by rcases (show j = 0 ∨ j = 1 by omega) with rfl | rfl <;> rfl) (fun _ _ => rfl) (by omega) (by omega) ?_
  refine go_dup dX6_init_41 rfl ?_
  refine go_iiN dX6_init_42 mX3_init iX6_30 (run_last0 d hset_same) rfl rfl (Nat.le_of_ble_eq_true rfl) (by omega) (by omega) (fun v_42 h_42 n_42 q_42 => ?_)
  obtain ⟨rfl, rfl, hT, hF4⟩ := q_42
  have k4 := (hF4 49 (by omega)).trans ((hset_ne (by omega)).trans hset_same)
  refine go_put (fs' := [_, _, _, _, _, _, _, _, _, _, _]) dX6_init_45 fX6_31 (by omega) k4 (Nat.le_of_ble_eq_true rfl) rfl ⟨_, _, _, rfl, Or.inr ⟨rfl, rfl, rfl⟩⟩ rfl ?_
  refine go_aload_n dX6_init_48 rfl ?_
  refine go_new (ci := 5) (fs := [.null, .int 0, .long 0]) dX6_init_49 nX6_35 rfl bX5 in_X5 (fun j hj => by rcases (show j = 0 ∨ j = 1 ∨ j = 2 by omega) with rfl | rfl | rfl <;> rfl) (fun _ _ => rfl) (by omega) (by omega) ?_
  refine go_dup dX6_init_52 rfl ?_
  refine go_iiN dX6_init_53 mX5_init iX6_37 (run_parting d (i := 132) hset_same) rfl rfl (Nat.le_of_ble_eq_true rfl) (by omega) (by omega) (fun v_53 h_53 n_53 q_53 => ?_)
  obtain ⟨rfl, rfl, hC, hF5⟩ := q_53
  have k5 := (hF5 49 (by omega)).trans ((hset_ne (by omega)).trans hset_same)
  refine go_put (fs' := [_, _, _, _, _, _, _, _, _, _, _]) dX6_init_56 fX6_38 (by omega) k5 (Nat.le_of_ble_eq_true rfl) rfl ⟨_, _, _, rfl, Or.inr ⟨rfl, rfl, rfl⟩⟩ rfl ?_
  refine go_aload_n dX6_init_59 rfl ?_
  refine go_bipush (v := nI 6) dX6_init_60 (by decide) ?_
  refine go_newQ (n := 6) (kd := 4) dX6_init_62 nX6_35 (Or.inr ⟨rfl, rfl⟩) rfl (by omega) (by omega) (by omega) ?_
  refine go_put (fs' := [_, _, _, _, _, _, _, _, _, _, _]) dX6_init_65 fX6_42 (by omega) ((hset_ne (by omega)).trans hset_same) (Nat.le_of_ble_eq_true rfl) rfl ⟨_, _, _, rfl, Or.inr ⟨rfl, rfl, rfl⟩⟩ rfl ?_
  refine go_aload_n dX6_init_68 rfl ?_
  refine go_aload_n dX6_init_69 rfl ?_
  refine go_put (fs' := [_, _, _, _, _, _, _, _, _, _, _]) dX6_init_70 fX6_46 (by omega) hset_same (Nat.le_of_ble_eq_true rfl) rfl ⟨_, _, _, rfl, Or.inr ⟨rfl, rfl, rfl⟩⟩ rfl ?_
  refine go_iconst (v := nI 0) dX6_init_73 (by decide) ?_
  refine go_istore_n (L' := [_, _, _]) dX6_init_74 rfl (by decide) rfl ?_
  rw [hset_hset]
  generalize hh : hset (hset (hset h_53 49 _) 134 _) 49 _ = h6
  have e49 : h6 49 = pa49 false false false false := by rw [← hh]; exact hset_same
  have e134 : h6 134 = .inl (4, 6, .inr (.inr (.inr (.inr (fun _ => none))))) := by rw [← hh, hset_ne (by omega)]; exact hset_same
  have f6 : ∀ x, x ≠ 49 → x ≠ 134 → h6 x = h_53 x := fun x q1 q2 => by rw [← hh, hset_ne q1, hset_ne q2, hset_ne q1]
  have g5 : ∀ x, x ≠ 49 → x < 132 → h6 x = h_42 x := fun x q1 q2 => (f6 x q1 (by omega)).trans ((hF5 x (by omega)).trans ((hset_ne (by omega)).trans (hset_ne q1)))
  have g4 : ∀ x, x ≠ 49 → x < 115 → h6 x = h_31 x := fun x q1 q2 => (g5 x q1 (by omega)).trans ((hF4 x (by omega)).trans ((hset_ne (by omega)).trans (hset_ne q1)))
  have g3 : ∀ x, x ≠ 49 → x < 97 → h6 x = h_20 x := fun x q1 q2 => (g4 x q1 (by omega)).trans ((hF3 x (by omega)).trans ((hset_ne (by omega)).trans (hset_ne q1)))
  have g2 : ∀ x, x ≠ 49 → x < 79 → h6 x = h_9 x := fun x q1 q2 => (g3 x q1 (by omega)).trans ((hF2 x (by omega)).trans ((hset_ne (by omega)).trans (hset_ne q1)))
  refine pinit_loop 6 0 h6 (fun _ => none) rfl e49 e134 (fun j hj => absurd hj (by omega)) (fun j hj => absurd hj (by omega)) (fun h' R' a1 a2 a3 a4 a5 => ?_)
  have b : ∀ x, x < 134 → h' x = h6 x := fun x hx => a5 x (by omega)
  refine ⟨rfl, rfl, ⟨a1, hL.ag (fun x q1 q2 => (b x (by omega)).trans (g2 x (by omega) q2)), (fun z => by cases z), ⟨_, _, _, hY1.ag (fun x q1 q2 => (b x (by omega)).trans (g3 x (by omega) (by omega)))⟩, ⟨_, _, hY2.ag (fun x q1 q2 => (b x (by omega)).trans (g4 x (by omega) (by omega)))⟩, ⟨_, _, hT.ag (fun x q1 q2 => (b x (by omega)).trans (g5 x (by omega) (by omega))), (fun z => by cases z)⟩, ⟨_, hC.kept ((b _ (by omega)).trans (f6 _ (by omega) (by omega))) ((b _ (by omega)).trans (f6 _ (by omega) (by omega))), (fun z => by cases z)⟩, ⟨R', a2, a3⟩, fun i hi => ⟨_, a4 i hi, (fun z => by cases z)⟩⟩, fun x hx => ?_⟩
  rw [a5 x (by omega), f6 x (by omega) (by omega), hF5 x (by omega), hset_ne (by omega), hset_ne (by omega), hF4 x (by omega), hset_ne (by omega), hset_ne (by omega), hF3 x (by omega), hset_ne (by omega), hset_ne (by omega), hF2 x (by omega), hset_ne (by omega), hset_ne (by omega), hF1 x (by omega), hset_ne (by omega)]
end
section
/-! ===== THE STATE that both sides stand for: chart; what can be undone; images; text ===== -/
abbrev SD : Type := CD × (Nat × (Nat → CD)) × ((Nat → CD) × (Nat → Bool)) × (Nat × (Nat → Nat))
theorem rI_f {lo hi : Nat} {x : Int32} (h : rI lo hi x = false) : x.toInt < lo ∨ (hi : Int) < x.toInt := by
  have := of_decide_eq_false h
  omega
def toN (x : Int32) : Nat := x.toInt.toNat
theorem toN_nI {n : Nat} (h : n < 2 ^ 31) : toN (nI n) = n := by unfold toN; rw [nI_toInt h]; rfl
/-- what a state keeps to -/
def SW (s : SD) : Prop := CW s.1 ∧ s.2.1.1 ≤ 10 ∧ (∀ i, i < s.2.1.1 → CW (s.2.1.2 i)) ∧ (∀ i, i < 2 → s.2.2.1.2 i = true → CW (s.2.2.1.1 i)) ∧ s.2.2.2.1 ≤ 150 ∧ ∀ i, i < s.2.2.2.1 → s.2.2.2.2 i ≤ 255
/-- a chart is remembered; of ten the oldest is lost -/
def pushU (u : Nat × (Nat → CD)) (c : CD) : Nat × (Nat → CD) := if u.1 < 10 then (u.1 + 1, fun i => if i = u.1 then c else u.2 i) else (10, fun i => if i = 9 then c else u.2 (i + 1))
/-- the chart becomes another one, the old one is remembered -/
def chS (s : SD) (c : CD) : SD := (c, pushU s.2.1 s.1, s.2.2)
def typeS (s : SD) (x : Int32) : Int32 × SD := if rI 0 255 x = true then (if s.2.2.2.1 < 150 then (nI (s.2.2.2.1 + 1), (s.1, s.2.1, s.2.2.1, (s.2.2.2.1 + 1, fun i => if i = s.2.2.2.1 then toN x else s.2.2.2.2 i))) else (-3, s)) else (-1, s)
def clearS (s : SD) : Int32 × SD := (nI s.2.2.2.1, (s.1, s.2.1, s.2.2.1, (0, s.2.2.2.2)))
def setF (f : Nat → Option Nat) (k : Nat) (v : Option Nat) : Nat → Option Nat := fun x => if x = k then v else f x
def nN (v : Option Nat) : Int32 := match v with
  | none => -9
  | some v => nI v
def putsS (s : SD) (r c x : Int32) : Int32 × SD :=
  if (rI 0 9 r && rI 0 9 c && rI 0 999 x) = true then
    (if s.1.1 (10 * toN r + toN c) = none ∧ 24 ≤ cP s.1.1 100 then (-3, s) else (nN (s.1.1 (10 * toN r + toN c)), chS s (setF s.1.1 (10 * toN r + toN c) (some (toN x)), s.1.2)))
  else (-1, s)
def dropsS (s : SD) (r c : Int32) : Int32 × SD :=
  if (rI 0 9 r && rI 0 9 c) = true then
    (if s.1.1 (10 * toN r + toN c) = none then (-2, s) else (nN (s.1.1 (10 * toN r + toN c)), chS s (setF s.1.1 (10 * toN r + toN c) none, s.1.2)))
  else (-1, s)
def asksS (s : SD) (k : Int32) : Int32 × SD :=
  if rI 1 6 k = true then (if s.1.2.2.2.1 = toN k then (-2, s) else (nI s.1.2.2.2.1, chS s (s.1.1, s.1.2.1, s.1.2.2.1, toN k, s.1.2.2.2.2))) else (-1, s)
def costsS (s : SD) (x : Int32) : Int32 × SD :=
  if rI 0 999 x = true then (if s.1.2.2.2.2 = toN x then (-2, s) else (nI s.1.2.2.2.2, chS s (s.1.1, s.1.2.1, s.1.2.2.1, s.1.2.2.2.1, toN x))) else (-1, s)
def undoS (s : SD) : Int32 × SD := if s.2.1.1 = 0 then (-2, s) else (nI (s.2.1.1 - 1), (s.2.1.2 (s.2.1.1 - 1), (s.2.1.1 - 1, s.2.1.2), s.2.2))
def keepS (s : SD) (x : Int32) : Int32 × SD := if rI 0 1 x = true then (nI (cP s.1.1 100), (s.1, s.2.1, (fun i => if i = toN x then s.1 else s.2.2.1.1 i, fun i => if i = toN x then true else s.2.2.1.2 i), s.2.2.2)) else (-1, s)
def backS (s : SD) (x : Int32) : Int32 × SD := if rI 0 1 x = true then (if s.2.2.1.2 (toN x) = true then (nI (cP (s.2.2.1.1 (toN x)).1 100), (s.2.2.1.1 (toN x), (0, s.2.1.2), s.2.2)) else (-2, s)) else (-1, s)
/-! ===== the class's side: MapText's cells 44, 45, 46; ShadeClasses' cells 0, 36, 37, 40, 43 ===== -/
def Mt (h : gH) (tl : Nat) (tx : Nat → Nat) : Prop := ∃ (F : Nat → Int32) (x3 x4 x5 x6 x7 x8 x9 : Int32) (c : CD), h 44 = .inr (4, [.ref 45, .ref 46, .int (nI tl), .int x3, .int x4, .int x5, .int x6, .int x7, .int x8, .int x9]) ∧ h 45 = .inl (0, 150, .inl F) ∧ Ct h 46 (c.1, fun _ => 0, c.2.2) ∧ ∀ i, i < tl → F i = nI (tx i)
theorem Mt.fr {h h' : gH} {lo hi tl : Nat} {tx : Nat → Nat} (q : Mt h tl tx) (f : Fr lo hi h h') (hx : 49 ≤ lo ∨ hi ≤ 44) : Mt h' tl tx := by
  obtain ⟨F, x3, x4, x5, x6, x7, x8, x9, c, h0, h1, h2, h3⟩ := q
  exact ⟨F, x3, x4, x5, x6, x7, x8, x9, c, (f _ (by omega)).trans h0, (f _ (by omega)).trans h1, h2.fr f (by omega), h3⟩
def Ob (h : gH) : Prop := h 0 = .inr (8, [.ref 1, .ref 4, .ref 36, .ref 43, .ref 44, .ref 49])
def HU (h : gH) (u : Nat × (Nat → CD)) : Prop := ∃ nx H, nx < 10 ∧ Hs h nx u.1 H ∧ ∀ i, i < u.1 → H ((nx + 10 - u.1 + i) % 10) = u.2 i
def Im (h : gH) (u : (Nat → CD) × (Nat → Bool)) : Prop := (∃ R : Nat → Option Nat, h 36 = .inl (3, 2, .inr (.inr (.inr (.inr R)))) ∧ ∀ i, i < 2 → R i = some (37 + 3 * i)) ∧ (∀ i, i < 2 → Ct h (37 + 3 * i) (u.1 i)) ∧ ∃ F : Nat → Int32, h 43 = .inl (2, 2, .inl F) ∧ ∀ i, i < 2 → F i = bI (u.2 i)
theorem HU.fr {h h' : gH} {lo hi : Nat} {u : Nat × (Nat → CD)} (q : HU h u) (f : Fr lo hi h h') (hx : 36 ≤ lo ∨ hi ≤ 4) : HU h' u := by
  obtain ⟨nx, H, h1, h2, h3⟩ := q
  exact ⟨nx, H, h1, h2.fr f hx, h3⟩
theorem Im.fr {h h' : gH} {lo hi : Nat} {u : (Nat → CD) × (Nat → Bool)} (q : Im h u) (f : Fr lo hi h h') (hx : 44 ≤ lo ∨ hi ≤ 36) : Im h' u := by
  obtain ⟨⟨R, h1, h2⟩, h3, F, h4, h5⟩ := q
  exact ⟨⟨R, (f _ (by omega)).trans h1, h2⟩, fun i hi => (h3 i hi).fr f (by omega), F, (f _ (by omega)).trans h4, h5⟩
def CS (h : gH) (s : SD) : Prop := Ob h ∧ Ct h 1 s.1 ∧ HU h s.2.1 ∧ Im h s.2.2.1 ∧ Mt h s.2.2.2.1 s.2.2.2.2 ∧ PaE h s.1
theorem PaE.fr {h h' : gH} {c : CD} {lo hi : Nat} (q : PaE h c) (f : Fr lo hi h h') (hx : 147 ≤ lo ∨ hi ≤ 49) : PaE h' c := by
  obtain ⟨l, cu, le, ta, q⟩ := q
  exact ⟨l, cu, le, ta, q.fr f hx⟩
theorem CS.fr {h h' : gH} {s : SD} {lo hi : Nat} (q : CS h s) (f : Fr lo hi h h') (hx : 147 ≤ lo) : CS h' s := ⟨(f _ (by omega)).trans q.1, q.2.1.fr f (by omega), q.2.2.1.fr f (by omega), q.2.2.2.1.fr f (by omega), q.2.2.2.2.1.fr f (by omega), q.2.2.2.2.2.fr f (by omega)⟩
theorem HU.push {h' : gH} {u : Nat × (Nat → CD)} {nx : Nat} {H : Nat → CD} {c : CD} (h10 : u.1 ≤ 10) (hx : nx < 10) (hU : ∀ i, i < u.1 → H ((nx + 10 - u.1 + i) % 10) = u.2 i) (q : Hs h' ((nx + 1) % 10) (min (u.1 + 1) 10) (updH H nx c)) : HU h' (pushU u c) := by
  unfold pushU
  by_cases e : u.1 < 10
  · rw [if_pos e]
    refine ⟨(nx + 1) % 10, updH H nx c, Nat.mod_lt _ (by decide), ?_, fun i hi => ?_⟩
    · rw [show min (u.1 + 1) 10 = u.1 + 1 by omega] at q
      exact q
    · show updH H nx c (((nx + 1) % 10 + 10 - (u.1 + 1) + i) % 10) = if i = u.1 then c else u.2 i
      have hi : i < u.1 + 1 := hi
      by_cases e2 : i = u.1
      · rw [if_pos e2, updH, if_pos (by omega)]
      · rw [if_neg e2, updH, if_neg (by omega), ← hU i (by omega)]
        congr 1
        omega
  · rw [if_neg e]
    have e10 : u.1 = 10 := by omega
    refine ⟨(nx + 1) % 10, updH H nx c, Nat.mod_lt _ (by decide), ?_, fun i hi => ?_⟩
    · rw [show min (u.1 + 1) 10 = 10 by omega] at q
      exact q
    · show updH H nx c (((nx + 1) % 10 + 10 - 10 + i) % 10) = if i = 9 then c else u.2 (i + 1)
      have hi : i < 10 := hi
      by_cases e2 : i = 9
      · rw [if_pos e2, updH, if_pos (by omega)]
      · rw [if_neg e2, updH, if_neg (by omega), ← hU (i + 1) (by omega)]
        congr 1
        omega
/-- ahead of a change: the chart is remembered, what was found of it is forgotten -/
theorem run_ahead {h : gH} {s : SD} (hw : SW s) (hS : CS h s) : Run 7 yX8_aheadOfChange cX8_aheadOfChange 1 none [.ref 0] h 163 0 0 (fun v h' N' => v = none ∧ N' = 163 ∧ (Ob h' ∧ Ct h' 1 s.1 ∧ HU h' (pushU s.2.1 s.1) ∧ Im h' s.2.2.1 ∧ Mt h' s.2.2.2.1 s.2.2.2.2 ∧ ∀ c', PaE h' c') ∧ Fr 4 147 h h') := by
  obtain ⟨o, hC, ⟨nx, H, hx, hH, hU⟩, hI, hM, l, cu, le, ta, hP⟩ := hS
  obtain ⟨R, g0, -⟩ := id hH
  refine Run.of (ini := false) (L := [_]) mX8_aheadOfChange (fun h => by cases h) rfl (Nat.le_of_ble_eq_true rfl) rfl ?_
  refine go_aload_n dX8_aheadOfChange_0 rfl ?_
  refine go_get dX8_aheadOfChange_1 fX8_19 (by omega) o rfl ?_
  refine go_aload_n dX8_aheadOfChange_4 rfl ?_
  refine go_get dX8_aheadOfChange_5 fX8_10 (by omega) o rfl ?_
  refine go_iv dX8_aheadOfChange_8 mX1_remember iX8_174 (run_remember 4 (by omega) hx hw.2.1 hH hC) rfl rfl (by omega) g0 rfl (Nat.le_of_ble_eq_true rfl) (Nat.zero_le _) (Nat.zero_le _) (fun v_8 h_8 n_8 q_8 => ?_)
  obtain ⟨rfl, rfl, hH1, hF1⟩ := q_8
  have o1 := (hF1 0 (by omega)).trans o
  have hP1 := hP.fr hF1 (by omega)
  refine go_aload_n dX8_aheadOfChange_11 rfl ?_
  refine go_get dX8_aheadOfChange_12 fX8_43 (by omega) o1 rfl ?_
  refine go_iv dX8_aheadOfChange_15 mX6_forget iX8_66 (run_pforget 6 (by omega) hP1) rfl rfl (by omega) hP1.1 rfl (Nat.le_of_ble_eq_true rfl) (Nat.zero_le _) (Nat.zero_le _) (fun v_15 h_15 n_15 q_15 => ?_)
  obtain ⟨rfl, rfl, hP2, hF2⟩ := q_15
  refine go_vret dX8_aheadOfChange_18 rfl ?_
  refine ⟨rfl, rfl, ⟨(hF2 0 (by omega)).trans o1, (hC.fr hF1 (by omega)).fr hF2 (by omega), (HU.push hw.2.1 hx hU hH1).fr hF2 (by omega), (hI.fr hF1 (by omega)).fr hF2 (by omega), (hM.fr hF1 (by omega)).fr hF2 (by omega), fun c' => ⟨_, _, _, _, hP2 c'⟩⟩, (hF1.wide (by omega) (by omega)).trans (hF2.wide (by omega) (by omega))⟩
theorem run_append (d : Nat) {N tl : Nat} {tx : Nat → Nat} {h : gH} {x : Nat} (hN : 163 ≤ N) (ht : tl ≤ 150) (hM : Mt h tl tx) : Run d yX4_append cX4_append 2 (some .boolean) [.ref 44, .int (nI x)] h N 0 0 (fun v h' N' => N' = N ∧ v = some (.int (bI (decide (tl < 150)))) ∧ (if tl < 150 then Mt h' (tl + 1) (fun i => if i = tl then x else tx i) else Mt h' tl tx) ∧ Fr 44 49 h h') := by
  obtain ⟨F, x3, x4, x5, x6, x7, x8, x9, c, h0, h1, h2, h3⟩ := id hM
  refine Run.of (ini := false) (L := [_, _]) mX4_append (fun h => by cases h) rfl (Nat.le_of_ble_eq_true rfl) rfl ?_
  refine go_aload_n dX4_append_0 rfl ?_
  refine go_get dX4_append_1 fX4_22 (by omega) h0 rfl ?_
  refine go_sipush (v := nI 150) dX4_append_4 (by decide) ?_
  refine go_icmp_lt (tgt := 12) dX4_append_7 (by decide) (fun c_7 => ?_) (fun c_7 => ?_)
  · skip
    have e := (nI_ltI (by omega) (by decide)).mp c_7
    refine go_aload_n dX4_append_12 rfl ?_
    refine go_get dX4_append_13 fX4_9 (by omega) h0 rfl ?_
    refine go_aload_n dX4_append_16 rfl ?_
    refine go_get dX4_append_17 fX4_22 (by omega) h0 rfl ?_
    refine go_iload_n dX4_append_20 rfl ?_
    refine go_iast dX4_append_21 (by omega) h1 rfl (by omega) (by omega) ?_
    refine go_aload_n dX4_append_22 rfl ?_
    refine go_dup dX4_append_23 rfl ?_
    refine go_get dX4_append_24 fX4_22 (by omega) ((hset_ne (by omega)).trans h0) rfl ?_
    refine go_iconst (v := nI 1) dX4_append_27 (by decide) ?_
    refine go_iadd dX4_append_28 ?_
    refine go_top (y := .int (nI (tl + 1))) (by rw [nI_add]) ?_
    refine go_put (fs' := [_, _, _, _, _, _, _, _, _, _]) dX4_append_29 fX4_22 (by omega) ((hset_ne (by omega)).trans h0) (Nat.le_of_ble_eq_true rfl) (Or.inl rfl) ⟨_, _, _, rfl, Or.inl rfl⟩ rfl ?_
    refine go_iconst (v := nI 1) dX4_append_32 (by decide) ?_
    refine go_zret dX4_append_33 rfl (by first | exact Or.inl rfl | exact Or.inr rfl) ?_
    refine ⟨rfl, by simp [e, bI]; rfl, ?_, (Fr.rf.set (by omega) (by omega)).set (by omega) (by omega)⟩
    rw [if_pos e]
    refine ⟨_, x3, x4, x5, x6, x7, x8, x9, c, hset_same, (hset_ne (by omega)).trans hset_same, h2.kept ((hset_ne (by omega)).trans (hset_ne (by omega))) ((hset_ne (by omega)).trans (hset_ne (by omega))) ((hset_ne (by omega)).trans (hset_ne (by omega))), fun i hi => ?_⟩
    by_cases q : i = tl
    · subst q; simp [upd]
    · rw [pk_un q, h3 i (by omega)]; simp [q]
  · skip
    have e : ¬ tl < 150 := mt (nI_ltI (a := tl) (b := 150) (by omega) (by decide)).mpr c_7
    refine go_iconst (v := nI 0) dX4_append_10 (by decide) ?_
    refine go_zret dX4_append_11 rfl (by first | exact Or.inl rfl | exact Or.inr rfl) ?_
    exact ⟨rfl, by simp [e, bI]; rfl, by rw [if_neg e]; exact hM, Fr.rf⟩
theorem c_type {h : gH} {s : SD} (hw : SW s) (hS : CS h s) (x : Int32) : Run 8 yX8_type cX8_type 2 (some .int) [.ref 0, .int x] h 163 0 0 (fun v h' N' => v = some (.int (typeS s x).1) ∧ N' = 163 ∧ CS h' (typeS s x).2 ∧ Fr 0 147 h h') := by
  obtain ⟨o, hC, hU, hI, hM, hP⟩ := id hS
  obtain ⟨F, x3, x4, x5, x6, x7, x8, x9, c, m0, -⟩ := id hM
  cases hr : rI 0 255 x with
  | false =>
    have e : typeS s x = (-1, s) := by unfold typeS; rw [hr]; rfl
    rw [e]
    refine Run.of (ini := false) (L := [_, _]) mX8_type (fun h => by cases h) rfl (Nat.le_of_ble_eq_true rfl) rfl ?_
    refine go_iload_n dX8_type_0 rfl ?_
    refine go_if_lt (tgt := 11) dX8_type_1 (by decide) (fun c_1 => ?_) (fun c_1 => ?_)
    · skip
      refine go_iconst (v := (-1)) dX8_type_11 (by decide) ?_
      refine go_iret dX8_type_12 rfl ?_
      exact ⟨rfl, rfl, hS, Fr.rf⟩
    · skip
      rw [lt0] at c_1
      refine go_iload_n dX8_type_4 rfl ?_
      refine go_sipush (v := nI 255) dX8_type_5 (by decide) ?_
      refine go_icmp_le (tgt := 13) dX8_type_8 (by decide) (fun c_8 => ?_) (fun c_8 => ?_)
      · exact absurd (rI_f hr) (by rw [leN (by decide)] at c_8; omega)
      · skip
        refine go_iconst (v := (-1)) dX8_type_11 (by decide) ?_
        refine go_iret dX8_type_12 rfl ?_
        exact ⟨rfl, rfl, hS, Fr.rf⟩
  | true =>
    obtain ⟨k, -, hk, rfl⟩ := rI_t hr
    have e : typeS s (nI k) = if s.2.2.2.1 < 150 then (nI (s.2.2.2.1 + 1), (s.1, s.2.1, s.2.2.1, (s.2.2.2.1 + 1, fun i => if i = s.2.2.2.1 then k else s.2.2.2.2 i))) else (-3, s) := by unfold typeS; rw [hr, toN_nI (by omega)]; rfl
    rw [e]
    refine Run.of (ini := false) (L := [_, _]) mX8_type (fun h => by cases h) rfl (Nat.le_of_ble_eq_true rfl) rfl ?_
    refine go_iload_n dX8_type_0 rfl ?_
    refine go_if_lt (tgt := 11) dX8_type_1 (by decide) (fun c_1 => ?_) (fun c_1 => ?_)
    · exact absurd c_1 (nI_pos (by omega))
    · skip
      refine go_iload_n dX8_type_4 rfl ?_
      refine go_sipush (v := nI 255) dX8_type_5 (by decide) ?_
      refine go_icmp_le (tgt := 13) dX8_type_8 (by decide) (fun c_8 => ?_) (fun c_8 => ?_)
      · skip
        refine go_aload_n dX8_type_13 rfl ?_
        refine go_get dX8_type_14 fX8_34 (by omega) o rfl ?_
        refine go_iload_n dX8_type_17 rfl ?_
        refine go_iv dX8_type_18 mX4_append iX8_47 (run_append 7 (by omega) hw.2.2.2.2.1 hM) rfl rfl (by omega) m0 rfl (Nat.le_of_ble_eq_true rfl) (Nat.zero_le _) (Nat.zero_le _) (fun v_18 h_18 n_18 q_18 => ?_)
        obtain ⟨rfl, rfl, hM1, hF1⟩ := q_18
        refine go_if_eq (tgt := 34) dX8_type_21 (by decide) (fun c_21 => ?_) (fun c_21 => ?_)
        · skip
          have q : ¬ s.2.2.2.1 < 150 := by simpa using bI_eq.mp c_21
          rw [if_neg q] at hM1
          refine go_bipush (v := (-3)) dX8_type_34 (by decide) ?_
          refine go_iret dX8_type_36 rfl ?_
          first | (rw [if_neg q]; exact ⟨rfl, rfl, ⟨(hF1 0 (by omega)).trans o, hC.fr hF1 (by omega), hU.fr hF1 (by omega), hI.fr hF1 (by omega), hM1, hP.fr hF1 (by omega)⟩, hF1.wide (by omega) (by omega)⟩) | (rw [if_pos q]; exact ⟨rfl, rfl, ⟨(hF1 0 (by omega)).trans o, hC.fr hF1 (by omega), hU.fr hF1 (by omega), hI.fr hF1 (by omega), hM1, hP.fr hF1 (by omega)⟩, hF1.wide (by omega) (by omega)⟩)
        · skip
          have q : s.2.2.2.1 < 150 := by simpa using bI_ne.mp c_21
          rw [if_pos q] at hM1
          obtain ⟨F', y3, y4, y5, y6, y7, y8, y9, c', m1, -⟩ := id hM1
          refine go_aload_n dX8_type_24 rfl ?_
          refine go_get dX8_type_25 fX8_34 (by omega) ((hF1 0 (by omega)).trans o) rfl ?_
          refine go_get dX8_type_28 fX8_51 (by omega) m1 rfl ?_
          refine go_goto (tgt := 36) dX8_type_31 (by decide) ?_
          refine go_iret dX8_type_36 rfl ?_
          first | (rw [if_neg q]; exact ⟨rfl, rfl, ⟨(hF1 0 (by omega)).trans o, hC.fr hF1 (by omega), hU.fr hF1 (by omega), hI.fr hF1 (by omega), hM1, hP.fr hF1 (by omega)⟩, hF1.wide (by omega) (by omega)⟩) | (rw [if_pos q]; exact ⟨rfl, rfl, ⟨(hF1 0 (by omega)).trans o, hC.fr hF1 (by omega), hU.fr hF1 (by omega), hI.fr hF1 (by omega), hM1, hP.fr hF1 (by omega)⟩, hF1.wide (by omega) (by omega)⟩)
      · exact absurd (nI_le (by omega) (by decide)) c_8
theorem c_clear {h : gH} {s : SD} (hS : CS h s) : Run 8 yX8_clear cX8_clear 2 (some .int) [.ref 0] h 163 0 0 (fun v h' N' => v = some (.int (clearS s).1) ∧ N' = 163 ∧ CS h' (clearS s).2 ∧ Fr 0 147 h h') := by
  obtain ⟨o, hC, hU, hI, hM, hP⟩ := id hS
  obtain ⟨F, x3, x4, x5, x6, x7, x8, x9, c, m0, m1, m2, m3⟩ := id hM
  refine Run.of (ini := false) (L := [_, _]) mX8_clear (fun h => by cases h) rfl (Nat.le_of_ble_eq_true rfl) rfl ?_
  refine go_aload_n dX8_clear_0 rfl ?_
  refine go_get dX8_clear_1 fX8_34 (by omega) o rfl ?_
  refine go_get dX8_clear_4 fX8_51 (by omega) m0 rfl ?_
  refine go_istore_n (L' := [_, _]) dX8_clear_7 rfl (by decide) rfl ?_
  refine go_aload_n dX8_clear_8 rfl ?_
  refine go_get dX8_clear_9 fX8_34 (by omega) o rfl ?_
  refine go_iconst (v := nI 0) dX8_clear_12 (by decide) ?_
  refine go_put (fs' := [_, _, _, _, _, _, _, _, _, _]) dX8_clear_13 fX8_51 (by omega) m0 (Nat.le_of_ble_eq_true rfl) (Or.inl rfl) ⟨_, _, _, rfl, Or.inl rfl⟩ rfl ?_
  refine go_iload_n dX8_clear_16 rfl ?_
  refine go_iret dX8_clear_17 rfl ?_
  have fr : ∀ y, Fr 44 45 h (hset h 44 y) := fun y => Fr.rf.set (by omega) (by omega)
  exact ⟨rfl, rfl, ⟨(hset_ne (by omega)).trans o, hC.fr (fr _) (by omega), hU.fr (fr _) (by omega), hI.fr (fr _) (by omega), ⟨F, x3, x4, x5, x6, x7, x8, x9, c, hset_same, (hset_ne (by omega)).trans m1, m2.fr (fr _) (by omega), fun i hi => absurd hi (Nat.not_lt_zero _)⟩, hP.fr (fr _) (by omega)⟩, (fr _).wide (by omega) (by omega)⟩
end
section
/-! ===== the calls that change the chart ===== -/
theorem Ct.putN {h : gH} {i k : Nat} {c : CD} {F : Nat → Int32} {v : Option Nat} (q : Ct h i c) (h1 : h (i + 1) = .inl (0, 100, .inl F)) (hF : ∀ x, x < 100 → F x = nO (c.1 x)) : Ct (hset h (i + 1) (.inl (0, 100, .inl (upd F k (nO v))))) i (setF c.1 k v, c.2) := by
  obtain ⟨F', G, a0, a1, a2, a3, a4⟩ := q
  refine ⟨upd F k (nO v), G, (hset_ne (by omega)).trans a0, hset_same, (hset_ne (by omega)).trans a2, fun x hx => ?_, a4⟩
  by_cases e : x = k
  · subst e; rw [pk_us]; simp [setF]
  · rw [pk_un e, hF x hx]; simp [setF, e]
set_option maxRecDepth 100000 in
theorem c_puts {h : gH} {s : SD} (hw : SW s) (hS : CS h s) (r c x : Int32) : Run 8 yX8_puts cX8_puts 6 (some .int) [.ref 0, .int r, .int c, .int x] h 163 0 0 (fun v h' N' => v = some (.int (putsS s r c x).1) ∧ N' = 163 ∧ CS h' (putsS s r c x).2 ∧ Fr 0 147 h h') := by
  obtain ⟨o, hC, hU, hI, hM, hP⟩ := id hS
  obtain ⟨F, G, g0, g1, g2, hf, hg⟩ := id hC
  cases hrc : (rI 0 9 r && rI 0 9 c) with
  | false =>
    have e : putsS s r c x = (-1, s) := by unfold putsS; rw [hrc]; rfl
    rw [e]
    refine Run.of (ini := false) (L := [_, _, _, _, _, _]) mX8_puts (fun h => by cases h) rfl (Nat.le_of_ble_eq_true rfl) rfl ?_
    refine go_iload_n dX8_puts_0 rfl ?_
    refine go_iload_n dX8_puts_1 rfl ?_
    refine go_is dX8_puts_2 mX8_cellOf iX8_67 (run_cellOf 6 r c) rfl rfl (Nat.le_of_ble_eq_true rfl) (Nat.zero_le _) (Nat.zero_le _) (fun v_2 h_2 n_2 q_2 => ?_)
    obtain ⟨rfl, rfl, rfl⟩ := q_2
    rw [cellI_no hrc]
    refine go_istore (L' := [_, _, _, _, _, _]) dX8_puts_5 (by decide) rfl ?_
    refine go_iload dX8_puts_7 rfl ?_
    refine go_if_lt (tgt := 23) dX8_puts_9 (by decide) (fun c_9 => ?_) (fun c_9 => ?_)
    · skip
      refine go_iconst (v := (-1)) dX8_puts_23 (by decide) ?_
      refine go_iret dX8_puts_24 rfl ?_
      exact ⟨rfl, rfl, hS, Fr.rf⟩
    · exact absurd (by decide) c_9
  | true =>
    obtain ⟨i, j, hi, hj, rfl, rfl, hce⟩ := cellI_yes hrc
    cases hx : rI 0 999 x with
    | false =>
      have e : putsS s (nI i) (nI j) x = (-1, s) := by unfold putsS; rw [hrc, hx]; rfl
      rw [e]
      refine Run.of (ini := false) (L := [_, _, _, _, _, _]) mX8_puts (fun h => by cases h) rfl (Nat.le_of_ble_eq_true rfl) rfl ?_
      refine go_iload_n dX8_puts_0 rfl ?_
      refine go_iload_n dX8_puts_1 rfl ?_
      refine go_is dX8_puts_2 mX8_cellOf iX8_67 (run_cellOf 6 (nI i) (nI j)) rfl rfl (Nat.le_of_ble_eq_true rfl) (Nat.zero_le _) (Nat.zero_le _) (fun v_2 h_2 n_2 q_2 => ?_)
      obtain ⟨rfl, rfl, rfl⟩ := q_2
      rw [hce]
      refine go_istore (L' := [_, _, _, _, _, _]) dX8_puts_5 (by decide) rfl ?_
      refine go_iload dX8_puts_7 rfl ?_
      refine go_if_lt (tgt := 23) dX8_puts_9 (by decide) (fun c_9 => ?_) (fun c_9 => ?_)
      · exact absurd c_9 (nI_pos (by omega))
      · skip
        refine go_iload_n dX8_puts_12 rfl ?_
        refine go_if_lt (tgt := 23) dX8_puts_13 (by decide) (fun c_13 => ?_) (fun c_13 => ?_)
        · skip
          refine go_iconst (v := (-1)) dX8_puts_23 (by decide) ?_
          refine go_iret dX8_puts_24 rfl ?_
          exact ⟨rfl, rfl, hS, Fr.rf⟩
        · skip
          rw [lt0] at c_13
          refine go_iload_n dX8_puts_16 rfl ?_
          refine go_sipush (v := nI 999) dX8_puts_17 (by decide) ?_
          refine go_icmp_le (tgt := 25) dX8_puts_20 (by decide) (fun c_20 => ?_) (fun c_20 => ?_)
          · exact absurd (rI_f hx) (by rw [leN (by decide)] at c_20; omega)
          · skip
            refine go_iconst (v := (-1)) dX8_puts_23 (by decide) ?_
            refine go_iret dX8_puts_24 rfl ?_
            exact ⟨rfl, rfl, hS, Fr.rf⟩
    | true =>
      obtain ⟨v, -, hv, rfl⟩ := rI_t hx
      have e : putsS s (nI i) (nI j) (nI v) = if s.1.1 (10 * i + j) = none ∧ 24 ≤ cP s.1.1 100 then (-3, s) else (nN (s.1.1 (10 * i + j)), chS s (setF s.1.1 (10 * i + j) (some v), s.1.2)) := by
        unfold putsS
        rw [hrc, hx, toN_nI (by omega), toN_nI (by omega), toN_nI (by omega)]
        rfl
      rw [e]
      have hcell : 10 * i + j < 100 := by omega
      have h24 : cP s.1.1 100 ≤ 24 := hw.1.2.1
      refine Run.of (ini := false) (L := [_, _, _, _, _, _]) mX8_puts (fun h => by cases h) rfl (Nat.le_of_ble_eq_true rfl) rfl ?_
      cases hq : s.1.1 (10 * i + j) with
      | none =>
        refine go_iload_n dX8_puts_0 rfl ?_
        refine go_iload_n dX8_puts_1 rfl ?_
        refine go_is dX8_puts_2 mX8_cellOf iX8_67 (run_cellOf 6 (nI i) (nI j)) rfl rfl (Nat.le_of_ble_eq_true rfl) (Nat.zero_le _) (Nat.zero_le _) (fun v_2 h_2 n_2 q_2 => ?_)
        obtain ⟨rfl, rfl, rfl⟩ := q_2
        rw [hce]
        refine go_istore (L' := [_, _, _, _, _, _]) dX8_puts_5 (by decide) rfl ?_
        refine go_iload dX8_puts_7 rfl ?_
        refine go_if_lt (tgt := 23) dX8_puts_9 (by decide) (fun c_9 => ?_) (fun c_9 => ?_)
        · exact absurd c_9 (nI_pos (by omega))
        · skip
          refine go_iload_n dX8_puts_12 rfl ?_
          refine go_if_lt (tgt := 23) dX8_puts_13 (by decide) (fun c_13 => ?_) (fun c_13 => ?_)
          · exact absurd c_13 (nI_pos (by omega))
          · skip
            refine go_iload_n dX8_puts_16 rfl ?_
            refine go_sipush (v := nI 999) dX8_puts_17 (by decide) ?_
            refine go_icmp_le (tgt := 25) dX8_puts_20 (by decide) (fun c_20 => ?_) (fun c_20 => ?_)
            · skip
              refine go_aload_n dX8_puts_25 rfl ?_
              refine go_get dX8_puts_26 fX8_10 (by omega) o rfl ?_
              refine go_get dX8_puts_29 fX8_71 (by omega) g0 rfl ?_
              refine go_iload dX8_puts_32 rfl ?_
              refine go_iald dX8_puts_34 (by omega) g1 rfl (by omega) (by omega) ?_
              refine go_top (y := .int (-1)) (by rw [hf _ hcell, hq]; rfl) ?_
              refine go_istore (L' := [_, _, _, _, _, _]) dX8_puts_35 (by decide) rfl ?_
              refine go_iload dX8_puts_37 rfl ?_
              refine go_iconst (v := (-1)) dX8_puts_39 (by decide) ?_
              refine go_icmp_ne (tgt := 58) dX8_puts_40 (by decide) (fun c_40 => ?_) (fun c_40 => ?_)
              · exact absurd rfl c_40
              · skip
                refine go_aload_n dX8_puts_43 rfl ?_
                refine go_get dX8_puts_44 fX8_10 (by omega) o rfl ?_
                refine go_iv dX8_puts_47 mX0_places iX8_75 (run_places 7 hw.1.1 (by omega) hC) rfl rfl (by omega) g0 rfl (Nat.le_of_ble_eq_true rfl) (Nat.zero_le _) (Nat.zero_le _) (fun v_47 h_47 n_47 q_47 => ?_)
                obtain ⟨rfl, rfl, rfl⟩ := q_47
                refine go_bipush (v := nI 24) dX8_puts_50 (by decide) ?_
                refine go_icmp_lt (tgt := 58) dX8_puts_52 (by decide) (fun c_52 => ?_) (fun c_52 => ?_)
                · skip
                  have hfree := (nI_ltI (by omega) (by decide)).mp c_52
                  refine go_aload_n dX8_puts_58 rfl ?_
                  refine go_iv dX8_puts_59 mX8_aheadOfChange iX8_78 (run_ahead hw hS) rfl rfl (by omega) o rfl (Nat.le_of_ble_eq_true rfl) (Nat.zero_le _) (Nat.zero_le _) (fun v_59 h_59 n_59 q_59 => ?_)
                  obtain ⟨rfl, rfl, ⟨o1, hC1, hU1, hI1, hM1, hP1⟩, hF1⟩ := q_59
                  obtain ⟨F1, G1, k0, k1, k2, kf, kg⟩ := id hC1
                  refine go_aload_n dX8_puts_62 rfl ?_
                  refine go_get dX8_puts_63 fX8_10 (by omega) o1 rfl ?_
                  refine go_get dX8_puts_66 fX8_71 (by omega) k0 rfl ?_
                  refine go_iload dX8_puts_69 rfl ?_
                  refine go_iload_n dX8_puts_71 rfl ?_
                  refine go_iast dX8_puts_72 (by omega) k1 rfl (by omega) (by omega) ?_
                  refine go_iload dX8_puts_73 rfl ?_
                  refine go_iconst (v := (-1)) dX8_puts_75 (by decide) ?_
                  refine go_icmp_ne (tgt := 84) dX8_puts_76 (by decide) (fun c_76 => ?_) (fun c_76 => ?_)
                  · exact absurd rfl c_76
                  · skip
                    refine go_bipush (v := (-9)) dX8_puts_79 (by decide) ?_
                    refine go_goto (tgt := 86) dX8_puts_81 (by decide) ?_
                    refine go_iret dX8_puts_86 rfl ?_
                    rw [if_neg (by omega)]
                    have fr : ∀ y, Fr 2 3 h_59 (hset h_59 2 y) := fun y => Fr.rf.set (by omega) (by omega)
                    exact ⟨rfl, rfl, ⟨(fr _ 0 (by omega)).trans o1, hC1.putN (v := some v) k1 kf, hU1.fr (fr _) (by omega), hI1.fr (fr _) (by omega), hM1.fr (fr _) (by omega), (hP1 _).fr (fr _) (by omega)⟩, (hF1.wide (by omega) (by omega)).set (by omega) (by omega)⟩
                · skip
                  have hfull : 24 ≤ cP s.1.1 100 := by have := mt (nI_ltI (a := cP s.1.1 100) (b := 24) (by omega) (by decide)).mpr c_52; omega
                  refine go_bipush (v := (-3)) dX8_puts_55 (by decide) ?_
                  refine go_iret dX8_puts_57 rfl ?_
                  rw [if_pos ⟨rfl, hfull⟩]
                  exact ⟨rfl, rfl, hS, Fr.rf⟩
            · exact absurd (nI_le hv (by decide)) c_20
      | some w =>
        have hw9 := hw.1.1 _ hcell w hq
        refine go_iload_n dX8_puts_0 rfl ?_
        refine go_iload_n dX8_puts_1 rfl ?_
        refine go_is dX8_puts_2 mX8_cellOf iX8_67 (run_cellOf 6 (nI i) (nI j)) rfl rfl (Nat.le_of_ble_eq_true rfl) (Nat.zero_le _) (Nat.zero_le _) (fun v_2 h_2 n_2 q_2 => ?_)
        obtain ⟨rfl, rfl, rfl⟩ := q_2
        rw [hce]
        refine go_istore (L' := [_, _, _, _, _, _]) dX8_puts_5 (by decide) rfl ?_
        refine go_iload dX8_puts_7 rfl ?_
        refine go_if_lt (tgt := 23) dX8_puts_9 (by decide) (fun c_9 => ?_) (fun c_9 => ?_)
        · exact absurd c_9 (nI_pos (by omega))
        · skip
          refine go_iload_n dX8_puts_12 rfl ?_
          refine go_if_lt (tgt := 23) dX8_puts_13 (by decide) (fun c_13 => ?_) (fun c_13 => ?_)
          · exact absurd c_13 (nI_pos (by omega))
          · skip
            refine go_iload_n dX8_puts_16 rfl ?_
            refine go_sipush (v := nI 999) dX8_puts_17 (by decide) ?_
            refine go_icmp_le (tgt := 25) dX8_puts_20 (by decide) (fun c_20 => ?_) (fun c_20 => ?_)
            · skip
              refine go_aload_n dX8_puts_25 rfl ?_
              refine go_get dX8_puts_26 fX8_10 (by omega) o rfl ?_
              refine go_get dX8_puts_29 fX8_71 (by omega) g0 rfl ?_
              refine go_iload dX8_puts_32 rfl ?_
              refine go_iald dX8_puts_34 (by omega) g1 rfl (by omega) (by omega) ?_
              refine go_top (y := .int (nI w)) (by rw [hf _ hcell, hq]; rfl) ?_
              refine go_istore (L' := [_, _, _, _, _, _]) dX8_puts_35 (by decide) rfl ?_
              refine go_iload dX8_puts_37 rfl ?_
              refine go_iconst (v := (-1)) dX8_puts_39 (by decide) ?_
              refine go_icmp_ne (tgt := 58) dX8_puts_40 (by decide) (fun c_40 => ?_) (fun c_40 => ?_)
              · skip
                refine go_aload_n dX8_puts_58 rfl ?_
                refine go_iv dX8_puts_59 mX8_aheadOfChange iX8_78 (run_ahead hw hS) rfl rfl (by omega) o rfl (Nat.le_of_ble_eq_true rfl) (Nat.zero_le _) (Nat.zero_le _) (fun v_59 h_59 n_59 q_59 => ?_)
                obtain ⟨rfl, rfl, ⟨o1, hC1, hU1, hI1, hM1, hP1⟩, hF1⟩ := q_59
                obtain ⟨F1, G1, k0, k1, k2, kf, kg⟩ := id hC1
                refine go_aload_n dX8_puts_62 rfl ?_
                refine go_get dX8_puts_63 fX8_10 (by omega) o1 rfl ?_
                refine go_get dX8_puts_66 fX8_71 (by omega) k0 rfl ?_
                refine go_iload dX8_puts_69 rfl ?_
                refine go_iload_n dX8_puts_71 rfl ?_
                refine go_iast dX8_puts_72 (by omega) k1 rfl (by omega) (by omega) ?_
                refine go_iload dX8_puts_73 rfl ?_
                refine go_iconst (v := (-1)) dX8_puts_75 (by decide) ?_
                refine go_icmp_ne (tgt := 84) dX8_puts_76 (by decide) (fun c_76 => ?_) (fun c_76 => ?_)
                · skip
                  refine go_iload dX8_puts_84 rfl ?_
                  refine go_iret dX8_puts_86 rfl ?_
                  rw [if_neg (by simp)]
                  have fr : ∀ y, Fr 2 3 h_59 (hset h_59 2 y) := fun y => Fr.rf.set (by omega) (by omega)
                  exact ⟨rfl, rfl, ⟨(fr _ 0 (by omega)).trans o1, hC1.putN (v := some v) k1 kf, hU1.fr (fr _) (by omega), hI1.fr (fr _) (by omega), hM1.fr (fr _) (by omega), (hP1 _).fr (fr _) (by omega)⟩, (hF1.wide (by omega) (by omega)).set (by omega) (by omega)⟩
                · exact absurd (nI_ne_m1 (by omega)) c_76
              · exact absurd (nI_ne_m1 (by omega)) c_40
            · exact absurd (nI_le hv (by decide)) c_20
set_option maxRecDepth 100000 in
theorem c_drops {h : gH} {s : SD} (hw : SW s) (hS : CS h s) (r c : Int32) : Run 8 yX8_drops cX8_drops 5 (some .int) [.ref 0, .int r, .int c] h 163 0 0 (fun v h' N' => v = some (.int (dropsS s r c).1) ∧ N' = 163 ∧ CS h' (dropsS s r c).2 ∧ Fr 0 147 h h') := by
  obtain ⟨o, hC, hU, hI, hM, hP⟩ := id hS
  obtain ⟨F, G, g0, g1, g2, hf, hg⟩ := id hC
  cases hrc : (rI 0 9 r && rI 0 9 c) with
  | false =>
    have e : dropsS s r c = (-1, s) := by unfold dropsS; rw [hrc]; rfl
    rw [e]
    refine Run.of (ini := false) (L := [_, _, _, _, _]) mX8_drops (fun h => by cases h) rfl (Nat.le_of_ble_eq_true rfl) rfl ?_
    refine go_iload_n dX8_drops_0 rfl ?_
    refine go_iload_n dX8_drops_1 rfl ?_
    refine go_is dX8_drops_2 mX8_cellOf iX8_67 (run_cellOf 6 r c) rfl rfl (Nat.le_of_ble_eq_true rfl) (Nat.zero_le _) (Nat.zero_le _) (fun v_2 h_2 n_2 q_2 => ?_)
    obtain ⟨rfl, rfl, rfl⟩ := q_2
    rw [cellI_no hrc]
    refine go_istore_n (L' := [_, _, _, _, _]) dX8_drops_5 rfl (by decide) rfl ?_
    refine go_iload_n dX8_drops_6 rfl ?_
    refine go_if_ge (tgt := 12) dX8_drops_7 (by decide) (fun c_7 => ?_) (fun c_7 => ?_)
    · exact absurd c_7 (by decide)
    · skip
      refine go_iconst (v := (-1)) dX8_drops_10 (by decide) ?_
      refine go_iret dX8_drops_11 rfl ?_
      exact ⟨rfl, rfl, hS, Fr.rf⟩
  | true =>
    obtain ⟨i, j, hi, hj, rfl, rfl, hce⟩ := cellI_yes hrc
    have e : dropsS s (nI i) (nI j) = if s.1.1 (10 * i + j) = none then (-2, s) else (nN (s.1.1 (10 * i + j)), chS s (setF s.1.1 (10 * i + j) none, s.1.2)) := by
      unfold dropsS
      rw [hrc, toN_nI (by omega), toN_nI (by omega)]
      rfl
    rw [e]
    have hcell : 10 * i + j < 100 := by omega
    refine Run.of (ini := false) (L := [_, _, _, _, _]) mX8_drops (fun h => by cases h) rfl (Nat.le_of_ble_eq_true rfl) rfl ?_
    cases hq : s.1.1 (10 * i + j) with
    | none =>
      refine go_iload_n dX8_drops_0 rfl ?_
      refine go_iload_n dX8_drops_1 rfl ?_
      refine go_is dX8_drops_2 mX8_cellOf iX8_67 (run_cellOf 6 (nI i) (nI j)) rfl rfl (Nat.le_of_ble_eq_true rfl) (Nat.zero_le _) (Nat.zero_le _) (fun v_2 h_2 n_2 q_2 => ?_)
      obtain ⟨rfl, rfl, rfl⟩ := q_2
      rw [hce]
      refine go_istore_n (L' := [_, _, _, _, _]) dX8_drops_5 rfl (by decide) rfl ?_
      refine go_iload_n dX8_drops_6 rfl ?_
      refine go_if_ge (tgt := 12) dX8_drops_7 (by decide) (fun c_7 => ?_) (fun c_7 => ?_)
      · skip
        refine go_aload_n dX8_drops_12 rfl ?_
        refine go_get dX8_drops_13 fX8_10 (by omega) o rfl ?_
        refine go_get dX8_drops_16 fX8_71 (by omega) g0 rfl ?_
        refine go_iload_n dX8_drops_19 rfl ?_
        refine go_iald dX8_drops_20 (by omega) g1 rfl (by omega) (by omega) ?_
        refine go_top (y := .int (-1)) (by rw [hf _ hcell, hq]; rfl) ?_
        refine go_istore (L' := [_, _, _, _, _]) dX8_drops_21 (by decide) rfl ?_
        refine go_iload dX8_drops_23 rfl ?_
        refine go_iconst (v := (-1)) dX8_drops_25 (by decide) ?_
        refine go_icmp_ne (tgt := 32) dX8_drops_26 (by decide) (fun c_26 => ?_) (fun c_26 => ?_)
        · exact absurd rfl c_26
        · skip
          refine go_bipush (v := (-2)) dX8_drops_29 (by decide) ?_
          refine go_iret dX8_drops_31 rfl ?_
          rw [if_pos rfl]
          exact ⟨rfl, rfl, hS, Fr.rf⟩
      · exact absurd (nI_pos' (by omega)) c_7
    | some w =>
      have hw9 := hw.1.1 _ hcell w hq
      refine go_iload_n dX8_drops_0 rfl ?_
      refine go_iload_n dX8_drops_1 rfl ?_
      refine go_is dX8_drops_2 mX8_cellOf iX8_67 (run_cellOf 6 (nI i) (nI j)) rfl rfl (Nat.le_of_ble_eq_true rfl) (Nat.zero_le _) (Nat.zero_le _) (fun v_2 h_2 n_2 q_2 => ?_)
      obtain ⟨rfl, rfl, rfl⟩ := q_2
      rw [hce]
      refine go_istore_n (L' := [_, _, _, _, _]) dX8_drops_5 rfl (by decide) rfl ?_
      refine go_iload_n dX8_drops_6 rfl ?_
      refine go_if_ge (tgt := 12) dX8_drops_7 (by decide) (fun c_7 => ?_) (fun c_7 => ?_)
      · skip
        refine go_aload_n dX8_drops_12 rfl ?_
        refine go_get dX8_drops_13 fX8_10 (by omega) o rfl ?_
        refine go_get dX8_drops_16 fX8_71 (by omega) g0 rfl ?_
        refine go_iload_n dX8_drops_19 rfl ?_
        refine go_iald dX8_drops_20 (by omega) g1 rfl (by omega) (by omega) ?_
        refine go_top (y := .int (nI w)) (by rw [hf _ hcell, hq]; rfl) ?_
        refine go_istore (L' := [_, _, _, _, _]) dX8_drops_21 (by decide) rfl ?_
        refine go_iload dX8_drops_23 rfl ?_
        refine go_iconst (v := (-1)) dX8_drops_25 (by decide) ?_
        refine go_icmp_ne (tgt := 32) dX8_drops_26 (by decide) (fun c_26 => ?_) (fun c_26 => ?_)
        · skip
          refine go_aload_n dX8_drops_32 rfl ?_
          refine go_iv dX8_drops_33 mX8_aheadOfChange iX8_78 (run_ahead hw hS) rfl rfl (by omega) o rfl (Nat.le_of_ble_eq_true rfl) (Nat.zero_le _) (Nat.zero_le _) (fun v_33 h_33 n_33 q_33 => ?_)
          obtain ⟨rfl, rfl, ⟨o1, hC1, hU1, hI1, hM1, hP1⟩, hF1⟩ := q_33
          obtain ⟨F1, G1, k0, k1, k2, kf, kg⟩ := id hC1
          refine go_aload_n dX8_drops_36 rfl ?_
          refine go_get dX8_drops_37 fX8_10 (by omega) o1 rfl ?_
          refine go_get dX8_drops_40 fX8_71 (by omega) k0 rfl ?_
          refine go_iload_n dX8_drops_43 rfl ?_
          refine go_iconst (v := (-1)) dX8_drops_44 (by decide) ?_
          refine go_iast dX8_drops_45 (by omega) k1 rfl (by omega) (by omega) ?_
          refine go_iload dX8_drops_46 rfl ?_
          refine go_iret dX8_drops_48 rfl ?_
          rw [if_neg (by simp)]
          have fr : ∀ y, Fr 2 3 h_33 (hset h_33 2 y) := fun y => Fr.rf.set (by omega) (by omega)
          exact ⟨rfl, rfl, ⟨(fr _ 0 (by omega)).trans o1, hC1.putN (v := none) k1 kf, hU1.fr (fr _) (by omega), hI1.fr (fr _) (by omega), hM1.fr (fr _) (by omega), (hP1 _).fr (fr _) (by omega)⟩, (hF1.wide (by omega) (by omega)).set (by omega) (by omega)⟩
        · exact absurd (nI_ne_m1 (by omega)) c_26
      · exact absurd (nI_pos' (by omega)) c_7
set_option maxRecDepth 100000 in
theorem c_asks {h : gH} {s : SD} (hw : SW s) (hS : CS h s) (x : Int32) : Run 8 yX8_asks cX8_asks 3 (some .int) [.ref 0, .int x] h 163 0 0 (fun v h' N' => v = some (.int (asksS s x).1) ∧ N' = 163 ∧ CS h' (asksS s x).2 ∧ Fr 0 147 h h') := by
  obtain ⟨o, hC, hU, hI, hM, hP⟩ := id hS
  obtain ⟨F, G, g0, g1, g2, hf, hg⟩ := id hC
  have hK := hw.1.2.2.2.2.1
  cases hr : rI 1 6 x with
  | false =>
    have e : asksS s x = (-1, s) := by unfold asksS; rw [hr]; rfl
    rw [e]
    refine Run.of (ini := false) (L := [_, _, _]) mX8_asks (fun h => by cases h) rfl (Nat.le_of_ble_eq_true rfl) rfl ?_
    refine go_iload_n dX8_asks_0 rfl ?_
    refine go_is dX8_asks_1 mX8_isClasses iX8_81 (run_isClasses 7 x) rfl rfl (Nat.le_of_ble_eq_true rfl) (Nat.zero_le _) (Nat.zero_le _) (fun v_1 h_1 n_1 q_1 => ?_)
    obtain ⟨rfl, rfl, rfl⟩ := q_1
    refine go_if_ne (tgt := 9) dX8_asks_4 (by decide) (fun c_4 => ?_) (fun c_4 => ?_)
    · exact absurd (bI_ne.mp c_4) (by rw [hr]; decide)
    · skip
      refine go_iconst (v := (-1)) dX8_asks_7 (by decide) ?_
      refine go_iret dX8_asks_8 rfl ?_
      exact ⟨rfl, rfl, hS, Fr.rf⟩
  | true =>
    obtain ⟨k, hk1, hk6, rfl⟩ := rI_t hr
    have e : asksS s (nI k) = if s.1.2.2.2.1 = k then (-2, s) else (nI s.1.2.2.2.1, chS s (s.1.1, s.1.2.1, s.1.2.2.1, k, s.1.2.2.2.2)) := by
      unfold asksS
      rw [hr, toN_nI (by omega)]
      rfl
    rw [e]
    refine Run.of (ini := false) (L := [_, _, _]) mX8_asks (fun h => by cases h) rfl (Nat.le_of_ble_eq_true rfl) rfl ?_
    refine go_iload_n dX8_asks_0 rfl ?_
    refine go_is dX8_asks_1 mX8_isClasses iX8_81 (run_isClasses 7 (nI k)) rfl rfl (Nat.le_of_ble_eq_true rfl) (Nat.zero_le _) (Nat.zero_le _) (fun v_1 h_1 n_1 q_1 => ?_)
    obtain ⟨rfl, rfl, rfl⟩ := q_1
    refine go_if_ne (tgt := 9) dX8_asks_4 (by decide) (fun c_4 => ?_) (fun c_4 => ?_)
    · skip
      refine go_aload_n dX8_asks_9 rfl ?_
      refine go_get dX8_asks_10 fX8_10 (by omega) o rfl ?_
      refine go_get dX8_asks_13 fX8_84 (by omega) g0 rfl ?_
      refine go_istore_n (L' := [_, _, _]) dX8_asks_16 rfl (by decide) rfl ?_
      refine go_iload_n dX8_asks_17 rfl ?_
      refine go_iload_n dX8_asks_18 rfl ?_
      refine go_icmp_ne (tgt := 25) dX8_asks_19 (by decide) (fun c_19 => ?_) (fun c_19 => ?_)
      · skip
        have hne : ¬ s.1.2.2.2.1 = k := fun q => c_19 (by rw [q])
        refine go_aload_n dX8_asks_25 rfl ?_
        refine go_iv dX8_asks_26 mX8_aheadOfChange iX8_78 (run_ahead hw hS) rfl rfl (by omega) o rfl (Nat.le_of_ble_eq_true rfl) (Nat.zero_le _) (Nat.zero_le _) (fun v_26 h_26 n_26 q_26 => ?_)
        obtain ⟨rfl, rfl, ⟨o1, hC1, hU1, hI1, hM1, hP1⟩, hF1⟩ := q_26
        obtain ⟨F1, G1, k0, k1, k2, kf, kg⟩ := id hC1
        refine go_aload_n dX8_asks_29 rfl ?_
        refine go_get dX8_asks_30 fX8_10 (by omega) o1 rfl ?_
        refine go_iload_n dX8_asks_33 rfl ?_
        refine go_put (fs' := [_, _, _, _, _]) dX8_asks_34 fX8_84 (by omega) k0 (Nat.le_of_ble_eq_true rfl) (Or.inl rfl) ⟨_, _, _, rfl, Or.inl rfl⟩ rfl ?_
        refine go_iload_n dX8_asks_37 rfl ?_
        refine go_iret dX8_asks_38 rfl ?_
        rw [if_neg hne]
        have fr : ∀ y, Fr 1 2 h_26 (hset h_26 1 y) := fun y => Fr.rf.set (by omega) (by omega)
        exact ⟨rfl, rfl, ⟨(fr _ 0 (by omega)).trans o1, ⟨F1, G1, hset_same, (hset_ne (by omega)).trans k1, (hset_ne (by omega)).trans k2, kf, kg⟩, hU1.fr (fr _) (by omega), hI1.fr (fr _) (by omega), hM1.fr (fr _) (by omega), (hP1 _).fr (fr _) (by omega)⟩, (hF1.wide (by omega) (by omega)).set (by omega) (by omega)⟩
      · skip
        have heq : s.1.2.2.2.1 = k := (nI_eq (by omega) (by omega)).mp (Decidable.not_not.mp c_19)
        refine go_bipush (v := (-2)) dX8_asks_22 (by decide) ?_
        refine go_iret dX8_asks_24 rfl ?_
        rw [if_pos heq]
        exact ⟨rfl, rfl, hS, Fr.rf⟩
    · exact absurd (bI_eq.mp (Decidable.not_not.mp c_4)) (by rw [hr]; decide)
set_option maxRecDepth 100000 in
theorem c_costs {h : gH} {s : SD} (hw : SW s) (hS : CS h s) (x : Int32) : Run 8 yX8_costs cX8_costs 3 (some .int) [.ref 0, .int x] h 163 0 0 (fun v h' N' => v = some (.int (costsS s x).1) ∧ N' = 163 ∧ CS h' (costsS s x).2 ∧ Fr 0 147 h h') := by
  obtain ⟨o, hC, hU, hI, hM, hP⟩ := id hS
  obtain ⟨F, G, g0, g1, g2, hf, hg⟩ := id hC
  have hK := hw.1.2.2.2.2.2
  cases hr : rI 0 999 x with
  | false =>
    have e : costsS s x = (-1, s) := by unfold costsS; rw [hr]; rfl
    rw [e]
    refine Run.of (ini := false) (L := [_, _, _]) mX8_costs (fun h => by cases h) rfl (Nat.le_of_ble_eq_true rfl) rfl ?_
    refine go_iload_n dX8_costs_0 rfl ?_
    refine go_if_lt (tgt := 11) dX8_costs_1 (by decide) (fun c_1 => ?_) (fun c_1 => ?_)
    · skip
      refine go_iconst (v := (-1)) dX8_costs_11 (by decide) ?_
      refine go_iret dX8_costs_12 rfl ?_
      exact ⟨rfl, rfl, hS, Fr.rf⟩
    · skip
      rw [lt0] at c_1
      refine go_iload_n dX8_costs_4 rfl ?_
      refine go_sipush (v := nI 999) dX8_costs_5 (by decide) ?_
      refine go_icmp_le (tgt := 13) dX8_costs_8 (by decide) (fun c_8 => ?_) (fun c_8 => ?_)
      · exact absurd (rI_f hr) (by rw [leN (by decide)] at c_8; omega)
      · skip
        refine go_iconst (v := (-1)) dX8_costs_11 (by decide) ?_
        refine go_iret dX8_costs_12 rfl ?_
        exact ⟨rfl, rfl, hS, Fr.rf⟩
  | true =>
    obtain ⟨k, -, hk6, rfl⟩ := rI_t hr
    have e : costsS s (nI k) = if s.1.2.2.2.2 = k then (-2, s) else (nI s.1.2.2.2.2, chS s (s.1.1, s.1.2.1, s.1.2.2.1, s.1.2.2.2.1, k)) := by
      unfold costsS
      rw [hr, toN_nI (by omega)]
      rfl
    rw [e]
    refine Run.of (ini := false) (L := [_, _, _]) mX8_costs (fun h => by cases h) rfl (Nat.le_of_ble_eq_true rfl) rfl ?_
    refine go_iload_n dX8_costs_0 rfl ?_
    refine go_if_lt (tgt := 11) dX8_costs_1 (by decide) (fun c_1 => ?_) (fun c_1 => ?_)
    · exact absurd c_1 (nI_pos (by omega))
    · skip
      refine go_iload_n dX8_costs_4 rfl ?_
      refine go_sipush (v := nI 999) dX8_costs_5 (by decide) ?_
      refine go_icmp_le (tgt := 13) dX8_costs_8 (by decide) (fun c_8 => ?_) (fun c_8 => ?_)
      · skip
        refine go_aload_n dX8_costs_13 rfl ?_
        refine go_get dX8_costs_14 fX8_10 (by omega) o rfl ?_
        refine go_get dX8_costs_17 fX8_87 (by omega) g0 rfl ?_
        refine go_istore_n (L' := [_, _, _]) dX8_costs_20 rfl (by decide) rfl ?_
        refine go_iload_n dX8_costs_21 rfl ?_
        refine go_iload_n dX8_costs_22 rfl ?_
        refine go_icmp_ne (tgt := 29) dX8_costs_23 (by decide) (fun c_23 => ?_) (fun c_23 => ?_)
        · skip
          have hne : ¬ s.1.2.2.2.2 = k := fun q => c_23 (by rw [q])
          refine go_aload_n dX8_costs_29 rfl ?_
          refine go_iv dX8_costs_30 mX8_aheadOfChange iX8_78 (run_ahead hw hS) rfl rfl (by omega) o rfl (Nat.le_of_ble_eq_true rfl) (Nat.zero_le _) (Nat.zero_le _) (fun v_30 h_30 n_30 q_30 => ?_)
          obtain ⟨rfl, rfl, ⟨o1, hC1, hU1, hI1, hM1, hP1⟩, hF1⟩ := q_30
          obtain ⟨F1, G1, k0, k1, k2, kf, kg⟩ := id hC1
          refine go_aload_n dX8_costs_33 rfl ?_
          refine go_get dX8_costs_34 fX8_10 (by omega) o1 rfl ?_
          refine go_iload_n dX8_costs_37 rfl ?_
          refine go_put (fs' := [_, _, _, _, _]) dX8_costs_38 fX8_87 (by omega) k0 (Nat.le_of_ble_eq_true rfl) (Or.inl rfl) ⟨_, _, _, rfl, Or.inl rfl⟩ rfl ?_
          refine go_iload_n dX8_costs_41 rfl ?_
          refine go_iret dX8_costs_42 rfl ?_
          rw [if_neg hne]
          have fr : ∀ y, Fr 1 2 h_30 (hset h_30 1 y) := fun y => Fr.rf.set (by omega) (by omega)
          exact ⟨rfl, rfl, ⟨(fr _ 0 (by omega)).trans o1, ⟨F1, G1, hset_same, (hset_ne (by omega)).trans k1, (hset_ne (by omega)).trans k2, kf, kg⟩, hU1.fr (fr _) (by omega), hI1.fr (fr _) (by omega), hM1.fr (fr _) (by omega), (hP1 _).fr (fr _) (by omega)⟩, (hF1.wide (by omega) (by omega)).set (by omega) (by omega)⟩
        · skip
          have heq : s.1.2.2.2.2 = k := (nI_eq (by omega) (by omega)).mp (Decidable.not_not.mp c_23)
          refine go_bipush (v := (-2)) dX8_costs_26 (by decide) ?_
          refine go_iret dX8_costs_28 rfl ?_
          rw [if_pos heq]
          exact ⟨rfl, rfl, hS, Fr.rf⟩
      · exact absurd (nI_le hk6 (by decide)) c_8
set_option maxRecDepth 100000 in
theorem c_undo {h : gH} {s : SD} (hw : SW s) (hS : CS h s) : Run 8 yX8_undo cX8_undo 1 (some .int) [.ref 0] h 163 0 0 (fun v h' N' => v = some (.int (undoS s).1) ∧ N' = 163 ∧ CS h' (undoS s).2 ∧ Fr 0 147 h h') := by
  obtain ⟨o, hC, ⟨nx, H, hx, hH, hU⟩, hI, hM, l, cu, le, ta, hP⟩ := id hS
  obtain ⟨R, g0, -⟩ := id hH
  have h10 := hw.2.1
  refine Run.of (ini := false) (L := [_]) mX8_undo (fun h => by cases h) rfl (Nat.le_of_ble_eq_true rfl) rfl ?_
  by_cases hk : s.2.1.1 = 0
  · have e : undoS s = (-2, s) := by unfold undoS; rw [if_pos hk]
    rw [e]
    refine go_aload_n dX8_undo_0 rfl ?_
    refine go_get dX8_undo_1 fX8_19 (by omega) o rfl ?_
    refine go_get dX8_undo_4 fX8_127 (by omega) g0 rfl ?_
    refine go_if_ne (tgt := 13) dX8_undo_7 (by decide) (fun c_7 => ?_) (fun c_7 => ?_)
    · exact absurd (by rw [hk]; rfl) c_7
    · skip
      refine go_bipush (v := (-2)) dX8_undo_10 (by decide) ?_
      refine go_iret dX8_undo_12 rfl ?_
      exact ⟨rfl, rfl, hS, Fr.rf⟩
  · have e : undoS s = (nI (s.2.1.1 - 1), (s.2.1.2 (s.2.1.1 - 1), (s.2.1.1 - 1, s.2.1.2), s.2.2)) := by unfold undoS; rw [if_neg hk]
    rw [e]
    refine go_aload_n dX8_undo_0 rfl ?_
    refine go_get dX8_undo_1 fX8_19 (by omega) o rfl ?_
    refine go_get dX8_undo_4 fX8_127 (by omega) g0 rfl ?_
    refine go_if_ne (tgt := 13) dX8_undo_7 (by decide) (fun c_7 => ?_) (fun c_7 => ?_)
    · skip
      refine go_aload_n dX8_undo_13 rfl ?_
      refine go_get dX8_undo_14 fX8_19 (by omega) o rfl ?_
      refine go_aload_n dX8_undo_17 rfl ?_
      refine go_get dX8_undo_18 fX8_10 (by omega) o rfl ?_
      refine go_iv dX8_undo_21 mX1_recall iX8_130 (run_recall 5 (by omega) hx (by omega) h10 hH hC) rfl rfl (by omega) g0 rfl (Nat.le_of_ble_eq_true rfl) (Nat.zero_le _) (Nat.zero_le _) (fun v_21 h_21 n_21 q_21 => ?_)
      obtain ⟨rfl, rfl, hH1, hC1, hF1⟩ := q_21
      have o1 := (hF1 0 (by omega)).trans o
      have hP1 := hP.fr hF1 (by omega)
      refine go_aload_n dX8_undo_24 rfl ?_
      refine go_get dX8_undo_25 fX8_43 (by omega) o1 rfl ?_
      refine go_iv dX8_undo_28 mX6_forget iX8_66 (run_pforget 7 (by omega) hP1) rfl rfl (by omega) hP1.1 rfl (Nat.le_of_ble_eq_true rfl) (Nat.zero_le _) (Nat.zero_le _) (fun v_28 h_28 n_28 q_28 => ?_)
      obtain ⟨rfl, rfl, hP2, hF2⟩ := q_28
      have hH2 := hH1.fr hF2 (by omega)
      obtain ⟨R2, g2, -⟩ := id hH2
      refine go_aload_n dX8_undo_31 rfl ?_
      refine go_get dX8_undo_32 fX8_19 (by omega) ((hF2 0 (by omega)).trans o1) rfl ?_
      refine go_get dX8_undo_35 fX8_127 (by omega) g2 rfl ?_
      refine go_iret dX8_undo_38 rfl ?_
      have hc : H ((nx + 9) % 10) = s.2.1.2 (s.2.1.1 - 1) := by
        rw [← hU (s.2.1.1 - 1) (by omega)]
        congr 1
        omega
      rw [hc] at hC1
      refine ⟨rfl, rfl, ⟨(hF2 0 (by omega)).trans o1, hC1.fr hF2 (by omega), ⟨(nx + 9) % 10, H, Nat.mod_lt _ (by decide), hH2, fun i hi => ?_⟩, (hI.fr hF1 (by omega)).fr hF2 (by omega), (hM.fr hF1 (by omega)).fr hF2 (by omega), ⟨_, _, _, _, hP2 _⟩⟩, (hF1.wide (by omega) (by omega)).trans (hF2.wide (by omega) (by omega))⟩
      have hi : i < s.2.1.1 - 1 := hi
      show H (((nx + 9) % 10 + 10 - (s.2.1.1 - 1) + i) % 10) = s.2.1.2 i
      rw [← hU i (by omega)]
      congr 1
      omega
    · exact absurd (Decidable.not_not.mp c_7) (nI_ne0 (by omega) (by omega))
set_option maxRecDepth 100000 in
theorem c_keep {h : gH} {s : SD} (hw : SW s) (hS : CS h s) (x : Int32) : Run 8 yX8_keep cX8_keep 2 (some .int) [.ref 0, .int x] h 163 0 0 (fun v h' N' => v = some (.int (keepS s x).1) ∧ N' = 163 ∧ CS h' (keepS s x).2 ∧ Fr 0 147 h h') := by
  obtain ⟨o, hC, hU, hI, hM, hP⟩ := id hS
  obtain ⟨⟨R, r0, r1⟩, i1, K, k0, k1⟩ := id hI
  cases hr : rI 0 1 x with
  | false =>
    have e : keepS s x = (-1, s) := by unfold keepS; rw [hr]; rfl
    rw [e]
    refine Run.of (ini := false) (L := [_, _]) mX8_keep (fun h => by cases h) rfl (Nat.le_of_ble_eq_true rfl) rfl ?_
    refine go_iload_n dX8_keep_0 rfl ?_
    refine go_if_lt (tgt := 9) dX8_keep_1 (by decide) (fun c_1 => ?_) (fun c_1 => ?_)
    · skip
      refine go_iconst (v := (-1)) dX8_keep_9 (by decide) ?_
      refine go_iret dX8_keep_10 rfl ?_
      exact ⟨rfl, rfl, hS, Fr.rf⟩
    · skip
      rw [lt0] at c_1
      refine go_iload_n dX8_keep_4 rfl ?_
      refine go_iconst (v := nI 2) dX8_keep_5 (by decide) ?_
      refine go_icmp_lt (tgt := 11) dX8_keep_6 (by decide) (fun c_6 => ?_) (fun c_6 => ?_)
      · exact absurd (rI_f hr) (by rw [ltN (by decide)] at c_6; omega)
      · skip
        refine go_iconst (v := (-1)) dX8_keep_9 (by decide) ?_
        refine go_iret dX8_keep_10 rfl ?_
        exact ⟨rfl, rfl, hS, Fr.rf⟩
  | true =>
    obtain ⟨k, -, hk, rfl⟩ := rI_t hr
    have e : keepS s (nI k) = (nI (cP s.1.1 100), (s.1, s.2.1, (fun i => if i = k then s.1 else s.2.2.1.1 i, fun i => if i = k then true else s.2.2.1.2 i), s.2.2.2)) := by
      unfold keepS
      rw [hr, toN_nI (by omega)]
      rfl
    rw [e]
    obtain ⟨Fk, Gk, j0, -⟩ := id (i1 k (by omega))
    refine Run.of (ini := false) (L := [_, _]) mX8_keep (fun h => by cases h) rfl (Nat.le_of_ble_eq_true rfl) rfl ?_
    refine go_iload_n dX8_keep_0 rfl ?_
    refine go_if_lt (tgt := 9) dX8_keep_1 (by decide) (fun c_1 => ?_) (fun c_1 => ?_)
    · exact absurd c_1 (nI_pos (by omega))
    · skip
      refine go_iload_n dX8_keep_4 rfl ?_
      refine go_iconst (v := nI 2) dX8_keep_5 (by decide) ?_
      refine go_icmp_lt (tgt := 11) dX8_keep_6 (by decide) (fun c_6 => ?_) (fun c_6 => ?_)
      · skip
        refine go_aload_n dX8_keep_11 rfl ?_
        refine go_get dX8_keep_12 fX8_23 (by omega) o rfl ?_
        refine go_iload_n dX8_keep_15 rfl ?_
        refine go_aald dX8_keep_16 (by omega) r0 (by decide) (by decide) rfl (by omega) (by omega) (r1 k (by omega)) ?_
        refine go_aload_n dX8_keep_17 rfl ?_
        refine go_get dX8_keep_18 fX8_10 (by omega) o rfl ?_
        refine go_iv dX8_keep_21 mX0_become iX8_60 (run_become 6 (i := 37 + 3 * k) (j := 1) (by omega) (by omega) (by omega) (i1 k (by omega)) hC) rfl rfl (by omega) j0 rfl (Nat.le_of_ble_eq_true rfl) (Nat.zero_le _) (Nat.zero_le _) (fun v_21 h_21 n_21 q_21 => ?_)
        obtain ⟨rfl, rfl, hC1, hF1⟩ := q_21
        have o1 := (hF1 0 (by omega)).trans o
        refine go_aload_n dX8_keep_24 rfl ?_
        refine go_get dX8_keep_25 fX8_27 (by omega) o1 rfl ?_
        refine go_iload_n dX8_keep_28 rfl ?_
        refine go_iconst (v := nI 1) dX8_keep_29 (by decide) ?_
        refine go_zast dX8_keep_30 (by omega) ((hF1 43 (by omega)).trans k0) rfl (by omega) (by omega) (Or.inr rfl) ?_
        have fr : ∀ y, Fr 43 44 h_21 (hset h_21 43 y) := fun y => Fr.rf.set (by omega) (by omega)
        have hC2 := (hC.fr hF1 (by omega)).fr (fr (.inl (2, 2, .inl (upd K k (nI 1))))) (by omega)
        obtain ⟨F3, G3, q0, -⟩ := id hC2
        refine go_aload_n dX8_keep_31 rfl ?_
        refine go_get dX8_keep_32 fX8_10 (by omega) ((fr _ 0 (by omega)).trans o1) rfl ?_
        refine go_iv dX8_keep_35 mX0_places iX8_75 (run_places 7 hw.1.1 (by omega) hC2) rfl rfl (by omega) q0 rfl (Nat.le_of_ble_eq_true rfl) (Nat.zero_le _) (Nat.zero_le _) (fun v_35 h_35 n_35 q_35 => ?_)
        obtain ⟨rfl, rfl, rfl⟩ := q_35
        refine go_iret dX8_keep_38 rfl ?_
        refine ⟨rfl, rfl, ⟨(fr _ 0 (by omega)).trans o1, hC2, (hU.fr hF1 (by omega)).fr (fr _) (by omega), ⟨⟨R, (fr _ 36 (by omega)).trans ((hF1 36 (by omega)).trans r0), r1⟩, fun i hi => ?_, _, hset_same, fun i hi => ?_⟩, (hM.fr hF1 (by omega)).fr (fr _) (by omega), (hP.fr hF1 (by omega)).fr (fr _) (by omega)⟩, (hF1.wide (by omega) (by omega)).set (by omega) (by omega)⟩
        · by_cases q : i = k
          · subst q; simp only [if_true]; exact hC1.fr (fr _) (by omega)
          · simp only [if_neg q]; exact ((i1 i hi).fr hF1 (by omega)).fr (fr _) (by omega)
        · by_cases q : i = k
          · subst q; rw [pk_us]; simp; rfl
          · rw [pk_un q, k1 i hi]; simp [q]
      · exact absurd (nI_lt (by omega) (by decide)) c_6
set_option maxRecDepth 100000 in
theorem c_back {h : gH} {s : SD} (hw : SW s) (hS : CS h s) (x : Int32) : Run 8 yX8_back cX8_back 2 (some .int) [.ref 0, .int x] h 163 0 0 (fun v h' N' => v = some (.int (backS s x).1) ∧ N' = 163 ∧ CS h' (backS s x).2 ∧ Fr 0 147 h h') := by
  obtain ⟨o, hC, ⟨nx, H, hx, hH, hU⟩, hI, hM, l, cu, le, ta, hP⟩ := id hS
  obtain ⟨⟨R, r0, r1⟩, i1, K, k0, k1⟩ := id hI
  obtain ⟨F, G, g0, -⟩ := id hC
  cases hr : rI 0 1 x with
  | false =>
    have e : backS s x = (-1, s) := by unfold backS; rw [hr]; rfl
    rw [e]
    refine Run.of (ini := false) (L := [_, _]) mX8_back (fun h => by cases h) rfl (Nat.le_of_ble_eq_true rfl) rfl ?_
    refine go_iload_n dX8_back_0 rfl ?_
    refine go_if_lt (tgt := 9) dX8_back_1 (by decide) (fun c_1 => ?_) (fun c_1 => ?_)
    · skip
      refine go_iconst (v := (-1)) dX8_back_9 (by decide) ?_
      refine go_iret dX8_back_10 rfl ?_
      exact ⟨rfl, rfl, hS, Fr.rf⟩
    · skip
      rw [lt0] at c_1
      refine go_iload_n dX8_back_4 rfl ?_
      refine go_iconst (v := nI 2) dX8_back_5 (by decide) ?_
      refine go_icmp_lt (tgt := 11) dX8_back_6 (by decide) (fun c_6 => ?_) (fun c_6 => ?_)
      · exact absurd (rI_f hr) (by rw [ltN (by decide)] at c_6; omega)
      · skip
        refine go_iconst (v := (-1)) dX8_back_9 (by decide) ?_
        refine go_iret dX8_back_10 rfl ?_
        exact ⟨rfl, rfl, hS, Fr.rf⟩
  | true =>
    obtain ⟨k, -, hk, rfl⟩ := rI_t hr
    have e : backS s (nI k) = if s.2.2.1.2 k = true then (nI (cP (s.2.2.1.1 k).1 100), (s.2.2.1.1 k, (0, s.2.1.2), s.2.2)) else (-2, s) := by
      unfold backS
      rw [hr, toN_nI (by omega)]
      rfl
    rw [e]
    refine Run.of (ini := false) (L := [_, _]) mX8_back (fun h => by cases h) rfl (Nat.le_of_ble_eq_true rfl) rfl ?_
    cases hq : s.2.2.1.2 k with
    | false =>
      refine go_iload_n dX8_back_0 rfl ?_
      refine go_if_lt (tgt := 9) dX8_back_1 (by decide) (fun c_1 => ?_) (fun c_1 => ?_)
      · exact absurd c_1 (nI_pos (by omega))
      · skip
        refine go_iload_n dX8_back_4 rfl ?_
        refine go_iconst (v := nI 2) dX8_back_5 (by decide) ?_
        refine go_icmp_lt (tgt := 11) dX8_back_6 (by decide) (fun c_6 => ?_) (fun c_6 => ?_)
        · skip
          refine go_aload_n dX8_back_11 rfl ?_
          refine go_get dX8_back_12 fX8_27 (by omega) o rfl ?_
          refine go_iload_n dX8_back_15 rfl ?_
          refine go_zald dX8_back_16 (by omega) k0 rfl (by omega) (by omega) ?_
          refine go_top (y := .int (bI false)) (by rw [k1 k (by omega), hq]) ?_
          refine go_if_ne (tgt := 23) dX8_back_17 (by decide) (fun c_17 => ?_) (fun c_17 => ?_)
          · exact absurd rfl c_17
          · skip
            refine go_bipush (v := (-2)) dX8_back_20 (by decide) ?_
            refine go_iret dX8_back_22 rfl ?_
            exact ⟨rfl, rfl, hS, Fr.rf⟩
        · exact absurd (nI_lt (by omega) (by decide)) c_6
    | true =>
      have hwk := hw.2.2.2.1 k (by omega) hq
      refine go_iload_n dX8_back_0 rfl ?_
      refine go_if_lt (tgt := 9) dX8_back_1 (by decide) (fun c_1 => ?_) (fun c_1 => ?_)
      · exact absurd c_1 (nI_pos (by omega))
      · skip
        refine go_iload_n dX8_back_4 rfl ?_
        refine go_iconst (v := nI 2) dX8_back_5 (by decide) ?_
        refine go_icmp_lt (tgt := 11) dX8_back_6 (by decide) (fun c_6 => ?_) (fun c_6 => ?_)
        · skip
          refine go_aload_n dX8_back_11 rfl ?_
          refine go_get dX8_back_12 fX8_27 (by omega) o rfl ?_
          refine go_iload_n dX8_back_15 rfl ?_
          refine go_zald dX8_back_16 (by omega) k0 rfl (by omega) (by omega) ?_
          refine go_top (y := .int (bI true)) (by rw [k1 k (by omega), hq]) ?_
          refine go_if_ne (tgt := 23) dX8_back_17 (by decide) (fun c_17 => ?_) (fun c_17 => ?_)
          · skip
            refine go_aload_n dX8_back_23 rfl ?_
            refine go_get dX8_back_24 fX8_10 (by omega) o rfl ?_
            refine go_aload_n dX8_back_27 rfl ?_
            refine go_get dX8_back_28 fX8_23 (by omega) o rfl ?_
            refine go_iload_n dX8_back_31 rfl ?_
            refine go_aald dX8_back_32 (by omega) r0 (by decide) (by decide) rfl (by omega) (by omega) (r1 k (by omega)) ?_
            refine go_iv dX8_back_33 mX0_become iX8_60 (run_become 6 (i := 1) (j := 37 + 3 * k) (by omega) (by omega) (by omega) hC (i1 k (by omega))) rfl rfl (by omega) g0 rfl (Nat.le_of_ble_eq_true rfl) (Nat.zero_le _) (Nat.zero_le _) (fun v_33 h_33 n_33 q_33 => ?_)
            obtain ⟨rfl, rfl, hC1, hF1⟩ := q_33
            have o1 := (hF1 0 (by omega)).trans o
            have hH1 := hH.fr hF1 (by omega)
            obtain ⟨Rh, q0, -⟩ := id hH1
            refine go_aload_n dX8_back_36 rfl ?_
            refine go_get dX8_back_37 fX8_19 (by omega) o1 rfl ?_
            refine go_iv dX8_back_40 mX1_forget iX8_63 (run_hforget 7 (by omega) hH1) rfl rfl (by omega) q0 rfl (Nat.le_of_ble_eq_true rfl) (Nat.zero_le _) (Nat.zero_le _) (fun v_40 h_40 n_40 q_40 => ?_)
            obtain ⟨rfl, rfl, hH2, hF2⟩ := q_40
            have o2 := (hF2 0 (by omega)).trans o1
            have hP2 := (hP.fr hF1 (by omega)).fr hF2 (by omega)
            refine go_aload_n dX8_back_43 rfl ?_
            refine go_get dX8_back_44 fX8_43 (by omega) o2 rfl ?_
            refine go_iv dX8_back_47 mX6_forget iX8_66 (run_pforget 7 (by omega) hP2) rfl rfl (by omega) hP2.1 rfl (Nat.le_of_ble_eq_true rfl) (Nat.zero_le _) (Nat.zero_le _) (fun v_47 h_47 n_47 q_47 => ?_)
            obtain ⟨rfl, rfl, hP3, hF3⟩ := q_47
            have o3 := (hF3 0 (by omega)).trans o2
            have hC3 := (hC1.fr hF2 (by omega)).fr hF3 (by omega)
            obtain ⟨F3, G3, z0, -⟩ := id hC3
            refine go_aload_n dX8_back_50 rfl ?_
            refine go_get dX8_back_51 fX8_10 (by omega) o3 rfl ?_
            refine go_iv dX8_back_54 mX0_places iX8_75 (run_places 7 hwk.1 (by omega) hC3) rfl rfl (by omega) z0 rfl (Nat.le_of_ble_eq_true rfl) (Nat.zero_le _) (Nat.zero_le _) (fun v_54 h_54 n_54 q_54 => ?_)
            obtain ⟨rfl, rfl, rfl⟩ := q_54
            refine go_iret dX8_back_57 rfl ?_
            exact ⟨rfl, rfl, ⟨o3, hC3, ⟨nx, H, hx, hH2.fr hF3 (by omega), fun i hi => absurd hi (Nat.not_lt_zero _)⟩, ((hI.fr hF1 (by omega)).fr hF2 (by omega)).fr hF3 (by omega), ((hM.fr hF1 (by omega)).fr hF2 (by omega)).fr hF3 (by omega), ⟨_, _, _, _, hP3 _⟩⟩, ((hF1.wide (by omega) (by omega)).trans (hF2.wide (by omega) (by omega))).trans (hF3.wide (by omega) (by omega))⟩
          · exact absurd (by decide) c_17
        · exact absurd (nI_lt (by omega) (by decide)) c_6
end
section
/-! ===== what the calls that only read answer ===== -/
/-- where run i begins, as a number; -1 asks how many runs there are -/
noncomputable def begS (c : CD) (q : PD) (i : Int32) : Int32 := if i.toInt = -1 then nI q.1 else if 0 ≤ i.toInt ∧ i.toInt < (q.1 : Int) then nI ((so c.1).2.1 (q.2.1 (toN i))) else -1
/-- how many of the first m borders are strange -/
noncomputable def stB (c : CD) (q : PD) : Nat → Nat
  | 0 => 0
  | m + 1 => stB c q m + if oldB c.2.1 ((so c.1).2.1 (q.2.1 (m + 1))) (oK c.2.2.1) = true then 0 else 1
theorem stB_le (c : CD) (q : PD) : ∀ m, stB c q m ≤ m
  | 0 => Nat.le_refl _
  | m + 1 => by have := stB_le c q m; rw [stB]; split <;> omega
noncomputable def strS (c : CD) : Nat := stB c (nowD c) ((nowD c).1 - 1)
/-- in which class a number lies -/
noncomputable def shS (c : CD) (v : Nat) : Nat := rO (fun j => decide ((so c.1).2.1 ((nowD c).2.1 j) ≤ v)) (nowD c).1 (nowD c).1 0
noncomputable def placeS (c : CD) (r k w : Int32) : Int32 :=
  if (rI 0 9 r && rI 0 9 k && rI 0 2 w) = true then
    (match c.1 (10 * toN r + toN k) with
     | none => -9
     | some v => if toN w = 0 then nI v else if toN w = 1 then nI (shS c v) else nI (tint (shS c v) (nowD c).1))
  else -1
noncomputable def sortedS (c : CD) (i w : Int32) : Int32 :=
  if (0 ≤ i.toInt ∧ i.toInt < ((so c.1).1 : Int)) ∧ rI 0 2 w = true then
    (if toN w = 0 then nI ((so c.1).2.1 (toN i)) else if toN w = 1 then nI ((so c.1).2.2 (toN i)) else nI (shS c ((so c.1).2.1 (toN i))))
  else -1
def spN (q : PD) : Nat := q.2.2.toInt.toNat
def toldS (p : Nat) (u : Bool) : Int64 := lN ((if u = true then p else 5354228880) / Nat.gcd p 5354228880)
noncomputable def spreadS (c : CD) (w : Int32) : Int64 := if rI 0 1 w = true then toldS (spN (nowD c)) (toN w == 0) else -1
noncomputable def leastS (c : CD) (k i : Int32) : Int32 := if rI 1 6 k = true then begS c (leastD c (toN k)) i else -1
noncomputable def gainS (c : CD) (k w : Int32) : Int64 :=
  if (rI 1 6 k && rI 0 3 w) = true ∧ (toN w < 2 ∨ 2 ≤ toN k) then
    (if toN w < 2 then toldS (spN (leastD c (toN k))) (toN w == 0) else toldS (spN (leastD c (toN k - 1)) - spN (leastD c (toN k))) (toN w == 2))
  else -1
noncomputable def lastS (c : CD) (k j : Int32) : Int32 := if rI 1 6 k = true ∧ 1 ≤ j.toInt ∧ j.toInt ≤ ((so c.1).1 : Int) then lastI c (toN k) (toN j) else -1
/-- the first of k, k + 1, .. (m of them) that is enough -/
noncomputable def enG (c : CD) (x : Nat) : Nat → Nat → Int32
  | 0, _ => -9
  | m + 1, k => if 100 * spN (leastD c k) ≤ x * spN (leastD c 1) then nI k else enG c x m (k + 1)
noncomputable def enoughS (c : CD) (x : Int32) : Int32 := if rI 0 100 x = true then enG c (toN x) 6 1 else -1
noncomputable def countS (s : SD) (w : Int32) : Int32 :=
  if rI 0 7 w = true then
    (match toN w with
     | 0 => nI (cP s.1.1 100)
     | 1 => nI (so s.1.1).1
     | 2 => nI s.1.2.2.2.1
     | 3 => nI s.1.2.2.2.2
     | 4 => oI s.1.2.2.1
     | 5 => nI (sP s.1.1 100)
     | 6 => nI s.2.1.1
     | _ => nI s.2.2.2.1)
  else -1
noncomputable def closeC (c : CD) : CD := (c.1, (fun i => if i < (nowD c).1 - 1 then (so c.1).2.1 ((nowD c).2.1 (i + 1)) else c.2.1 i), some ((nowD c).1 - 1), c.2.2.2)
noncomputable def closesS (s : SD) : Int32 × SD := (nI (strS s.1), chS s (closeC s.1))
/-! partings of a chart -/
theorem par_r (c : CD) (fee : Nat → Int64) (k : Nat) : (parD c fee k).1 = min k (so c.1).1 := rfl
theorem par_lt {c : CD} {fee : Nat → Int64} {k j : Nat} (hj : j < (parD c fee k).1) : (parD c fee k).2.1 j < (so c.1).1 := by
  have := bg_in (n := (so c.1).1) (S := spr (so c.1).2.1 (so c.1).2.2) (fee := fee) (r := min k (so c.1).1) (Nat.min_le_right _ _) (i := j) (Nat.le_of_lt hj)
  have hj : j < min k (so c.1).1 := hj
  show bg _ _ _ _ j < _
  omega
theorem par_up {c : CD} {fee : Nat → Int64} {k i j : Nat} (hij : i < j) (hj : j < (parD c fee k).1) : (parD c fee k).2.1 i < (parD c fee k).2.1 j := by
  induction j with
  | zero => omega
  | succ j ih =>
    have h1 := bg_lt (n := (so c.1).1) (S := spr (so c.1).2.1 (so c.1).2.2) (fee := fee) (r := min k (so c.1).1) (Nat.min_le_right _ _) (i := j) (by have : j + 1 < min k (so c.1).1 := hj; omega)
    by_cases e : i = j
    · subst e; exact h1
    · exact Nat.lt_trans (ih (by omega) (by omega)) h1
theorem now_6 {c : CD} (hw : CW c) : (nowD c).1 ≤ 6 := by have := hw.2.2.2.2.1.2; show min _ _ ≤ _; omega
theorem now_lt {c : CD} {j : Nat} (hj : j < (nowD c).1) : (nowD c).2.1 j < (so c.1).1 := par_lt hj
theorem rO_cong {P P' : Nat → Bool} {r : Nat} : ∀ (m run : Nat), (∀ j, j < r → P j = P' j) → rO P r m run = rO P' r m run
  | 0, _, _ => rfl
  | m + 1, run, h => by
    rw [rO, rO]
    by_cases e : run + 1 < r
    · rw [h _ e, rO_cong m (run + 1) h]
    · simp [e]
theorem CS.pa {h h' : gH} {s : SD} (q : CS h s) (f : Fr 49 147 h h') (p : PaE h' s.1) : CS h' s := ⟨(f _ (by omega)).trans q.1, q.2.1.fr f (by omega), q.2.2.1.fr f (by omega), q.2.2.2.1.fr f (by omega), q.2.2.2.2.1.fr f (by omega), p⟩
theorem PaE.h49 {h : gH} {c : CD} (q : PaE h c) : ∃ l cu le ta, h 49 = pa49 l cu le ta := by obtain ⟨l, cu, le, ta, q⟩ := q; exact ⟨l, cu, le, ta, q.1⟩
/-- SORTED, from whatever has been found -/
theorem run_rungsE (d : Nat) {N : Nat} {h : gH} {c : CD} (hN : 147 ≤ N) (hw : CW c) (hC : Ct h 1 c) (hP : PaE h c) : Run (d + 3) yX6_rungs cX6_rungs 1 (some (FieldType.object "ShadeClasses$Ladder")) [.ref 49] h N 0 0 (fun v h' N' => v = some (.ref 50) ∧ N' = N ∧ PaE h' c ∧ Ld h' (so c.1).1 (so c.1).2.1 (so c.1).2.2 ∧ Fr 49 79 h h') := by
  obtain ⟨l, cu, le, ta, hP⟩ := hP
  exact (run_rungs d hN hw hC hP).mono (fun v h' N' ⟨a, b, c', e⟩ => ⟨a, b, ⟨_, _, _, _, c'⟩, c'.ld, e⟩)
end
section
/-! ===== the class's side of the calls that only read ===== -/
theorem begS_bad {c : CD} {q : PD} {i : Int32} (h : i.toInt < -1 ∨ (q.1 : Int) ≤ i.toInt) : begS c q i = -1 := by
  unfold begS
  rw [if_neg (by omega), if_neg (by omega)]
theorem eq_nI {x : Int32} (h : 0 ≤ x.toInt) : ∃ k, x = nI k ∧ (k : Int) = x.toInt ∧ k < 2 ^ 31 := by
  have hb := Int32.toInt_lt x
  refine ⟨x.toInt.toNat, ?_, by omega, by omega⟩
  apply Int32.toInt_inj.mp
  rw [nI_toInt (by omega)]
  omega
theorem begS_m1 (c : CD) (q : PD) : begS c q (-1) = nI q.1 := by unfold begS; rw [if_pos (by decide)]
theorem begS_n {c : CD} {q : PD} {k : Nat} (h6 : q.1 ≤ 6) (hk : k < q.1) : begS c q (nI k) = nI ((so c.1).2.1 (q.2.1 k)) := by
  unfold begS
  rw [if_neg (by rw [nI_toInt (by omega)]; omega), if_pos (by rw [nI_toInt (by omega)]; omega), toN_nI (by omega)]
theorem m1_lt {x : Int32} : x < -1 ↔ x.toInt < -1 := by
  rw [Int32.lt_iff_toInt_lt]; exact Iff.rfl
set_option maxRecDepth 100000 in
theorem run_beginning {h : gH} {s : SD} {p : Nat} {q : PD} (hw : SW s) (hS : CS h s) (hp : 132 ≤ p) (hp2 : p + 1 < 147) (hP : Pg h p q) (hq : ∀ j, j < q.1 → q.2.1 j < (so s.1.1).1) (i : Int32) : Run 7 yX8_beginning cX8_beginning 3 (some .int) [.ref 0, .ref p, .int i] h 163 0 0 (fun v h' N' => v = some (.int (begS s.1 q i)) ∧ N' = 163 ∧ CS h' s ∧ Fr 49 147 h h') := by
  obtain ⟨o, hC, hU, hI, hM, hPa⟩ := id hS
  obtain ⟨F, f0, f1, f2, f3⟩ := id hP
  obtain ⟨l, cu, le, ta, k0⟩ := hPa.h49
  have h24 := so_24 hw.1.2.1
  refine Run.of (ini := false) (L := [_, _, _]) mX8_beginning (fun h => by cases h) rfl (Nat.le_of_ble_eq_true rfl) rfl ?_
  by_cases hb : i.toInt < -1 ∨ (q.1 : Int) ≤ i.toInt
  · rw [begS_bad hb]
    refine go_iload_n dX8_beginning_0 rfl ?_
    refine go_iconst (v := (-1)) dX8_beginning_1 (by decide) ?_
    refine go_icmp_lt (tgt := 13) dX8_beginning_2 (by decide) (fun c_2 => ?_) (fun c_2 => ?_)
    · skip
      refine go_iconst (v := (-1)) dX8_beginning_13 (by decide) ?_
      refine go_iret dX8_beginning_14 rfl ?_
      exact ⟨rfl, rfl, hS, Fr.rf⟩
    · skip
      rw [m1_lt] at c_2
      refine go_iload_n dX8_beginning_5 rfl ?_
      refine go_aload_n dX8_beginning_6 rfl ?_
      refine go_get dX8_beginning_7 fX8_102 (by omega) f0 rfl ?_
      refine go_icmp_lt (tgt := 15) dX8_beginning_10 (by decide) (fun c_10 => ?_) (fun c_10 => ?_)
      · rw [ltN (by omega)] at c_10; omega
      · skip
        refine go_iconst (v := (-1)) dX8_beginning_13 (by decide) ?_
        refine go_iret dX8_beginning_14 rfl ?_
        exact ⟨rfl, rfl, hS, Fr.rf⟩
  · by_cases e : i = -1
    · subst e
      rw [begS_m1]
      refine go_iload_n dX8_beginning_0 rfl ?_
      refine go_iconst (v := (-1)) dX8_beginning_1 (by decide) ?_
      refine go_icmp_lt (tgt := 13) dX8_beginning_2 (by decide) (fun c_2 => ?_) (fun c_2 => ?_)
      · exact absurd c_2 (by decide)
      · skip
        refine go_iload_n dX8_beginning_5 rfl ?_
        refine go_aload_n dX8_beginning_6 rfl ?_
        refine go_get dX8_beginning_7 fX8_102 (by omega) f0 rfl ?_
        refine go_icmp_lt (tgt := 15) dX8_beginning_10 (by decide) (fun c_10 => ?_) (fun c_10 => ?_)
        · skip
          refine go_iload_n dX8_beginning_15 rfl ?_
          refine go_iconst (v := (-1)) dX8_beginning_16 (by decide) ?_
          refine go_icmp_ne (tgt := 27) dX8_beginning_17 (by decide) (fun c_17 => ?_) (fun c_17 => ?_)
          · exact absurd rfl c_17
          · skip
            refine go_aload_n dX8_beginning_20 rfl ?_
            refine go_get dX8_beginning_21 fX8_102 (by omega) f0 rfl ?_
            refine go_goto (tgt := 42) dX8_beginning_24 (by decide) ?_
            refine go_iret dX8_beginning_42 rfl ?_
            exact ⟨rfl, rfl, hS, Fr.rf⟩
        · exact absurd (by rw [ltN (by omega)]; show (-1 : Int) < _; omega) c_10
    · obtain ⟨k, rfl, hk, hk2⟩ := eq_nI (x := i) (by
        have : i.toInt ≠ -1 := fun z => e (Int32.toInt_inj.mp (z.trans (by decide)))
        omega)
      have hkq : k < q.1 := by omega
      rw [begS_n f2 hkq]
      refine go_iload_n dX8_beginning_0 rfl ?_
      refine go_iconst (v := (-1)) dX8_beginning_1 (by decide) ?_
      refine go_icmp_lt (tgt := 13) dX8_beginning_2 (by decide) (fun c_2 => ?_) (fun c_2 => ?_)
      · rw [m1_lt, nI_toInt hk2] at c_2; omega
      · skip
        refine go_iload_n dX8_beginning_5 rfl ?_
        refine go_aload_n dX8_beginning_6 rfl ?_
        refine go_get dX8_beginning_7 fX8_102 (by omega) f0 rfl ?_
        refine go_icmp_lt (tgt := 15) dX8_beginning_10 (by decide) (fun c_10 => ?_) (fun c_10 => ?_)
        · skip
          refine go_iload_n dX8_beginning_15 rfl ?_
          refine go_iconst (v := (-1)) dX8_beginning_16 (by decide) ?_
          refine go_icmp_ne (tgt := 27) dX8_beginning_17 (by decide) (fun c_17 => ?_) (fun c_17 => ?_)
          · skip
            refine go_aload_n dX8_beginning_27 rfl ?_
            refine go_get dX8_beginning_28 fX8_43 (by omega) o rfl ?_
            refine go_iv dX8_beginning_31 mX6_rungs iX8_94 (run_rungsE 3 (by omega) hw.1 hC hPa) rfl rfl (by omega) k0 rfl (Nat.le_of_ble_eq_true rfl) (Nat.zero_le _) (Nat.zero_le _) (fun v_31 h_31 n_31 q_31 => ?_)
            obtain ⟨rfl, rfl, hP1, hL1, hF1⟩ := q_31
            have hPg := hP.fr hF1 (by omega)
            obtain ⟨F', g0, -⟩ := id hPg
            refine go_aload_n dX8_beginning_34 rfl ?_
            refine go_iload_n dX8_beginning_35 rfl ?_
            refine go_iv dX8_beginning_36 mX5_beginOf iX8_118 (run_beginOf 6 (by omega) hkq hPg) rfl rfl (by omega) g0 rfl (Nat.le_of_ble_eq_true rfl) (Nat.zero_le _) (Nat.zero_le _) (fun v_36 h_36 n_36 q_36 => ?_)
            obtain ⟨rfl, rfl, rfl⟩ := q_36
            obtain ⟨FA, FW, l0, -⟩ := id hL1.1
            refine go_iv dX8_beginning_39 mX2_numberAt iX8_122 (run_numberAt 6 (by omega) (hq k hkq) hL1.1) rfl rfl (by omega) l0 rfl (Nat.le_of_ble_eq_true rfl) (Nat.zero_le _) (Nat.zero_le _) (fun v_39 h_39 n_39 q_39 => ?_)
            obtain ⟨rfl, rfl, rfl⟩ := q_39
            refine go_iret dX8_beginning_42 rfl ?_
            exact ⟨rfl, rfl, hS.pa (hF1.wide (by omega) (by omega)) hP1, hF1.wide (by omega) (by omega)⟩
          · exact absurd (nI_ne_m1 hk2) c_17
        · exact absurd (nI_lt hkq (by omega)) c_10
theorem strange_loop {d N : Nat} {h : gH} {c : CD} {q : PD} {p : Nat} (hN : N = 163) (hw : CW c) (ho : h 0 = .inr (8, [.ref 1, .ref 4, .ref 36, .ref 43, .ref 44, .ref 49])) (hp2 : p + 1 < 147) (hC : Ct h 1 c) (hL : Ld h (so c.1).1 (so c.1).2.1 (so c.1).2.2) (hP : Pg h p q) (hq : ∀ j, j < q.1 → q.2.1 j < (so c.1).1) : ∀ (m k : Nat), k + 1 + m = q.1 → Go none RX8 cX8_strangeBorders 5 (some .int) false (d + 1) 5 [some (.ref 0), some (.ref p), some (.ref 50), some (.int (nI (stB c q k))), some (.int (nI (k + 1)))] [] h N 0 0 (fun v h' N' => v = some (.int (nI (stB c q (q.1 - 1)))) ∧ h' = h ∧ N' = N) := by
  subst hN
  obtain ⟨F, f0, f1, f2, f3⟩ := id hP
  obtain ⟨FC, GC, g0, -⟩ := id hC
  obtain ⟨FA, FW, l0, -⟩ := id hL.1
  have h24 := so_24 hw.2.1
  intro m
  induction m with
  | zero =>
    intro k hk
    have e : q.1 - 1 = k := by omega
    rw [e]
    refine go_iload dX8_strangeBorders_5 rfl ?_
    refine go_aload_n dX8_strangeBorders_7 rfl ?_
    refine go_get dX8_strangeBorders_8 fX8_102 (by omega) f0 rfl ?_
    refine go_icmp_ge (tgt := 43) dX8_strangeBorders_11 (by decide) (fun c_11 => ?_) (fun c_11 => ?_)
    · skip
      refine go_iload_n dX8_strangeBorders_43 rfl ?_
      refine go_iret dX8_strangeBorders_44 rfl ?_
      exact ⟨rfl, rfl, rfl⟩
    · exact absurd (nI_le (by omega) (by omega)) c_11
  | succ m ih =>
    intro k hk
    have hk1 : k + 1 < q.1 := by omega
    have hA := so_le hw.1 _ (hq (k + 1) hk1)
    have ih := ih (k + 1) (by omega)
    have hs := stB_le c q k
    refine go_iload dX8_strangeBorders_5 rfl ?_
    refine go_aload_n dX8_strangeBorders_7 rfl ?_
    refine go_get dX8_strangeBorders_8 fX8_102 (by omega) f0 rfl ?_
    refine go_icmp_ge (tgt := 43) dX8_strangeBorders_11 (by decide) (fun c_11 => ?_) (fun c_11 => ?_)
    · exact absurd c_11 (nI_ge (by omega) (by omega))
    · skip
      refine go_aload_n dX8_strangeBorders_14 rfl ?_
      refine go_get dX8_strangeBorders_15 fX8_10 (by omega) ho rfl ?_
      refine go_aload_n dX8_strangeBorders_18 rfl ?_
      refine go_aload_n dX8_strangeBorders_19 rfl ?_
      refine go_iload dX8_strangeBorders_20 rfl ?_
      refine go_iv dX8_strangeBorders_22 mX5_beginOf iX8_118 (run_beginOf d (by omega) hk1 hP) rfl rfl (by omega) f0 rfl (Nat.le_of_ble_eq_true rfl) (Nat.zero_le _) (Nat.zero_le _) (fun v_22 h_22 n_22 q_22 => ?_)
      obtain ⟨rfl, rfl, rfl⟩ := q_22
      refine go_iv dX8_strangeBorders_25 mX2_numberAt iX8_122 (run_numberAt d (by omega) (hq _ hk1) hL.1) rfl rfl (by omega) l0 rfl (Nat.le_of_ble_eq_true rfl) (Nat.zero_le _) (Nat.zero_le _) (fun v_25 h_25 n_25 q_25 => ?_)
      obtain ⟨rfl, rfl, rfl⟩ := q_25
      refine go_iv dX8_strangeBorders_28 mX0_isOld iX8_177 (run_isOld d (by omega) (fun x hx => by have := hw.2.2.2.1 x hx; omega) hw.2.2.1 (by omega) hC) rfl rfl (by omega) g0 rfl (Nat.le_of_ble_eq_true rfl) (Nat.zero_le _) (Nat.zero_le _) (fun v_28 h_28 n_28 q_28 => ?_)
      obtain ⟨rfl, rfl, rfl⟩ := q_28
      refine go_if_ne (tgt := 37) dX8_strangeBorders_31 (by decide) (fun c_31 => ?_) (fun c_31 => ?_)
      · skip
        have hb := bI_ne.mp c_31
        refine go_inc (L' := [_, _, _, _, _]) dX8_strangeBorders_37 rfl (by decide) rfl ?_
        refine go_goto (tgt := 5) dX8_strangeBorders_40 (by decide) ?_
        refine go_eqL ?_ ih
        simp only [stB, hb, if_true, if_false, Nat.add_zero, nI_add, nI_1, Bool.false_eq_true]
      · skip
        have hb : ¬ oldB c.2.1 ((so c.1).2.1 (q.2.1 (k + 1))) (oK c.2.2.1) = true := mt bI_ne.mpr c_31
        refine go_inc (L' := [_, _, _, _, _]) dX8_strangeBorders_34 rfl (by decide) rfl ?_
        refine go_inc (L' := [_, _, _, _, _]) dX8_strangeBorders_37 rfl (by decide) rfl ?_
        refine go_goto (tgt := 5) dX8_strangeBorders_40 (by decide) ?_
        refine go_eqL ?_ ih
        simp only [stB, hb, if_true, if_false, Nat.add_zero, nI_add, nI_1, Bool.false_eq_true]
theorem run_strange (d : Nat) {h : gH} {c : CD} {q : PD} {p : Nat} (hw : CW c) (ho : Ob h) (hp2 : p + 1 < 147) (hC : Ct h 1 c) (hL : Ld h (so c.1).1 (so c.1).2.1 (so c.1).2.2) (hP : Pg h p q) (hq : ∀ j, j < q.1 → q.2.1 j < (so c.1).1) : Run (d + 1) yX8_strangeBorders cX8_strangeBorders 5 (some .int) [.ref 0, .ref p, .ref 50] h 163 0 0 (fun v h' N' => v = some (.int (nI (stB c q (q.1 - 1)))) ∧ h' = h ∧ N' = 163) := by
  obtain ⟨F, f0, f1, f2, f3⟩ := id hP
  refine Run.of (ini := false) (L := [_, _, _, _, _]) mX8_strangeBorders (fun h => by cases h) rfl (Nat.le_of_ble_eq_true rfl) rfl ?_
  by_cases e : q.1 = 0
  · rw [e]
    refine go_iconst (v := nI 0) dX8_strangeBorders_0 (by decide) ?_
    refine go_istore_n (L' := [_, _, _, _, _]) dX8_strangeBorders_1 rfl (by decide) rfl ?_
    refine go_iconst (v := nI 1) dX8_strangeBorders_2 (by decide) ?_
    refine go_istore (L' := [_, _, _, _, _]) dX8_strangeBorders_3 (by decide) rfl ?_
    refine go_iload dX8_strangeBorders_5 rfl ?_
    refine go_aload_n dX8_strangeBorders_7 rfl ?_
    refine go_get dX8_strangeBorders_8 fX8_102 (by omega) f0 rfl ?_
    refine go_icmp_ge (tgt := 43) dX8_strangeBorders_11 (by decide) (fun c_11 => ?_) (fun c_11 => ?_)
    · skip
      refine go_iload_n dX8_strangeBorders_43 rfl ?_
      refine go_iret dX8_strangeBorders_44 rfl ?_
      exact ⟨rfl, rfl, rfl⟩
    · exact absurd (by rw [e]; decide) c_11
  · skip
    refine go_iconst (v := nI 0) dX8_strangeBorders_0 (by decide) ?_
    refine go_istore_n (L' := [_, _, _, _, _]) dX8_strangeBorders_1 rfl (by decide) rfl ?_
    refine go_iconst (v := nI 1) dX8_strangeBorders_2 (by decide) ?_
    refine go_istore (L' := [_, _, _, _, _]) dX8_strangeBorders_3 (by decide) rfl ?_
    exact strange_loop rfl hw ho hp2 hC hL hP hq (q.1 - 1) 0 (by omega)
end
