-- ===== PART A: goes FIRST, ahead of the names: the tables' words, and 'selects' of the private methods out of them =====
/-- a private method of a class that the tables say can be made, by its rows of tables_1 -/
def lw_okq (q : MethodName × Nat) : Prop := (q.1.cls ≠ "java/lang/invoke/MethodHandle" ∧ q.1.cls ≠ "java/lang/invoke/VarHandle") ∧ Cond.instantiable q.1.cls q.2 ∈ tables_1 ∧ Cond.privateMethod q.1 ∈ tables_1 ∧ Cond.instanceMethod q.1 ∈ tables_1
theorem lw_p0 : lw_okq (⟨"NoBetweens$Text", "splitsIntoTokens", "()V"⟩, 10) := ⟨⟨by decide +kernel, by decide +kernel⟩, List.mem_of_getElem? (i := 21) (by decide +kernel), List.mem_of_getElem? (i := 270) (by decide +kernel), List.mem_of_getElem? (i := 271) (by decide +kernel)⟩
theorem lw_p1 : lw_okq (⟨"NoBetweens$Text", "startsToken", "(I)Z"⟩, 10) := ⟨⟨by decide +kernel, by decide +kernel⟩, List.mem_of_getElem? (i := 21) (by decide +kernel), List.mem_of_getElem? (i := 274) (by decide +kernel), List.mem_of_getElem? (i := 275) (by decide +kernel)⟩
theorem lw_p2 : lw_okq (⟨"NoBetweens$Text", "isDigit", "(I)Z"⟩, 10) := ⟨⟨by decide +kernel, by decide +kernel⟩, List.mem_of_getElem? (i := 21) (by decide +kernel), List.mem_of_getElem? (i := 278) (by decide +kernel), List.mem_of_getElem? (i := 279) (by decide +kernel)⟩
theorem lw_p3 : lw_okq (⟨"NoBetweens$Text", "tokenFrom", "(I)I"⟩, 10) := ⟨⟨by decide +kernel, by decide +kernel⟩, List.mem_of_getElem? (i := 21) (by decide +kernel), List.mem_of_getElem? (i := 282) (by decide +kernel), List.mem_of_getElem? (i := 283) (by decide +kernel)⟩
theorem lw_p4 : lw_okq (⟨"NoBetweens$Text", "numberFrom", "(I)I"⟩, 10) := ⟨⟨by decide +kernel, by decide +kernel⟩, List.mem_of_getElem? (i := 21) (by decide +kernel), List.mem_of_getElem? (i := 286) (by decide +kernel), List.mem_of_getElem? (i := 287) (by decide +kernel)⟩
theorem lw_p5 : lw_okq (⟨"NoBetweens$Text", "readsItem", "()V"⟩, 10) := ⟨⟨by decide +kernel, by decide +kernel⟩, List.mem_of_getElem? (i := 21) (by decide +kernel), List.mem_of_getElem? (i := 294) (by decide +kernel), List.mem_of_getElem? (i := 295) (by decide +kernel)⟩
theorem lw_p6 : lw_okq (⟨"NoBetweens$Text", "mayBegin", "(I)Z"⟩, 10) := ⟨⟨by decide +kernel, by decide +kernel⟩, List.mem_of_getElem? (i := 21) (by decide +kernel), List.mem_of_getElem? (i := 298) (by decide +kernel), List.mem_of_getElem? (i := 299) (by decide +kernel)⟩
theorem lw_p7 : lw_okq (⟨"NoBetweens$Text", "readsScale", "()V"⟩, 10) := ⟨⟨by decide +kernel, by decide +kernel⟩, List.mem_of_getElem? (i := 21) (by decide +kernel), List.mem_of_getElem? (i := 302) (by decide +kernel), List.mem_of_getElem? (i := 303) (by decide +kernel)⟩
theorem lw_p8 : lw_okq (⟨"NoBetweens$Text", "takesNumber", "(II)I"⟩, 10) := ⟨⟨by decide +kernel, by decide +kernel⟩, List.mem_of_getElem? (i := 21) (by decide +kernel), List.mem_of_getElem? (i := 306) (by decide +kernel), List.mem_of_getElem? (i := 307) (by decide +kernel)⟩
theorem lw_p9 : lw_okq (⟨"NoBetweens$Text", "takes", "(Z)V"⟩, 10) := ⟨⟨by decide +kernel, by decide +kernel⟩, List.mem_of_getElem? (i := 21) (by decide +kernel), List.mem_of_getElem? (i := 311) (by decide +kernel), List.mem_of_getElem? (i := 312) (by decide +kernel)⟩
theorem lw_p10 : lw_okq (⟨"NoBetweens$Text", "readsLife", "()V"⟩, 10) := ⟨⟨by decide +kernel, by decide +kernel⟩, List.mem_of_getElem? (i := 21) (by decide +kernel), List.mem_of_getElem? (i := 315) (by decide +kernel), List.mem_of_getElem? (i := 316) (by decide +kernel)⟩
theorem lw_p11 : lw_okq (⟨"NoBetweens$Text", "takesSemicolon", "()V"⟩, 10) := ⟨⟨by decide +kernel, by decide +kernel⟩, List.mem_of_getElem? (i := 21) (by decide +kernel), List.mem_of_getElem? (i := 322) (by decide +kernel), List.mem_of_getElem? (i := 323) (by decide +kernel)⟩
theorem lw_p12 : lw_okq (⟨"NoBetweens", "endBehind", "(III)I"⟩, 11) := ⟨⟨by decide +kernel, by decide +kernel⟩, List.mem_of_getElem? (i := 13) (by decide +kernel), List.mem_of_getElem? (i := 355) (by decide +kernel), List.mem_of_getElem? (i := 356) (by decide +kernel)⟩
theorem lw_p13 : lw_okq (⟨"NoBetweens", "valueBehind", "(III)I"⟩, 11) := ⟨⟨by decide +kernel, by decide +kernel⟩, List.mem_of_getElem? (i := 13) (by decide +kernel), List.mem_of_getElem? (i := 359) (by decide +kernel), List.mem_of_getElem? (i := 360) (by decide +kernel)⟩
theorem lw_p14 : lw_okq (⟨"NoBetweens", "endOf", "(II)I"⟩, 11) := ⟨⟨by decide +kernel, by decide +kernel⟩, List.mem_of_getElem? (i := 13) (by decide +kernel), List.mem_of_getElem? (i := 372) (by decide +kernel), List.mem_of_getElem? (i := 373) (by decide +kernel)⟩
theorem lw_p15 : lw_okq (⟨"NoBetweens", "goByOneYear", "()V"⟩, 11) := ⟨⟨by decide +kernel, by decide +kernel⟩, List.mem_of_getElem? (i := 13) (by decide +kernel), List.mem_of_getElem? (i := 401) (by decide +kernel), List.mem_of_getElem? (i := 402) (by decide +kernel)⟩
def lw_privs_1 : List (MethodName × Nat) := [(⟨"NoBetweens$Text", "splitsIntoTokens", "()V"⟩, 10), (⟨"NoBetweens$Text", "startsToken", "(I)Z"⟩, 10), (⟨"NoBetweens$Text", "isDigit", "(I)Z"⟩, 10), (⟨"NoBetweens$Text", "tokenFrom", "(I)I"⟩, 10), (⟨"NoBetweens$Text", "numberFrom", "(I)I"⟩, 10), (⟨"NoBetweens$Text", "readsItem", "()V"⟩, 10), (⟨"NoBetweens$Text", "mayBegin", "(I)Z"⟩, 10), (⟨"NoBetweens$Text", "readsScale", "()V"⟩, 10), (⟨"NoBetweens$Text", "takesNumber", "(II)I"⟩, 10), (⟨"NoBetweens$Text", "takes", "(Z)V"⟩, 10), (⟨"NoBetweens$Text", "readsLife", "()V"⟩, 10), (⟨"NoBetweens$Text", "takesSemicolon", "()V"⟩, 10), (⟨"NoBetweens", "endBehind", "(III)I"⟩, 11), (⟨"NoBetweens", "valueBehind", "(III)I"⟩, 11), (⟨"NoBetweens", "endOf", "(II)I"⟩, 11), (⟨"NoBetweens", "goByOneYear", "()V"⟩, 11)]
theorem lw_r1 : ∀ q ∈ lw_privs_1, lw_okq q := List.forall_mem_cons.mpr ⟨lw_p0, List.forall_mem_cons.mpr ⟨lw_p1, List.forall_mem_cons.mpr ⟨lw_p2, List.forall_mem_cons.mpr ⟨lw_p3, List.forall_mem_cons.mpr ⟨lw_p4, List.forall_mem_cons.mpr ⟨lw_p5, List.forall_mem_cons.mpr ⟨lw_p6, List.forall_mem_cons.mpr ⟨lw_p7, List.forall_mem_cons.mpr ⟨lw_p8, List.forall_mem_cons.mpr ⟨lw_p9, List.forall_mem_cons.mpr ⟨lw_p10, List.forall_mem_cons.mpr ⟨lw_p11, List.forall_mem_cons.mpr ⟨lw_p12, List.forall_mem_cons.mpr ⟨lw_p13, List.forall_mem_cons.mpr ⟨lw_p14, List.forall_mem_cons.mpr ⟨lw_p15, fun _ h => absurd h List.not_mem_nil⟩⟩⟩⟩⟩⟩⟩⟩⟩⟩⟩⟩⟩⟩⟩⟩
theorem lw_p16 : lw_okq (⟨"NoBetweens", "canBeLaw", "(III)Z"⟩, 11) := ⟨⟨by decide +kernel, by decide +kernel⟩, List.mem_of_getElem? (i := 13) (by decide +kernel), List.mem_of_getElem? (i := 413) (by decide +kernel), List.mem_of_getElem? (i := 414) (by decide +kernel)⟩
theorem lw_p17 : lw_okq (⟨"NoBetweens", "unlawfulLives", "()I"⟩, 11) := ⟨⟨by decide +kernel, by decide +kernel⟩, List.mem_of_getElem? (i := 13) (by decide +kernel), List.mem_of_getElem? (i := 417) (by decide +kernel), List.mem_of_getElem? (i := 418) (by decide +kernel)⟩
theorem lw_p18 : lw_okq (⟨"NoBetweens", "unlawfulScale", "(II)I"⟩, 11) := ⟨⟨by decide +kernel, by decide +kernel⟩, List.mem_of_getElem? (i := 13) (by decide +kernel), List.mem_of_getElem? (i := 421) (by decide +kernel), List.mem_of_getElem? (i := 422) (by decide +kernel)⟩
theorem lw_p19 : lw_okq (⟨"NoBetweens", "inTheDrawer", "()I"⟩, 11) := ⟨⟨by decide +kernel, by decide +kernel⟩, List.mem_of_getElem? (i := 13) (by decide +kernel), List.mem_of_getElem? (i := 443) (by decide +kernel), List.mem_of_getElem? (i := 444) (by decide +kernel)⟩
theorem lw_p20 : lw_okq (⟨"NoBetweens", "scalesAt", "(II)I"⟩, 11) := ⟨⟨by decide +kernel, by decide +kernel⟩, List.mem_of_getElem? (i := 13) (by decide +kernel), List.mem_of_getElem? (i := 447) (by decide +kernel), List.mem_of_getElem? (i := 448) (by decide +kernel)⟩
theorem lw_p21 : lw_okq (⟨"NoBetweens", "unlawfulYears", "(III)I"⟩, 11) := ⟨⟨by decide +kernel, by decide +kernel⟩, List.mem_of_getElem? (i := 13) (by decide +kernel), List.mem_of_getElem? (i := 464) (by decide +kernel), List.mem_of_getElem? (i := 465) (by decide +kernel)⟩
theorem lw_p22 : lw_okq (⟨"NoBetweens", "isUnlawfulBy", "(IIIII)Z"⟩, 11) := ⟨⟨by decide +kernel, by decide +kernel⟩, List.mem_of_getElem? (i := 13) (by decide +kernel), List.mem_of_getElem? (i := 468) (by decide +kernel), List.mem_of_getElem? (i := 469) (by decide +kernel)⟩
theorem lw_p23 : lw_okq (⟨"NoBetweens", "endChangesByJump", "(II)I"⟩, 11) := ⟨⟨by decide +kernel, by decide +kernel⟩, List.mem_of_getElem? (i := 13) (by decide +kernel), List.mem_of_getElem? (i := 476) (by decide +kernel), List.mem_of_getElem? (i := 477) (by decide +kernel)⟩
theorem lw_p24 : lw_okq (⟨"NoBetweens", "lawfulOrders", "(II)I"⟩, 11) := ⟨⟨by decide +kernel, by decide +kernel⟩, List.mem_of_getElem? (i := 13) (by decide +kernel), List.mem_of_getElem? (i := 496) (by decide +kernel), List.mem_of_getElem? (i := 497) (by decide +kernel)⟩
theorem lw_p25 : lw_okq (⟨"NoBetweens", "staysLawful", "(II)Z"⟩, 11) := ⟨⟨by decide +kernel, by decide +kernel⟩, List.mem_of_getElem? (i := 13) (by decide +kernel), List.mem_of_getElem? (i := 504) (by decide +kernel), List.mem_of_getElem? (i := 505) (by decide +kernel)⟩
theorem lw_p26 : lw_okq (⟨"NoBetweens", "isUnlawfulMeanwhile", "()Z"⟩, 11) := ⟨⟨by decide +kernel, by decide +kernel⟩, List.mem_of_getElem? (i := 13) (by decide +kernel), List.mem_of_getElem? (i := 508) (by decide +kernel), List.mem_of_getElem? (i := 509) (by decide +kernel)⟩
theorem lw_p27 : lw_okq (⟨"NoBetweens$Agenda", "lastRising", "(I)I"⟩, 6) := ⟨⟨by decide +kernel, by decide +kernel⟩, List.mem_of_getElem? (i := 158) (by decide +kernel), List.mem_of_getElem? (i := 521) (by decide +kernel), List.mem_of_getElem? (i := 522) (by decide +kernel)⟩
theorem lw_p28 : lw_okq (⟨"NoBetweens$Agenda", "lastAbove", "(II)I"⟩, 6) := ⟨⟨by decide +kernel, by decide +kernel⟩, List.mem_of_getElem? (i := 158) (by decide +kernel), List.mem_of_getElem? (i := 525) (by decide +kernel), List.mem_of_getElem? (i := 526) (by decide +kernel)⟩
theorem lw_p29 : lw_okq (⟨"NoBetweens$Agenda", "swaps", "(II)V"⟩, 6) := ⟨⟨by decide +kernel, by decide +kernel⟩, List.mem_of_getElem? (i := 158) (by decide +kernel), List.mem_of_getElem? (i := 529) (by decide +kernel), List.mem_of_getElem? (i := 530) (by decide +kernel)⟩
theorem lw_p30 : lw_okq (⟨"NoBetweens", "countJumpsTo", "(II)V"⟩, 11) := ⟨⟨by decide +kernel, by decide +kernel⟩, List.mem_of_getElem? (i := 13) (by decide +kernel), List.mem_of_getElem? (i := 541) (by decide +kernel), List.mem_of_getElem? (i := 542) (by decide +kernel)⟩
theorem lw_p31 : lw_okq (⟨"NoBetweens", "reachFrom", "(II)V"⟩, 11) := ⟨⟨by decide +kernel, by decide +kernel⟩, List.mem_of_getElem? (i := 13) (by decide +kernel), List.mem_of_getElem? (i := 545) (by decide +kernel), List.mem_of_getElem? (i := 546) (by decide +kernel)⟩
def lw_privs_2 : List (MethodName × Nat) := [(⟨"NoBetweens", "canBeLaw", "(III)Z"⟩, 11), (⟨"NoBetweens", "unlawfulLives", "()I"⟩, 11), (⟨"NoBetweens", "unlawfulScale", "(II)I"⟩, 11), (⟨"NoBetweens", "inTheDrawer", "()I"⟩, 11), (⟨"NoBetweens", "scalesAt", "(II)I"⟩, 11), (⟨"NoBetweens", "unlawfulYears", "(III)I"⟩, 11), (⟨"NoBetweens", "isUnlawfulBy", "(IIIII)Z"⟩, 11), (⟨"NoBetweens", "endChangesByJump", "(II)I"⟩, 11), (⟨"NoBetweens", "lawfulOrders", "(II)I"⟩, 11), (⟨"NoBetweens", "staysLawful", "(II)Z"⟩, 11), (⟨"NoBetweens", "isUnlawfulMeanwhile", "()Z"⟩, 11), (⟨"NoBetweens$Agenda", "lastRising", "(I)I"⟩, 6), (⟨"NoBetweens$Agenda", "lastAbove", "(II)I"⟩, 6), (⟨"NoBetweens$Agenda", "swaps", "(II)V"⟩, 6), (⟨"NoBetweens", "countJumpsTo", "(II)V"⟩, 11), (⟨"NoBetweens", "reachFrom", "(II)V"⟩, 11)]
theorem lw_r2 : ∀ q ∈ lw_privs_2, lw_okq q := List.forall_mem_cons.mpr ⟨lw_p16, List.forall_mem_cons.mpr ⟨lw_p17, List.forall_mem_cons.mpr ⟨lw_p18, List.forall_mem_cons.mpr ⟨lw_p19, List.forall_mem_cons.mpr ⟨lw_p20, List.forall_mem_cons.mpr ⟨lw_p21, List.forall_mem_cons.mpr ⟨lw_p22, List.forall_mem_cons.mpr ⟨lw_p23, List.forall_mem_cons.mpr ⟨lw_p24, List.forall_mem_cons.mpr ⟨lw_p25, List.forall_mem_cons.mpr ⟨lw_p26, List.forall_mem_cons.mpr ⟨lw_p27, List.forall_mem_cons.mpr ⟨lw_p28, List.forall_mem_cons.mpr ⟨lw_p29, List.forall_mem_cons.mpr ⟨lw_p30, List.forall_mem_cons.mpr ⟨lw_p31, fun _ h => absurd h List.not_mem_nil⟩⟩⟩⟩⟩⟩⟩⟩⟩⟩⟩⟩⟩⟩⟩⟩
theorem lw_p32 : lw_okq (⟨"NoBetweens", "canJump", "(III)Z"⟩, 11) := ⟨⟨by decide +kernel, by decide +kernel⟩, List.mem_of_getElem? (i := 13) (by decide +kernel), List.mem_of_getElem? (i := 549) (by decide +kernel), List.mem_of_getElem? (i := 550) (by decide +kernel)⟩
theorem lw_p33 : lw_okq (⟨"NoBetweens", "firstPlaceOnTheWay", "(II)I"⟩, 11) := ⟨⟨by decide +kernel, by decide +kernel⟩, List.mem_of_getElem? (i := 13) (by decide +kernel), List.mem_of_getElem? (i := 556) (by decide +kernel), List.mem_of_getElem? (i := 557) (by decide +kernel)⟩
theorem lw_p34 : lw_okq (⟨"NoBetweens", "fewestPartsOf", "(II)I"⟩, 11) := ⟨⟨by decide +kernel, by decide +kernel⟩, List.mem_of_getElem? (i := 13) (by decide +kernel), List.mem_of_getElem? (i := 564) (by decide +kernel), List.mem_of_getElem? (i := 565) (by decide +kernel)⟩
theorem lw_p35 : lw_okq (⟨"NoBetweens", "greatestPart", "(II)I"⟩, 11) := ⟨⟨by decide +kernel, by decide +kernel⟩, List.mem_of_getElem? (i := 13) (by decide +kernel), List.mem_of_getElem? (i := 568) (by decide +kernel), List.mem_of_getElem? (i := 569) (by decide +kernel)⟩
theorem lw_p36 : lw_okq (⟨"NoBetweens", "agreesWithBooks", "(III)Z"⟩, 11) := ⟨⟨by decide +kernel, by decide +kernel⟩, List.mem_of_getElem? (i := 13) (by decide +kernel), List.mem_of_getElem? (i := 588) (by decide +kernel), List.mem_of_getElem? (i := 589) (by decide +kernel)⟩
theorem lw_p37 : lw_okq (⟨"NoBetweens", "endInYear", "(IIII)I"⟩, 11) := ⟨⟨by decide +kernel, by decide +kernel⟩, List.mem_of_getElem? (i := 13) (by decide +kernel), List.mem_of_getElem? (i := 592) (by decide +kernel), List.mem_of_getElem? (i := 593) (by decide +kernel)⟩
theorem lw_p38 : lw_okq (⟨"NoBetweens", "areOpposed", "(II)Z"⟩, 11) := ⟨⟨by decide +kernel, by decide +kernel⟩, List.mem_of_getElem? (i := 13) (by decide +kernel), List.mem_of_getElem? (i := 604) (by decide +kernel), List.mem_of_getElem? (i := 605) (by decide +kernel)⟩
theorem lw_p39 : lw_okq (⟨"NoBetweens", "rateAsLife", "(I)I"⟩, 11) := ⟨⟨by decide +kernel, by decide +kernel⟩, List.mem_of_getElem? (i := 13) (by decide +kernel), List.mem_of_getElem? (i := 612) (by decide +kernel), List.mem_of_getElem? (i := 613) (by decide +kernel)⟩
theorem lw_p40 : lw_okq (⟨"NoBetweens", "rateAsChild", "(I)I"⟩, 11) := ⟨⟨by decide +kernel, by decide +kernel⟩, List.mem_of_getElem? (i := 13) (by decide +kernel), List.mem_of_getElem? (i := 616) (by decide +kernel), List.mem_of_getElem? (i := 617) (by decide +kernel)⟩
theorem lw_p41 : lw_okq (⟨"NoBetweens", "rateAsFiance", "(I)I"⟩, 11) := ⟨⟨by decide +kernel, by decide +kernel⟩, List.mem_of_getElem? (i := 13) (by decide +kernel), List.mem_of_getElem? (i := 621) (by decide +kernel), List.mem_of_getElem? (i := 622) (by decide +kernel)⟩
theorem lw_p42 : lw_okq (⟨"NoBetweens", "rateAsThirdSon", "(I)I"⟩, 11) := ⟨⟨by decide +kernel, by decide +kernel⟩, List.mem_of_getElem? (i := 13) (by decide +kernel), List.mem_of_getElem? (i := 626) (by decide +kernel), List.mem_of_getElem? (i := 627) (by decide +kernel)⟩
theorem lw_p43 : lw_okq (⟨"NoBetweens", "rateAsWidow", "(I)I"⟩, 11) := ⟨⟨by decide +kernel, by decide +kernel⟩, List.mem_of_getElem? (i := 13) (by decide +kernel), List.mem_of_getElem? (i := 631) (by decide +kernel), List.mem_of_getElem? (i := 632) (by decide +kernel)⟩
theorem lw_p44 : lw_okq (⟨"NoBetweens", "rateAsSmuggler", "(I)I"⟩, 11) := ⟨⟨by decide +kernel, by decide +kernel⟩, List.mem_of_getElem? (i := 13) (by decide +kernel), List.mem_of_getElem? (i := 636) (by decide +kernel), List.mem_of_getElem? (i := 637) (by decide +kernel)⟩
theorem lw_p45 : lw_okq (⟨"NoBetweensModel", "advances", "()V"⟩, 39) := ⟨⟨by decide +kernel, by decide +kernel⟩, List.mem_of_getElem? (i := 657) (by decide +kernel), List.mem_of_getElem? (i := 796) (by decide +kernel), List.mem_of_getElem? (i := 797) (by decide +kernel)⟩
theorem lw_p46 : lw_okq (⟨"NoBetweensModel", "letterAt", "(I)I"⟩, 39) := ⟨⟨by decide +kernel, by decide +kernel⟩, List.mem_of_getElem? (i := 657) (by decide +kernel), List.mem_of_getElem? (i := 800) (by decide +kernel), List.mem_of_getElem? (i := 801) (by decide +kernel)⟩
theorem lw_p47 : lw_okq (⟨"NoBetweensModel", "isWell", "()Z"⟩, 39) := ⟨⟨by decide +kernel, by decide +kernel⟩, List.mem_of_getElem? (i := 657) (by decide +kernel), List.mem_of_getElem? (i := 804) (by decide +kernel), List.mem_of_getElem? (i := 805) (by decide +kernel)⟩
def lw_privs_3 : List (MethodName × Nat) := [(⟨"NoBetweens", "canJump", "(III)Z"⟩, 11), (⟨"NoBetweens", "firstPlaceOnTheWay", "(II)I"⟩, 11), (⟨"NoBetweens", "fewestPartsOf", "(II)I"⟩, 11), (⟨"NoBetweens", "greatestPart", "(II)I"⟩, 11), (⟨"NoBetweens", "agreesWithBooks", "(III)Z"⟩, 11), (⟨"NoBetweens", "endInYear", "(IIII)I"⟩, 11), (⟨"NoBetweens", "areOpposed", "(II)Z"⟩, 11), (⟨"NoBetweens", "rateAsLife", "(I)I"⟩, 11), (⟨"NoBetweens", "rateAsChild", "(I)I"⟩, 11), (⟨"NoBetweens", "rateAsFiance", "(I)I"⟩, 11), (⟨"NoBetweens", "rateAsThirdSon", "(I)I"⟩, 11), (⟨"NoBetweens", "rateAsWidow", "(I)I"⟩, 11), (⟨"NoBetweens", "rateAsSmuggler", "(I)I"⟩, 11), (⟨"NoBetweensModel", "advances", "()V"⟩, 39), (⟨"NoBetweensModel", "letterAt", "(I)I"⟩, 39), (⟨"NoBetweensModel", "isWell", "()Z"⟩, 39)]
theorem lw_r3 : ∀ q ∈ lw_privs_3, lw_okq q := List.forall_mem_cons.mpr ⟨lw_p32, List.forall_mem_cons.mpr ⟨lw_p33, List.forall_mem_cons.mpr ⟨lw_p34, List.forall_mem_cons.mpr ⟨lw_p35, List.forall_mem_cons.mpr ⟨lw_p36, List.forall_mem_cons.mpr ⟨lw_p37, List.forall_mem_cons.mpr ⟨lw_p38, List.forall_mem_cons.mpr ⟨lw_p39, List.forall_mem_cons.mpr ⟨lw_p40, List.forall_mem_cons.mpr ⟨lw_p41, List.forall_mem_cons.mpr ⟨lw_p42, List.forall_mem_cons.mpr ⟨lw_p43, List.forall_mem_cons.mpr ⟨lw_p44, List.forall_mem_cons.mpr ⟨lw_p45, List.forall_mem_cons.mpr ⟨lw_p46, List.forall_mem_cons.mpr ⟨lw_p47, fun _ h => absurd h List.not_mem_nil⟩⟩⟩⟩⟩⟩⟩⟩⟩⟩⟩⟩⟩⟩⟩⟩
theorem lw_p48 : lw_okq (⟨"NoBetweensModel", "mayBegin", "()Z"⟩, 39) := ⟨⟨by decide +kernel, by decide +kernel⟩, List.mem_of_getElem? (i := 657) (by decide +kernel), List.mem_of_getElem? (i := 808) (by decide +kernel), List.mem_of_getElem? (i := 809) (by decide +kernel)⟩
theorem lw_p49 : lw_okq (⟨"NoBetweensModel", "takes", "(Z)I"⟩, 39) := ⟨⟨by decide +kernel, by decide +kernel⟩, List.mem_of_getElem? (i := 657) (by decide +kernel), List.mem_of_getElem? (i := 812) (by decide +kernel), List.mem_of_getElem? (i := 813) (by decide +kernel)⟩
theorem lw_p50 : lw_okq (⟨"NoBetweensModel", "readsItem", "(I)V"⟩, 39) := ⟨⟨by decide +kernel, by decide +kernel⟩, List.mem_of_getElem? (i := 657) (by decide +kernel), List.mem_of_getElem? (i := 816) (by decide +kernel), List.mem_of_getElem? (i := 817) (by decide +kernel)⟩
theorem lw_p51 : lw_okq (⟨"NoBetweensModel", "number", "(II)I"⟩, 39) := ⟨⟨by decide +kernel, by decide +kernel⟩, List.mem_of_getElem? (i := 657) (by decide +kernel), List.mem_of_getElem? (i := 820) (by decide +kernel), List.mem_of_getElem? (i := 821) (by decide +kernel)⟩
theorem lw_p52 : lw_okq (⟨"NoBetweensModel", "settles", "()V"⟩, 39) := ⟨⟨by decide +kernel, by decide +kernel⟩, List.mem_of_getElem? (i := 657) (by decide +kernel), List.mem_of_getElem? (i := 824) (by decide +kernel), List.mem_of_getElem? (i := 825) (by decide +kernel)⟩
theorem lw_p53 : lw_okq (⟨"NoBetweensModel", "isScale", "(I)Z"⟩, 39) := ⟨⟨by decide +kernel, by decide +kernel⟩, List.mem_of_getElem? (i := 657) (by decide +kernel), List.mem_of_getElem? (i := 832) (by decide +kernel), List.mem_of_getElem? (i := 833) (by decide +kernel)⟩
theorem lw_p54 : lw_okq (⟨"NoBetweensModel", "isLife", "(I)Z"⟩, 39) := ⟨⟨by decide +kernel, by decide +kernel⟩, List.mem_of_getElem? (i := 657) (by decide +kernel), List.mem_of_getElem? (i := 840) (by decide +kernel), List.mem_of_getElem? (i := 841) (by decide +kernel)⟩
theorem lw_p55 : lw_okq (⟨"NoBetweensModel", "endIn", "([III)I"⟩, 39) := ⟨⟨by decide +kernel, by decide +kernel⟩, List.mem_of_getElem? (i := 657) (by decide +kernel), List.mem_of_getElem? (i := 844) (by decide +kernel), List.mem_of_getElem? (i := 845) (by decide +kernel)⟩
theorem lw_p56 : lw_okq (⟨"NoBetweensModel", "endOf", "([III)I"⟩, 39) := ⟨⟨by decide +kernel, by decide +kernel⟩, List.mem_of_getElem? (i := 657) (by decide +kernel), List.mem_of_getElem? (i := 848) (by decide +kernel), List.mem_of_getElem? (i := 849) (by decide +kernel)⟩
theorem lw_p57 : lw_okq (⟨"NoBetweensModel", "isPlace", "(I)Z"⟩, 39) := ⟨⟨by decide +kernel, by decide +kernel⟩, List.mem_of_getElem? (i := 657) (by decide +kernel), List.mem_of_getElem? (i := 863) (by decide +kernel), List.mem_of_getElem? (i := 864) (by decide +kernel)⟩
theorem lw_p58 : lw_okq (⟨"NoBetweensModel", "notes", "()V"⟩, 39) := ⟨⟨by decide +kernel, by decide +kernel⟩, List.mem_of_getElem? (i := 657) (by decide +kernel), List.mem_of_getElem? (i := 871) (by decide +kernel), List.mem_of_getElem? (i := 872) (by decide +kernel)⟩
theorem lw_p59 : lw_okq (⟨"NoBetweensModel", "goes", "([I)V"⟩, 39) := ⟨⟨by decide +kernel, by decide +kernel⟩, List.mem_of_getElem? (i := 657) (by decide +kernel), List.mem_of_getElem? (i := 875) (by decide +kernel), List.mem_of_getElem? (i := 876) (by decide +kernel)⟩
theorem lw_p60 : lw_okq (⟨"NoBetweensModel", "isLaw", "(III)Z"⟩, 39) := ⟨⟨by decide +kernel, by decide +kernel⟩, List.mem_of_getElem? (i := 657) (by decide +kernel), List.mem_of_getElem? (i := 890) (by decide +kernel), List.mem_of_getElem? (i := 891) (by decide +kernel)⟩
theorem lw_p61 : lw_okq (⟨"NoBetweensModel", "unlawful", "([I)I"⟩, 39) := ⟨⟨by decide +kernel, by decide +kernel⟩, List.mem_of_getElem? (i := 657) (by decide +kernel), List.mem_of_getElem? (i := 894) (by decide +kernel), List.mem_of_getElem? (i := 895) (by decide +kernel)⟩
theorem lw_p62 : lw_okq (⟨"NoBetweensModel", "unlawfulOn", "([II)I"⟩, 39) := ⟨⟨by decide +kernel, by decide +kernel⟩, List.mem_of_getElem? (i := 657) (by decide +kernel), List.mem_of_getElem? (i := 898) (by decide +kernel), List.mem_of_getElem? (i := 899) (by decide +kernel)⟩
theorem lw_p63 : lw_okq (⟨"NoBetweensModel", "inDrawer", "()I"⟩, 39) := ⟨⟨by decide +kernel, by decide +kernel⟩, List.mem_of_getElem? (i := 657) (by decide +kernel), List.mem_of_getElem? (i := 913) (by decide +kernel), List.mem_of_getElem? (i := 914) (by decide +kernel)⟩
def lw_privs_4 : List (MethodName × Nat) := [(⟨"NoBetweensModel", "mayBegin", "()Z"⟩, 39), (⟨"NoBetweensModel", "takes", "(Z)I"⟩, 39), (⟨"NoBetweensModel", "readsItem", "(I)V"⟩, 39), (⟨"NoBetweensModel", "number", "(II)I"⟩, 39), (⟨"NoBetweensModel", "settles", "()V"⟩, 39), (⟨"NoBetweensModel", "isScale", "(I)Z"⟩, 39), (⟨"NoBetweensModel", "isLife", "(I)Z"⟩, 39), (⟨"NoBetweensModel", "endIn", "([III)I"⟩, 39), (⟨"NoBetweensModel", "endOf", "([III)I"⟩, 39), (⟨"NoBetweensModel", "isPlace", "(I)Z"⟩, 39), (⟨"NoBetweensModel", "notes", "()V"⟩, 39), (⟨"NoBetweensModel", "goes", "([I)V"⟩, 39), (⟨"NoBetweensModel", "isLaw", "(III)Z"⟩, 39), (⟨"NoBetweensModel", "unlawful", "([I)I"⟩, 39), (⟨"NoBetweensModel", "unlawfulOn", "([II)I"⟩, 39), (⟨"NoBetweensModel", "inDrawer", "()I"⟩, 39)]
theorem lw_r4 : ∀ q ∈ lw_privs_4, lw_okq q := List.forall_mem_cons.mpr ⟨lw_p48, List.forall_mem_cons.mpr ⟨lw_p49, List.forall_mem_cons.mpr ⟨lw_p50, List.forall_mem_cons.mpr ⟨lw_p51, List.forall_mem_cons.mpr ⟨lw_p52, List.forall_mem_cons.mpr ⟨lw_p53, List.forall_mem_cons.mpr ⟨lw_p54, List.forall_mem_cons.mpr ⟨lw_p55, List.forall_mem_cons.mpr ⟨lw_p56, List.forall_mem_cons.mpr ⟨lw_p57, List.forall_mem_cons.mpr ⟨lw_p58, List.forall_mem_cons.mpr ⟨lw_p59, List.forall_mem_cons.mpr ⟨lw_p60, List.forall_mem_cons.mpr ⟨lw_p61, List.forall_mem_cons.mpr ⟨lw_p62, List.forall_mem_cons.mpr ⟨lw_p63, fun _ h => absurd h List.not_mem_nil⟩⟩⟩⟩⟩⟩⟩⟩⟩⟩⟩⟩⟩⟩⟩⟩
theorem lw_p64 : lw_okq (⟨"NoBetweensModel", "countEnds", "(II)I"⟩, 39) := ⟨⟨by decide +kernel, by decide +kernel⟩, List.mem_of_getElem? (i := 657) (by decide +kernel), List.mem_of_getElem? (i := 917) (by decide +kernel), List.mem_of_getElem? (i := 918) (by decide +kernel)⟩
theorem lw_p65 : lw_okq (⟨"NoBetweensModel", "asNow", "()V"⟩, 39) := ⟨⟨by decide +kernel, by decide +kernel⟩, List.mem_of_getElem? (i := 657) (by decide +kernel), List.mem_of_getElem? (i := 925) (by decide +kernel), List.mem_of_getElem? (i := 926) (by decide +kernel)⟩
theorem lw_p66 : lw_okq (⟨"NoBetweensModel", "unlawfulYears", "()I"⟩, 39) := ⟨⟨by decide +kernel, by decide +kernel⟩, List.mem_of_getElem? (i := 657) (by decide +kernel), List.mem_of_getElem? (i := 938) (by decide +kernel), List.mem_of_getElem? (i := 939) (by decide +kernel)⟩
theorem lw_p67 : lw_okq (⟨"NoBetweensModel", "jumpsOn", "(II)I"⟩, 39) := ⟨⟨by decide +kernel, by decide +kernel⟩, List.mem_of_getElem? (i := 657) (by decide +kernel), List.mem_of_getElem? (i := 946) (by decide +kernel), List.mem_of_getElem? (i := 947) (by decide +kernel)⟩
theorem lw_p68 : lw_okq (⟨"NoBetweensModel", "ordersOf", "(II)I"⟩, 39) := ⟨⟨by decide +kernel, by decide +kernel⟩, List.mem_of_getElem? (i := 657) (by decide +kernel), List.mem_of_getElem? (i := 962) (by decide +kernel), List.mem_of_getElem? (i := 963) (by decide +kernel)⟩
theorem lw_p69 : lw_okq (⟨"NoBetweensModel", "isOrder", "(IIII)Z"⟩, 39) := ⟨⟨by decide +kernel, by decide +kernel⟩, List.mem_of_getElem? (i := 657) (by decide +kernel), List.mem_of_getElem? (i := 966) (by decide +kernel), List.mem_of_getElem? (i := 967) (by decide +kernel)⟩
theorem lw_p70 : lw_okq (⟨"NoBetweensModel", "measures", "(II)V"⟩, 39) := ⟨⟨by decide +kernel, by decide +kernel⟩, List.mem_of_getElem? (i := 657) (by decide +kernel), List.mem_of_getElem? (i := 978) (by decide +kernel), List.mem_of_getElem? (i := 979) (by decide +kernel)⟩
theorem lw_p71 : lw_okq (⟨"NoBetweensModel", "canJump", "(III)Z"⟩, 39) := ⟨⟨by decide +kernel, by decide +kernel⟩, List.mem_of_getElem? (i := 657) (by decide +kernel), List.mem_of_getElem? (i := 982) (by decide +kernel), List.mem_of_getElem? (i := 983) (by decide +kernel)⟩
theorem lw_p72 : lw_okq (⟨"NoBetweensModel", "shares", "(II)V"⟩, 39) := ⟨⟨by decide +kernel, by decide +kernel⟩, List.mem_of_getElem? (i := 657) (by decide +kernel), List.mem_of_getElem? (i := 990) (by decide +kernel), List.mem_of_getElem? (i := 991) (by decide +kernel)⟩
theorem lw_p73 : lw_okq (⟨"NoBetweensModel", "isPart", "(II)Z"⟩, 39) := ⟨⟨by decide +kernel, by decide +kernel⟩, List.mem_of_getElem? (i := 657) (by decide +kernel), List.mem_of_getElem? (i := 994) (by decide +kernel), List.mem_of_getElem? (i := 995) (by decide +kernel)⟩
theorem lw_p74 : lw_okq (⟨"NoBetweensModel", "isAsBooked", "(III)Z"⟩, 39) := ⟨⟨by decide +kernel, by decide +kernel⟩, List.mem_of_getElem? (i := 657) (by decide +kernel), List.mem_of_getElem? (i := 1010) (by decide +kernel), List.mem_of_getElem? (i := 1011) (by decide +kernel)⟩
theorem lw_p75 : lw_okq (⟨"NoBetweensModel", "endBehind", "(IIII)I"⟩, 39) := ⟨⟨by decide +kernel, by decide +kernel⟩, List.mem_of_getElem? (i := 657) (by decide +kernel), List.mem_of_getElem? (i := 1014) (by decide +kernel), List.mem_of_getElem? (i := 1015) (by decide +kernel)⟩
theorem lw_p76 : lw_okq (⟨"NoBetweensModel", "isClash", "(II)Z"⟩, 39) := ⟨⟨by decide +kernel, by decide +kernel⟩, List.mem_of_getElem? (i := 657) (by decide +kernel), List.mem_of_getElem? (i := 1026) (by decide +kernel), List.mem_of_getElem? (i := 1027) (by decide +kernel)⟩
def lw_privs_5 : List (MethodName × Nat) := [(⟨"NoBetweensModel", "countEnds", "(II)I"⟩, 39), (⟨"NoBetweensModel", "asNow", "()V"⟩, 39), (⟨"NoBetweensModel", "unlawfulYears", "()I"⟩, 39), (⟨"NoBetweensModel", "jumpsOn", "(II)I"⟩, 39), (⟨"NoBetweensModel", "ordersOf", "(II)I"⟩, 39), (⟨"NoBetweensModel", "isOrder", "(IIII)Z"⟩, 39), (⟨"NoBetweensModel", "measures", "(II)V"⟩, 39), (⟨"NoBetweensModel", "canJump", "(III)Z"⟩, 39), (⟨"NoBetweensModel", "shares", "(II)V"⟩, 39), (⟨"NoBetweensModel", "isPart", "(II)Z"⟩, 39), (⟨"NoBetweensModel", "isAsBooked", "(III)Z"⟩, 39), (⟨"NoBetweensModel", "endBehind", "(IIII)I"⟩, 39), (⟨"NoBetweensModel", "isClash", "(II)Z"⟩, 39)]
theorem lw_r5 : ∀ q ∈ lw_privs_5, lw_okq q := List.forall_mem_cons.mpr ⟨lw_p64, List.forall_mem_cons.mpr ⟨lw_p65, List.forall_mem_cons.mpr ⟨lw_p66, List.forall_mem_cons.mpr ⟨lw_p67, List.forall_mem_cons.mpr ⟨lw_p68, List.forall_mem_cons.mpr ⟨lw_p69, List.forall_mem_cons.mpr ⟨lw_p70, List.forall_mem_cons.mpr ⟨lw_p71, List.forall_mem_cons.mpr ⟨lw_p72, List.forall_mem_cons.mpr ⟨lw_p73, List.forall_mem_cons.mpr ⟨lw_p74, List.forall_mem_cons.mpr ⟨lw_p75, List.forall_mem_cons.mpr ⟨lw_p76, fun _ h => absurd h List.not_mem_nil⟩⟩⟩⟩⟩⟩⟩⟩⟩⟩⟩⟩⟩
def lw_privs : List (MethodName × Nat) := lw_privs_1 ++ (lw_privs_2 ++ (lw_privs_3 ++ (lw_privs_4 ++ (lw_privs_5))))
def lw_tbl : List Cond := k2_sels lw_privs ++ tables_1
theorem lw_privs_ok : ∀ q ∈ lw_privs, lw_okq q := by
  show ∀ q ∈ lw_privs_1 ++ (lw_privs_2 ++ (lw_privs_3 ++ (lw_privs_4 ++ (lw_privs_5)))), lw_okq q
  exact List.forall_mem_append.mpr ⟨lw_r1, List.forall_mem_append.mpr ⟨lw_r2, List.forall_mem_append.mpr ⟨lw_r3, List.forall_mem_append.mpr ⟨lw_r4, lw_r5⟩⟩⟩⟩
-- ===== end of PART A; then your names; then what follows =====
/-! ===== BEGIN words of one list among another's, by their places ===== -/
theorem goodIn_r {big : List Cond} (ws : List Cond) (ps : List Nat) (hp : ws = ps.filterMap (fun i => big[i]?)) (h : ws.all goodWord = true) : GoodIn big ws := by
  intro w hw
  have h1 := List.all_eq_true.mp h w hw
  rw [hp] at hw
  obtain ⟨i, -, hi⟩ := List.mem_filterMap.mp hw
  have hm : w ∈ big := by first | exact List.mem_of_getElem? hi | exact List.getElem?_mem hi
  exact ⟨hm, good_of_word h1⟩
theorem goodIn_app {big a b : List Cond} (ha : GoodIn big a) (hb : GoodIn big b) : GoodIn big (a ++ b) := fun w h => (List.mem_append.mp h).elim (ha w) (hb w)
theorem goodIn_ca {big a b : List Cond} {c : Cond} (ha : GoodIn big (c :: a)) (hb : GoodIn big b) : GoodIn big (c :: (a ++ b)) := fun w h => (List.mem_cons.mp h).elim (fun e => ha w (List.mem_cons.mpr (Or.inl e))) (fun h => (List.mem_append.mp h).elim (fun h => ha w (List.mem_cons.mpr (Or.inr h))) (hb w))
theorem goodIn_sub {big ws : List Cond} (hm : ∀ w ∈ ws, w ∈ big) (h : ws.all goodWord = true) : GoodIn big ws := fun w hw => ⟨hm w hw, good_of_word (List.all_eq_true.mp h w hw)⟩
/-! ===== END ===== -/

/-! ===== BEGIN printed: names, fields, word lists, decode rows ===== -/
def RX0 : String := "NoBetweens$Agenda"
def TX0 : u_T := fun k => match k with
  | 0 => ("NoBetweens$Agenda", "size", "I", false)
  | 1 => ("NoBetweens$Agenda", "scales", "[I", true)
  | 2 => ("NoBetweens$Agenda", "bys", "[I", true)
  | 3 => ("NoBetweens$Agenda", "order", "[I", true)
  | 4 => ("NoBetweens$Agenda", "firstOrder", "[I", true)
  | _ => ("NoBetweens$Agenda", "values", "[I", true)
def tyX0 : Nat → FieldType := fun k => match k with
  | 0 => .int
  | 1 => .array .int
  | 2 => .array .int
  | 3 => .array .int
  | 4 => .array .int
  | _ => .array .int
abbrev wsX00 : List Cond := u_ws RX0 TX0 6
theorem nmX0 : ∀ a, a < 6 → ∀ b, b < 6 → a ≠ b → (TX0 a).2.1 ≠ (TX0 b).2.1 := by decide +kernel
theorem tyX0_ok : ∀ k, k < 6 → parseFieldDescriptor (TX0 k).2.2.1 = some (tyX0 k) := by decide +kernel
abbrev cX0_init : ByteArray := prog_2_method_1_code
def yX0_init : MethodName := ⟨RX0, "<init>", "()V"⟩
abbrev cX0_adds : ByteArray := prog_2_method_2_code
def yX0_adds : MethodName := ⟨RX0, "adds", "(II)Z"⟩
abbrev cX0_keepsAsFirst : ByteArray := prog_2_method_3_code
def yX0_keepsAsFirst : MethodName := ⟨RX0, "keepsAsFirst", "()V"⟩
abbrev cX0_startsOrders : ByteArray := prog_2_method_4_code
def yX0_startsOrders : MethodName := ⟨RX0, "startsOrders", "(I)I"⟩
abbrev cX0_goesToNextOrder : ByteArray := prog_2_method_5_code
def yX0_goesToNextOrder : MethodName := ⟨RX0, "goesToNextOrder", "(I)Z"⟩
abbrev cX0_lastRising : ByteArray := prog_2_method_6_code
def yX0_lastRising : MethodName := ⟨RX0, "lastRising", "(I)I"⟩
abbrev cX0_lastAbove : ByteArray := prog_2_method_7_code
def yX0_lastAbove : MethodName := ⟨RX0, "lastAbove", "(II)I"⟩
abbrev cX0_swaps : ByteArray := prog_2_method_8_code
def yX0_swaps : MethodName := ⟨RX0, "swaps", "(II)V"⟩
def RX1 : String := "NoBetweens$Land"
def TX1 : u_T := fun k => match k with
  | 0 => ("NoBetweens$Land", "scales", "I", false)
  | 1 => ("NoBetweens$Land", "lives", "I", false)
  | 2 => ("NoBetweens$Land", "places", "I", false)
  | 3 => ("NoBetweens$Land", "drawer", "I", false)
  | 4 => ("NoBetweens$Land", "ranges", "[I", true)
  | 5 => ("NoBetweens$Land", "steps", "[I", true)
  | _ => ("NoBetweens$Land", "spots", "[I", true)
def tyX1 : Nat → FieldType := fun k => match k with
  | 0 => .int
  | 1 => .int
  | 2 => .int
  | 3 => .int
  | 4 => .array .int
  | 5 => .array .int
  | _ => .array .int
abbrev wsX10 : List Cond := u_ws RX1 TX1 7
theorem nmX1 : ∀ a, a < 7 → ∀ b, b < 7 → a ≠ b → (TX1 a).2.1 ≠ (TX1 b).2.1 := by decide +kernel
theorem tyX1_ok : ∀ k, k < 7 → parseFieldDescriptor (TX1 k).2.2.1 = some (tyX1 k) := by decide +kernel
abbrev cX1_init : ByteArray := prog_3_method_1_code
def yX1_init : MethodName := ⟨RX1, "<init>", "()V"⟩
abbrev cX1_empties : ByteArray := prog_3_method_2_code
def yX1_empties : MethodName := ⟨RX1, "empties", "()V"⟩
abbrev cX1_becomes : ByteArray := prog_3_method_3_code
def yX1_becomes : MethodName := ⟨RX1, "becomes", "(LNoBetweens$Land;)V"⟩
abbrev cX1_hasScale : ByteArray := prog_3_method_4_code
def yX1_hasScale : MethodName := ⟨RX1, "hasScale", "(I)Z"⟩
abbrev cX1_hasLife : ByteArray := prog_3_method_5_code
def yX1_hasLife : MethodName := ⟨RX1, "hasLife", "(I)Z"⟩
abbrev cX1_hasPlace : ByteArray := prog_3_method_6_code
def yX1_hasPlace : MethodName := ⟨RX1, "hasPlace", "(I)Z"⟩
def RX2 : String := "NoBetweens$Moment"
def TX2 : u_T := fun k => match k with
  | 0 => ("NoBetweens$Moment", "year", "I", false)
  | 1 => ("NoBetweens$Moment", "jumps", "I", false)
  | 2 => ("NoBetweens$Moment", "values", "[I", true)
  | 3 => ("NoBetweens$Moment", "laws", "[I", true)
  | _ => ("NoBetweens$Moment", "marks", "[I", true)
def tyX2 : Nat → FieldType := fun k => match k with
  | 0 => .int
  | 1 => .int
  | 2 => .array .int
  | 3 => .array .int
  | _ => .array .int
abbrev wsX20 : List Cond := u_ws RX2 TX2 5
theorem nmX2 : ∀ a, a < 5 → ∀ b, b < 5 → a ≠ b → (TX2 a).2.1 ≠ (TX2 b).2.1 := by decide +kernel
theorem tyX2_ok : ∀ k, k < 5 → parseFieldDescriptor (TX2 k).2.2.1 = some (tyX2 k) := by decide +kernel
abbrev cX2_init : ByteArray := prog_4_method_1_code
def yX2_init : MethodName := ⟨RX2, "<init>", "()V"⟩
abbrev cX2_becomes : ByteArray := prog_4_method_2_code
def yX2_becomes : MethodName := ⟨RX2, "becomes", "(LNoBetweens$Moment;)V"⟩
def RX3 : String := "NoBetweens$Past"
def TX3 : u_T := fun k => match k with
  | 0 => ("NoBetweens$Past", "known", "I", false)
  | 1 => ("NoBetweens$Past", "next", "I", false)
  | _ => ("NoBetweens$Past", "ring", "[LNoBetweens$Moment;", true)
def tyX3 : Nat → FieldType := fun k => match k with
  | 0 => .int
  | 1 => .int
  | _ => .array (.object "NoBetweens$Moment")
abbrev wsX30 : List Cond := u_ws RX3 TX3 3
theorem nmX3 : ∀ a, a < 3 → ∀ b, b < 3 → a ≠ b → (TX3 a).2.1 ≠ (TX3 b).2.1 := by decide +kernel
theorem tyX3_ok : ∀ k, k < 3 → parseFieldDescriptor (TX3 k).2.2.1 = some (tyX3 k) := by decide +kernel
abbrev cX3_init : ByteArray := prog_5_method_1_code
def yX3_init : MethodName := ⟨RX3, "<init>", "()V"⟩
abbrev cX3_remembers : ByteArray := prog_5_method_2_code
def yX3_remembers : MethodName := ⟨RX3, "remembers", "(LNoBetweens$Moment;)V"⟩
abbrev cX3_givesBack : ByteArray := prog_5_method_3_code
def yX3_givesBack : MethodName := ⟨RX3, "givesBack", "(LNoBetweens$Moment;)Z"⟩
def RX4 : String := "NoBetweens$Register"
def TX4 : u_T := fun k => match k with
  | 0 => ("NoBetweens$Register", "size", "I", false)
  | 1 => ("NoBetweens$Register", "scales", "[I", true)
  | 2 => ("NoBetweens$Register", "years", "[I", true)
  | _ => ("NoBetweens$Register", "ends", "[I", true)
def tyX4 : Nat → FieldType := fun k => match k with
  | 0 => .int
  | 1 => .array .int
  | 2 => .array .int
  | _ => .array .int
abbrev wsX40 : List Cond := u_ws RX4 TX4 4
theorem nmX4 : ∀ a, a < 4 → ∀ b, b < 4 → a ≠ b → (TX4 a).2.1 ≠ (TX4 b).2.1 := by decide +kernel
theorem tyX4_ok : ∀ k, k < 4 → parseFieldDescriptor (TX4 k).2.2.1 = some (tyX4 k) := by decide +kernel
abbrev cX4_init : ByteArray := prog_6_method_1_code
def yX4_init : MethodName := ⟨RX4, "<init>", "()V"⟩
abbrev cX4_adds : ByteArray := prog_6_method_2_code
def yX4_adds : MethodName := ⟨RX4, "adds", "(III)Z"⟩
def RX5 : String := "NoBetweens$Text"
def TX5 : u_T := fun k => match k with
  | 0 => ("NoBetweens$Text", "length", "I", false)
  | 1 => ("NoBetweens$Text", "land", "LNoBetweens$Land;", true)
  | 2 => ("NoBetweens$Text", "moment", "LNoBetweens$Moment;", true)
  | 3 => ("NoBetweens$Text", "letters", "[I", true)
  | 4 => ("NoBetweens$Text", "tokens", "[I", true)
  | 5 => ("NoBetweens$Text", "starts", "[I", true)
  | 6 => ("NoBetweens$Text", "next", "I", false)
  | 7 => ("NoBetweens$Text", "items", "I", false)
  | 8 => ("NoBetweens$Text", "fault", "I", false)
  | _ => ("NoBetweens$Text", "drawerTold", "Z", false)
def tyX5 : Nat → FieldType := fun k => match k with
  | 0 => .int
  | 1 => .object "NoBetweens$Land"
  | 2 => .object "NoBetweens$Moment"
  | 3 => .array .int
  | 4 => .array .int
  | 5 => .array .int
  | 6 => .int
  | 7 => .int
  | 8 => .int
  | _ => .boolean
abbrev wsX50 : List Cond := u_ws RX5 TX5 10
theorem nmX5 : ∀ a, a < 10 → ∀ b, b < 10 → a ≠ b → (TX5 a).2.1 ≠ (TX5 b).2.1 := by decide +kernel
theorem tyX5_ok : ∀ k, k < 10 → parseFieldDescriptor (TX5 k).2.2.1 = some (tyX5 k) := by decide +kernel
abbrev cX5_init : ByteArray := prog_7_method_1_code
def yX5_init : MethodName := ⟨RX5, "<init>", "()V"⟩
abbrev cX5_adds : ByteArray := prog_7_method_2_code
def yX5_adds : MethodName := ⟨RX5, "adds", "(I)Z"⟩
abbrev cX5_reads : ByteArray := prog_7_method_3_code
def yX5_reads : MethodName := ⟨RX5, "reads", "()I"⟩
abbrev cX5_splitsIntoTokens : ByteArray := prog_7_method_4_code
def yX5_splitsIntoTokens : MethodName := ⟨RX5, "splitsIntoTokens", "()V"⟩
abbrev cX5_startsToken : ByteArray := prog_7_method_5_code
def yX5_startsToken : MethodName := ⟨RX5, "startsToken", "(I)Z"⟩
abbrev cX5_tokenFrom : ByteArray := prog_7_method_6_code
def yX5_tokenFrom : MethodName := ⟨RX5, "tokenFrom", "(I)I"⟩
abbrev cX5_numberFrom : ByteArray := prog_7_method_7_code
def yX5_numberFrom : MethodName := ⟨RX5, "numberFrom", "(I)I"⟩
abbrev cX5_isDigit : ByteArray := prog_7_method_8_code
def yX5_isDigit : MethodName := ⟨RX5, "isDigit", "(I)Z"⟩
abbrev cX5_readsItem : ByteArray := prog_7_method_9_code
def yX5_readsItem : MethodName := ⟨RX5, "readsItem", "()V"⟩
abbrev cX5_mayBegin : ByteArray := prog_7_method_10_code
def yX5_mayBegin : MethodName := ⟨RX5, "mayBegin", "(I)Z"⟩
abbrev cX5_readsScale : ByteArray := prog_7_method_11_code
def yX5_readsScale : MethodName := ⟨RX5, "readsScale", "()V"⟩
abbrev cX5_readsLife : ByteArray := prog_7_method_12_code
def yX5_readsLife : MethodName := ⟨RX5, "readsLife", "()V"⟩
abbrev cX5_takesNumber : ByteArray := prog_7_method_13_code
def yX5_takesNumber : MethodName := ⟨RX5, "takesNumber", "(II)I"⟩
abbrev cX5_takesSemicolon : ByteArray := prog_7_method_14_code
def yX5_takesSemicolon : MethodName := ⟨RX5, "takesSemicolon", "()V"⟩
abbrev cX5_takes : ByteArray := prog_7_method_15_code
def yX5_takes : MethodName := ⟨RX5, "takes", "(Z)V"⟩
def RX6 : String := "NoBetweens"
def TX6 : u_T := fun k => match k with
  | 0 => ("NoBetweens", "text", "LNoBetweens$Text;", true)
  | 1 => ("NoBetweens", "told", "LNoBetweens$Land;", true)
  | 2 => ("NoBetweens", "present", "LNoBetweens$Moment;", true)
  | 3 => ("NoBetweens", "past", "LNoBetweens$Past;", true)
  | 4 => ("NoBetweens", "images", "[LNoBetweens$Moment;", true)
  | 5 => ("NoBetweens", "kept", "[Z", true)
  | 6 => ("NoBetweens", "agenda", "LNoBetweens$Agenda;", true)
  | 7 => ("NoBetweens", "register", "LNoBetweens$Register;", true)
  | 8 => ("NoBetweens", "jumpsToGo", "[I", true)
  | 9 => ("NoBetweens", "fewestParts", "[I", true)
  | _ => ("NoBetweens", "traced", "J", false)
def tyX6 : Nat → FieldType := fun k => match k with
  | 0 => .object "NoBetweens$Text"
  | 1 => .object "NoBetweens$Land"
  | 2 => .object "NoBetweens$Moment"
  | 3 => .object "NoBetweens$Past"
  | 4 => .array (.object "NoBetweens$Moment")
  | 5 => .array .boolean
  | 6 => .object "NoBetweens$Agenda"
  | 7 => .object "NoBetweens$Register"
  | 8 => .array .int
  | 9 => .array .int
  | _ => .long
abbrev wsX60 : List Cond := u_ws RX6 TX6 11
theorem nmX6 : ∀ a, a < 11 → ∀ b, b < 11 → a ≠ b → (TX6 a).2.1 ≠ (TX6 b).2.1 := by decide +kernel
theorem tyX6_ok : ∀ k, k < 11 → parseFieldDescriptor (TX6 k).2.2.1 = some (tyX6 k) := by decide +kernel
abbrev cX6_init : ByteArray := prog_1_method_1_code
def yX6_init : MethodName := ⟨RX6, "<init>", "()V"⟩
abbrev cX6_type : ByteArray := prog_1_method_2_code
def yX6_type : MethodName := ⟨RX6, "type", "(I)I"⟩
abbrev cX6_clear : ByteArray := prog_1_method_3_code
def yX6_clear : MethodName := ⟨RX6, "clear", "()I"⟩
abbrev cX6_land : ByteArray := prog_1_method_4_code
def yX6_land : MethodName := ⟨RX6, "land", "()I"⟩
abbrev cX6_scale : ByteArray := prog_1_method_5_code
def yX6_scale : MethodName := ⟨RX6, "scale", "(II)I"⟩
abbrev cX6_life : ByteArray := prog_1_method_6_code
def yX6_life : MethodName := ⟨RX6, "life", "(III)I"⟩
abbrev cX6_end : ByteArray := prog_1_method_7_code
def yX6_end : MethodName := ⟨RX6, "end", "(II)I"⟩
abbrev cX6_place : ByteArray := prog_1_method_8_code
def yX6_place : MethodName := ⟨RX6, "place", "(I)I"⟩
abbrev cX6_passes : ByteArray := prog_1_method_9_code
def yX6_passes : MethodName := ⟨RX6, "passes", "(I)I"⟩
abbrev cX6_changes : ByteArray := prog_1_method_10_code
def yX6_changes : MethodName := ⟨RX6, "changes", "(III)I"⟩
abbrev cX6_law : ByteArray := prog_1_method_11_code
def yX6_law : MethodName := ⟨RX6, "law", "(III)I"⟩
abbrev cX6_undo : ByteArray := prog_1_method_12_code
def yX6_undo : MethodName := ⟨RX6, "undo", "()I"⟩
abbrev cX6_now : ByteArray := prog_1_method_13_code
def yX6_now : MethodName := ⟨RX6, "now", "(I)I"⟩
abbrev cX6_behind : ByteArray := prog_1_method_14_code
def yX6_behind : MethodName := ⟨RX6, "behind", "(III)I"⟩
abbrev cX6_first : ByteArray := prog_1_method_15_code
def yX6_first : MethodName := ⟨RX6, "first", "(II)I"⟩
abbrev cX6_freed : ByteArray := prog_1_method_16_code
def yX6_freed : MethodName := ⟨RX6, "freed", "(III)I"⟩
abbrev cX6_bestJump : ByteArray := prog_1_method_17_code
def yX6_bestJump : MethodName := ⟨RX6, "bestJump", "(II)I"⟩
abbrev cX6_plans : ByteArray := prog_1_method_18_code
def yX6_plans : MethodName := ⟨RX6, "plans", "(II)I"⟩
abbrev cX6_drop : ByteArray := prog_1_method_19_code
def yX6_drop : MethodName := ⟨RX6, "drop", "()I"⟩
abbrev cX6_orders : ByteArray := prog_1_method_20_code
def yX6_orders : MethodName := ⟨RX6, "orders", "(II)I"⟩
abbrev cX6_bars : ByteArray := prog_1_method_21_code
def yX6_bars : MethodName := ⟨RX6, "bars", "(I)I"⟩
abbrev cX6_trip : ByteArray := prog_1_method_22_code
def yX6_trip : MethodName := ⟨RX6, "trip", "(IIII)I"⟩
abbrev cX6_parts : ByteArray := prog_1_method_23_code
def yX6_parts : MethodName := ⟨RX6, "parts", "(III)I"⟩
abbrev cX6_books : ByteArray := prog_1_method_24_code
def yX6_books : MethodName := ⟨RX6, "books", "(III)I"⟩
abbrev cX6_burn : ByteArray := prog_1_method_25_code
def yX6_burn : MethodName := ⟨RX6, "burn", "()I"⟩
abbrev cX6_fits : ByteArray := prog_1_method_26_code
def yX6_fits : MethodName := ⟨RX6, "fits", "(I)I"⟩
abbrev cX6_sure : ByteArray := prog_1_method_27_code
def yX6_sure : MethodName := ⟨RX6, "sure", "(II)I"⟩
abbrev cX6_clash : ByteArray := prog_1_method_28_code
def yX6_clash : MethodName := ⟨RX6, "clash", "()I"⟩
abbrev cX6_rate : ByteArray := prog_1_method_29_code
def yX6_rate : MethodName := ⟨RX6, "rate", "(II)I"⟩
abbrev cX6_keep : ByteArray := prog_1_method_30_code
def yX6_keep : MethodName := ⟨RX6, "keep", "(I)I"⟩
abbrev cX6_back : ByteArray := prog_1_method_31_code
def yX6_back : MethodName := ⟨RX6, "back", "(I)I"⟩
abbrev cX6_count : ByteArray := prog_1_method_32_code
def yX6_count : MethodName := ⟨RX6, "count", "(I)I"⟩
abbrev cX6_trace : ByteArray := prog_1_method_33_code
def yX6_trace : MethodName := ⟨RX6, "trace", "()J"⟩
abbrev cX6_within : ByteArray := prog_1_method_34_code
def yX6_within : MethodName := ⟨RX6, "within", "(III)Z"⟩
abbrev cX6_moved : ByteArray := prog_1_method_35_code
def yX6_moved : MethodName := ⟨RX6, "moved", "(III)I"⟩
abbrev cX6_cell : ByteArray := prog_1_method_36_code
def yX6_cell : MethodName := ⟨RX6, "cell", "(II)I"⟩
abbrev cX6_endBy : ByteArray := prog_1_method_37_code
def yX6_endBy : MethodName := ⟨RX6, "endBy", "(IIII)I"⟩
abbrev cX6_endOf : ByteArray := prog_1_method_38_code
def yX6_endOf : MethodName := ⟨RX6, "endOf", "(II)I"⟩
abbrev cX6_canBeLaw : ByteArray := prog_1_method_39_code
def yX6_canBeLaw : MethodName := ⟨RX6, "canBeLaw", "(III)Z"⟩
abbrev cX6_valueBehind : ByteArray := prog_1_method_40_code
def yX6_valueBehind : MethodName := ⟨RX6, "valueBehind", "(III)I"⟩
abbrev cX6_endBehind : ByteArray := prog_1_method_41_code
def yX6_endBehind : MethodName := ⟨RX6, "endBehind", "(III)I"⟩
abbrev cX6_unlawfulScale : ByteArray := prog_1_method_42_code
def yX6_unlawfulScale : MethodName := ⟨RX6, "unlawfulScale", "(II)I"⟩
abbrev cX6_unlawfulLives : ByteArray := prog_1_method_43_code
def yX6_unlawfulLives : MethodName := ⟨RX6, "unlawfulLives", "()I"⟩
abbrev cX6_scalesAt : ByteArray := prog_1_method_44_code
def yX6_scalesAt : MethodName := ⟨RX6, "scalesAt", "(II)I"⟩
abbrev cX6_inTheDrawer : ByteArray := prog_1_method_45_code
def yX6_inTheDrawer : MethodName := ⟨RX6, "inTheDrawer", "()I"⟩
abbrev cX6_goByOneYear : ByteArray := prog_1_method_46_code
def yX6_goByOneYear : MethodName := ⟨RX6, "goByOneYear", "()V"⟩
abbrev cX6_unlawfulYears : ByteArray := prog_1_method_47_code
def yX6_unlawfulYears : MethodName := ⟨RX6, "unlawfulYears", "(III)I"⟩
abbrev cX6_isUnlawfulBy : ByteArray := prog_1_method_48_code
def yX6_isUnlawfulBy : MethodName := ⟨RX6, "isUnlawfulBy", "(IIIII)Z"⟩
abbrev cX6_endChangesByJump : ByteArray := prog_1_method_49_code
def yX6_endChangesByJump : MethodName := ⟨RX6, "endChangesByJump", "(II)I"⟩
abbrev cX6_areOpposed : ByteArray := prog_1_method_50_code
def yX6_areOpposed : MethodName := ⟨RX6, "areOpposed", "(II)Z"⟩
abbrev cX6_lawfulOrders : ByteArray := prog_1_method_51_code
def yX6_lawfulOrders : MethodName := ⟨RX6, "lawfulOrders", "(II)I"⟩
abbrev cX6_staysLawful : ByteArray := prog_1_method_52_code
def yX6_staysLawful : MethodName := ⟨RX6, "staysLawful", "(II)Z"⟩
abbrev cX6_isUnlawfulMeanwhile : ByteArray := prog_1_method_53_code
def yX6_isUnlawfulMeanwhile : MethodName := ⟨RX6, "isUnlawfulMeanwhile", "()Z"⟩
abbrev cX6_canJump : ByteArray := prog_1_method_54_code
def yX6_canJump : MethodName := ⟨RX6, "canJump", "(III)Z"⟩
abbrev cX6_countJumpsTo : ByteArray := prog_1_method_55_code
def yX6_countJumpsTo : MethodName := ⟨RX6, "countJumpsTo", "(II)V"⟩
abbrev cX6_reachFrom : ByteArray := prog_1_method_56_code
def yX6_reachFrom : MethodName := ⟨RX6, "reachFrom", "(II)V"⟩
abbrev cX6_firstPlaceOnTheWay : ByteArray := prog_1_method_57_code
def yX6_firstPlaceOnTheWay : MethodName := ⟨RX6, "firstPlaceOnTheWay", "(II)I"⟩
abbrev cX6_fewestPartsOf : ByteArray := prog_1_method_58_code
def yX6_fewestPartsOf : MethodName := ⟨RX6, "fewestPartsOf", "(II)I"⟩
abbrev cX6_greatestPart : ByteArray := prog_1_method_59_code
def yX6_greatestPart : MethodName := ⟨RX6, "greatestPart", "(II)I"⟩
abbrev cX6_endInYear : ByteArray := prog_1_method_60_code
def yX6_endInYear : MethodName := ⟨RX6, "endInYear", "(IIII)I"⟩
abbrev cX6_agreesWithBooks : ByteArray := prog_1_method_61_code
def yX6_agreesWithBooks : MethodName := ⟨RX6, "agreesWithBooks", "(III)Z"⟩
abbrev cX6_rateAsLife : ByteArray := prog_1_method_62_code
def yX6_rateAsLife : MethodName := ⟨RX6, "rateAsLife", "(I)I"⟩
abbrev cX6_rateAsChild : ByteArray := prog_1_method_63_code
def yX6_rateAsChild : MethodName := ⟨RX6, "rateAsChild", "(I)I"⟩
abbrev cX6_rateAsFiance : ByteArray := prog_1_method_64_code
def yX6_rateAsFiance : MethodName := ⟨RX6, "rateAsFiance", "(I)I"⟩
abbrev cX6_rateAsThirdSon : ByteArray := prog_1_method_65_code
def yX6_rateAsThirdSon : MethodName := ⟨RX6, "rateAsThirdSon", "(I)I"⟩
abbrev cX6_rateAsWidow : ByteArray := prog_1_method_66_code
def yX6_rateAsWidow : MethodName := ⟨RX6, "rateAsWidow", "(I)I"⟩
abbrev cX6_rateAsSmuggler : ByteArray := prog_1_method_67_code
def yX6_rateAsSmuggler : MethodName := ⟨RX6, "rateAsSmuggler", "(I)I"⟩
def RX7 : String := "NoBetweensModel"
def TX7 : u_T := fun k => match k with
  | 0 => ("NoBetweensModel", "thrown", "I", false)
  | 1 => ("NoBetweensModel", "trace", "J", false)
  | 2 => ("NoBetweensModel", "text", "[I", true)
  | 3 => ("NoBetweensModel", "typed", "I", false)
  | 4 => ("NoBetweensModel", "next", "I", false)
  | 5 => ("NoBetweensModel", "token", "I", false)
  | 6 => ("NoBetweensModel", "place", "I", false)
  | 7 => ("NoBetweensModel", "value", "I", false)
  | 8 => ("NoBetweensModel", "fault", "I", false)
  | 9 => ("NoBetweensModel", "range", "[I", true)
  | 10 => ("NoBetweensModel", "laws", "[I", true)
  | 11 => ("NoBetweensModel", "begin", "[I", true)
  | 12 => ("NoBetweensModel", "step", "[I", true)
  | 13 => ("NoBetweensModel", "places", "[I", true)
  | 14 => ("NoBetweensModel", "scales", "I", false)
  | 15 => ("NoBetweensModel", "lives", "I", false)
  | 16 => ("NoBetweensModel", "placeMany", "I", false)
  | 17 => ("NoBetweensModel", "drawer", "I", false)
  | 18 => ("NoBetweensModel", "draftScales", "I", false)
  | 19 => ("NoBetweensModel", "draftLives", "I", false)
  | 20 => ("NoBetweensModel", "draftPlaces", "I", false)
  | 21 => ("NoBetweensModel", "draftDrawer", "I", false)
  | 22 => ("NoBetweensModel", "s", "[I", true)
  | 23 => ("NoBetweensModel", "w", "[I", true)
  | 24 => ("NoBetweensModel", "kept", "[I", true)
  | 25 => ("NoBetweensModel", "isKept", "[Z", true)
  | 26 => ("NoBetweensModel", "undos", "[I", true)
  | 27 => ("NoBetweensModel", "undoMany", "I", false)
  | 28 => ("NoBetweensModel", "planScale", "[I", true)
  | 29 => ("NoBetweensModel", "planBy", "[I", true)
  | 30 => ("NoBetweensModel", "planMany", "I", false)
  | 31 => ("NoBetweensModel", "bookScale", "[I", true)
  | 32 => ("NoBetweensModel", "bookYear", "[I", true)
  | 33 => ("NoBetweensModel", "bookEnd", "[I", true)
  | 34 => ("NoBetweensModel", "bookMany", "I", false)
  | 35 => ("NoBetweensModel", "row", "[I", true)
  | 36 => ("NoBetweensModel", "firstRow", "[I", true)
  | 37 => ("NoBetweensModel", "far", "[I", true)
  | _ => ("NoBetweensModel", "fewest", "[I", true)
def tyX7 : Nat → FieldType := fun k => match k with
  | 0 => .int
  | 1 => .long
  | 2 => .array .int
  | 3 => .int
  | 4 => .int
  | 5 => .int
  | 6 => .int
  | 7 => .int
  | 8 => .int
  | 9 => .array .int
  | 10 => .array .int
  | 11 => .array .int
  | 12 => .array .int
  | 13 => .array .int
  | 14 => .int
  | 15 => .int
  | 16 => .int
  | 17 => .int
  | 18 => .int
  | 19 => .int
  | 20 => .int
  | 21 => .int
  | 22 => .array .int
  | 23 => .array .int
  | 24 => .array .int
  | 25 => .array .boolean
  | 26 => .array .int
  | 27 => .int
  | 28 => .array .int
  | 29 => .array .int
  | 30 => .int
  | 31 => .array .int
  | 32 => .array .int
  | 33 => .array .int
  | 34 => .int
  | 35 => .array .int
  | 36 => .array .int
  | 37 => .array .int
  | _ => .array .int
abbrev wsX70 : List Cond := u_ws RX7 TX7 39
theorem nmX7 : ∀ a, a < 39 → ∀ b, b < 39 → a ≠ b → (TX7 a).2.1 ≠ (TX7 b).2.1 := by decide +kernel
theorem tyX7_ok : ∀ k, k < 39 → parseFieldDescriptor (TX7 k).2.2.1 = some (tyX7 k) := by decide +kernel
abbrev cX7_init : ByteArray := prog_9_method_1_code
def yX7_init : MethodName := ⟨RX7, "<init>", "()V"⟩
abbrev cX7_in : ByteArray := prog_9_method_3_code
def yX7_in : MethodName := ⟨RX7, "in", "(III)Z"⟩
abbrev cX7_type : ByteArray := prog_9_method_4_code
def yX7_type : MethodName := ⟨RX7, "type", "(I)I"⟩
abbrev cX7_clear : ByteArray := prog_9_method_5_code
def yX7_clear : MethodName := ⟨RX7, "clear", "()I"⟩
abbrev cX7_letterAt : ByteArray := prog_9_method_6_code
def yX7_letterAt : MethodName := ⟨RX7, "letterAt", "(I)I"⟩
abbrev cX7_advances : ByteArray := prog_9_method_7_code
def yX7_advances : MethodName := ⟨RX7, "advances", "()V"⟩
abbrev cX7_isWell : ByteArray := prog_9_method_8_code
def yX7_isWell : MethodName := ⟨RX7, "isWell", "()Z"⟩
abbrev cX7_takes : ByteArray := prog_9_method_9_code
def yX7_takes : MethodName := ⟨RX7, "takes", "(Z)I"⟩
abbrev cX7_number : ByteArray := prog_9_method_10_code
def yX7_number : MethodName := ⟨RX7, "number", "(II)I"⟩
abbrev cX7_mayBegin : ByteArray := prog_9_method_11_code
def yX7_mayBegin : MethodName := ⟨RX7, "mayBegin", "()Z"⟩
abbrev cX7_readsItem : ByteArray := prog_9_method_12_code
def yX7_readsItem : MethodName := ⟨RX7, "readsItem", "(I)V"⟩
abbrev cX7_land : ByteArray := prog_9_method_13_code
def yX7_land : MethodName := ⟨RX7, "land", "()I"⟩
abbrev cX7_settles : ByteArray := prog_9_method_14_code
def yX7_settles : MethodName := ⟨RX7, "settles", "()V"⟩
abbrev cX7_isScale : ByteArray := prog_9_method_15_code
def yX7_isScale : MethodName := ⟨RX7, "isScale", "(I)Z"⟩
abbrev cX7_isLife : ByteArray := prog_9_method_16_code
def yX7_isLife : MethodName := ⟨RX7, "isLife", "(I)Z"⟩
abbrev cX7_isPlace : ByteArray := prog_9_method_17_code
def yX7_isPlace : MethodName := ⟨RX7, "isPlace", "(I)Z"⟩
abbrev cX7_scale : ByteArray := prog_9_method_18_code
def yX7_scale : MethodName := ⟨RX7, "scale", "(II)I"⟩
abbrev cX7_endBy : ByteArray := prog_9_method_19_code
def yX7_endBy : MethodName := ⟨RX7, "endBy", "(IIII)I"⟩
abbrev cX7_endOf : ByteArray := prog_9_method_20_code
def yX7_endOf : MethodName := ⟨RX7, "endOf", "([III)I"⟩
abbrev cX7_endIn : ByteArray := prog_9_method_21_code
def yX7_endIn : MethodName := ⟨RX7, "endIn", "([III)I"⟩
abbrev cX7_life : ByteArray := prog_9_method_22_code
def yX7_life : MethodName := ⟨RX7, "life", "(III)I"⟩
abbrev cX7_end : ByteArray := prog_9_method_23_code
def yX7_end : MethodName := ⟨RX7, "end", "(II)I"⟩
abbrev cX7_place : ByteArray := prog_9_method_24_code
def yX7_place : MethodName := ⟨RX7, "place", "(I)I"⟩
abbrev cX7_held : ByteArray := prog_9_method_25_code
def yX7_held : MethodName := ⟨RX7, "held", "(II)I"⟩
abbrev cX7_goes : ByteArray := prog_9_method_26_code
def yX7_goes : MethodName := ⟨RX7, "goes", "([I)V"⟩
abbrev cX7_notes : ByteArray := prog_9_method_27_code
def yX7_notes : MethodName := ⟨RX7, "notes", "()V"⟩
abbrev cX7_passes : ByteArray := prog_9_method_28_code
def yX7_passes : MethodName := ⟨RX7, "passes", "(I)I"⟩
abbrev cX7_changes : ByteArray := prog_9_method_29_code
def yX7_changes : MethodName := ⟨RX7, "changes", "(III)I"⟩
abbrev cX7_isLaw : ByteArray := prog_9_method_30_code
def yX7_isLaw : MethodName := ⟨RX7, "isLaw", "(III)Z"⟩
abbrev cX7_unlawfulOn : ByteArray := prog_9_method_31_code
def yX7_unlawfulOn : MethodName := ⟨RX7, "unlawfulOn", "([II)I"⟩
abbrev cX7_unlawful : ByteArray := prog_9_method_32_code
def yX7_unlawful : MethodName := ⟨RX7, "unlawful", "([I)I"⟩
abbrev cX7_ones : ByteArray := prog_9_method_33_code
def yX7_ones : MethodName := ⟨RX7, "ones", "(I)I"⟩
abbrev cX7_law : ByteArray := prog_9_method_34_code
def yX7_law : MethodName := ⟨RX7, "law", "(III)I"⟩
abbrev cX7_undo : ByteArray := prog_9_method_35_code
def yX7_undo : MethodName := ⟨RX7, "undo", "()I"⟩
abbrev cX7_countEnds : ByteArray := prog_9_method_36_code
def yX7_countEnds : MethodName := ⟨RX7, "countEnds", "(II)I"⟩
abbrev cX7_inDrawer : ByteArray := prog_9_method_37_code
def yX7_inDrawer : MethodName := ⟨RX7, "inDrawer", "()I"⟩
abbrev cX7_now : ByteArray := prog_9_method_38_code
def yX7_now : MethodName := ⟨RX7, "now", "(I)I"⟩
abbrev cX7_asNow : ByteArray := prog_9_method_39_code
def yX7_asNow : MethodName := ⟨RX7, "asNow", "()V"⟩
abbrev cX7_behind : ByteArray := prog_9_method_40_code
def yX7_behind : MethodName := ⟨RX7, "behind", "(III)I"⟩
abbrev cX7_first : ByteArray := prog_9_method_41_code
def yX7_first : MethodName := ⟨RX7, "first", "(II)I"⟩
abbrev cX7_unlawfulYears : ByteArray := prog_9_method_42_code
def yX7_unlawfulYears : MethodName := ⟨RX7, "unlawfulYears", "()I"⟩
abbrev cX7_freed : ByteArray := prog_9_method_43_code
def yX7_freed : MethodName := ⟨RX7, "freed", "(III)I"⟩
abbrev cX7_jumpsOn : ByteArray := prog_9_method_44_code
def yX7_jumpsOn : MethodName := ⟨RX7, "jumpsOn", "(II)I"⟩
abbrev cX7_bestJump : ByteArray := prog_9_method_45_code
def yX7_bestJump : MethodName := ⟨RX7, "bestJump", "(II)I"⟩
abbrev cX7_plans : ByteArray := prog_9_method_46_code
def yX7_plans : MethodName := ⟨RX7, "plans", "(II)I"⟩
abbrev cX7_drop : ByteArray := prog_9_method_47_code
def yX7_drop : MethodName := ⟨RX7, "drop", "()I"⟩
abbrev cX7_isOrder : ByteArray := prog_9_method_48_code
def yX7_isOrder : MethodName := ⟨RX7, "isOrder", "(IIII)Z"⟩
abbrev cX7_ordersOf : ByteArray := prog_9_method_49_code
def yX7_ordersOf : MethodName := ⟨RX7, "ordersOf", "(II)I"⟩
abbrev cX7_orders : ByteArray := prog_9_method_50_code
def yX7_orders : MethodName := ⟨RX7, "orders", "(II)I"⟩
abbrev cX7_bars : ByteArray := prog_9_method_51_code
def yX7_bars : MethodName := ⟨RX7, "bars", "(I)I"⟩
abbrev cX7_canJump : ByteArray := prog_9_method_52_code
def yX7_canJump : MethodName := ⟨RX7, "canJump", "(III)Z"⟩
abbrev cX7_measures : ByteArray := prog_9_method_53_code
def yX7_measures : MethodName := ⟨RX7, "measures", "(II)V"⟩
abbrev cX7_trip : ByteArray := prog_9_method_54_code
def yX7_trip : MethodName := ⟨RX7, "trip", "(IIII)I"⟩
abbrev cX7_isPart : ByteArray := prog_9_method_55_code
def yX7_isPart : MethodName := ⟨RX7, "isPart", "(II)Z"⟩
abbrev cX7_shares : ByteArray := prog_9_method_56_code
def yX7_shares : MethodName := ⟨RX7, "shares", "(II)V"⟩
abbrev cX7_parts : ByteArray := prog_9_method_57_code
def yX7_parts : MethodName := ⟨RX7, "parts", "(III)I"⟩
abbrev cX7_books : ByteArray := prog_9_method_58_code
def yX7_books : MethodName := ⟨RX7, "books", "(III)I"⟩
abbrev cX7_burn : ByteArray := prog_9_method_59_code
def yX7_burn : MethodName := ⟨RX7, "burn", "()I"⟩
abbrev cX7_endBehind : ByteArray := prog_9_method_60_code
def yX7_endBehind : MethodName := ⟨RX7, "endBehind", "(IIII)I"⟩
abbrev cX7_isAsBooked : ByteArray := prog_9_method_61_code
def yX7_isAsBooked : MethodName := ⟨RX7, "isAsBooked", "(III)Z"⟩
abbrev cX7_fits : ByteArray := prog_9_method_62_code
def yX7_fits : MethodName := ⟨RX7, "fits", "(I)I"⟩
abbrev cX7_sure : ByteArray := prog_9_method_63_code
def yX7_sure : MethodName := ⟨RX7, "sure", "(II)I"⟩
abbrev cX7_isClash : ByteArray := prog_9_method_64_code
def yX7_isClash : MethodName := ⟨RX7, "isClash", "(II)Z"⟩
abbrev cX7_clash : ByteArray := prog_9_method_65_code
def yX7_clash : MethodName := ⟨RX7, "clash", "()I"⟩
abbrev cX7_rate : ByteArray := prog_9_method_66_code
def yX7_rate : MethodName := ⟨RX7, "rate", "(II)I"⟩
abbrev cX7_keep : ByteArray := prog_9_method_67_code
def yX7_keep : MethodName := ⟨RX7, "keep", "(I)I"⟩
abbrev cX7_back : ByteArray := prog_9_method_68_code
def yX7_back : MethodName := ⟨RX7, "back", "(I)I"⟩
abbrev cX7_count : ByteArray := prog_9_method_69_code
def yX7_count : MethodName := ⟨RX7, "count", "(I)I"⟩
abbrev cX7_trace : ByteArray := prog_9_method_70_code
def yX7_trace : MethodName := ⟨RX7, "trace", "()J"⟩
def RJ6 : String := "java/lang/Integer"
def TJ6 : u_T := fun k => match k with
  | _ => ("", "", "", false)
def tyJ6 : Nat → FieldType := fun k => match k with
  | _ => .int
abbrev wsJ60 : List Cond := u_ws RJ6 TJ6 0
theorem nmJ6 : ∀ a, a < 0 → ∀ b, b < 0 → a ≠ b → (TJ6 a).2.1 ≠ (TJ6 b).2.1 := by decide +kernel
theorem tyJ6_ok : ∀ k, k < 0 → parseFieldDescriptor (TJ6 k).2.2.1 = some (tyJ6 k) := by decide +kernel
abbrev cJ6_bitCount_0f7a4 : ByteArray := prog_10_method_49_code
def yJ6_bitCount_0f7a4 : MethodName := ⟨RJ6, "bitCount", "(I)I"⟩
def RJ9 : String := "java/lang/Math"
def TJ9 : u_T := fun k => match k with
  | _ => ("", "", "", false)
def tyJ9 : Nat → FieldType := fun k => match k with
  | _ => .int
abbrev wsJ90 : List Cond := u_ws RJ9 TJ9 0
theorem nmJ9 : ∀ a, a < 0 → ∀ b, b < 0 → a ≠ b → (TJ9 a).2.1 ≠ (TJ9 b).2.1 := by decide +kernel
theorem tyJ9_ok : ∀ k, k < 0 → parseFieldDescriptor (TJ9 k).2.2.1 = some (tyJ9 k) := by decide +kernel
abbrev cJ9_abs_0f7a4 : ByteArray := prog_11_method_59_code
def yJ9_abs_0f7a4 : MethodName := ⟨RJ9, "abs", "(I)I"⟩
abbrev cJ9_max_7cf53 : ByteArray := prog_11_method_65_code
def yJ9_max_7cf53 : MethodName := ⟨RJ9, "max", "(II)I"⟩
abbrev cJ9_min_7cf53 : ByteArray := prog_11_method_69_code
def yJ9_min_7cf53 : MethodName := ⟨RJ9, "min", "(II)I"⟩
def RJ10 : String := "java/lang/System"
def TJ10 : u_T := fun k => match k with
  | _ => ("", "", "", false)
def tyJ10 : Nat → FieldType := fun k => match k with
  | _ => .int
abbrev wsJ100 : List Cond := u_ws RJ10 TJ10 0
theorem nmJ10 : ∀ a, a < 0 → ∀ b, b < 0 → a ≠ b → (TJ10 a).2.1 ≠ (TJ10 b).2.1 := by decide +kernel
theorem tyJ10_ok : ∀ k, k < 0 → parseFieldDescriptor (TJ10 k).2.2.1 = some (tyJ10 k) := by decide +kernel
def RL : String := "NoBetweensLaw"
abbrev cL_law : ByteArray := code
def yL_law : MethodName := ⟨RL, "law", "([I)Z"⟩
set_option maxRecDepth 20000 in
abbrev vwCl : List vw_C := [(RX0, TX0, 6), (RX1, TX1, 7), (RX2, TX2, 5), (RX3, TX3, 3), (RX4, TX4, 4), (RX5, TX5, 10), (RX6, TX6, 11), (RX7, TX7, 39)]
/-- the words that every method here asks for: the good ones of the tables -/
def BIG : List Cond := lw_tbl.filter goodWord
theorem big_in {w : Cond} (i : Nat) (h : lw_tbl[i]? = some w) (hg : goodWord w = true) : w ∈ BIG := List.mem_filter.mpr ⟨List.mem_of_getElem? h, hg⟩
theorem big_sub {w : Cond} (h : w ∈ BIG) : w ∈ lw_tbl := (List.mem_filter.mp h).1
theorem big_good {w : Cond} (h : w ∈ BIG) : goodWord w = true := (List.mem_filter.mp h).2
theorem big_list (ws : List Cond) (ps : List Nat) (hp : ws = ps.filterMap (fun i => lw_tbl[i]?)) (h : ws.all goodWord = true) : ∀ w ∈ ws, w ∈ BIG := by
  intro w hw
  have h1 := List.all_eq_true.mp h w hw
  rw [hp] at hw
  obtain ⟨i, -, hi⟩ := List.mem_filterMap.mp hw
  exact big_in i hi h1
